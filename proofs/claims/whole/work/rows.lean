section
-- ===== PART A: goes FIRST, ahead of the names: the tables' words, and 'selects' of the private methods out of them =====
/-- a private method of a class that the tables say can be made, by its rows of tables_1 -/
def lw_okq (q : MethodName × Nat) : Prop := (q.1.cls ≠ "java/lang/invoke/MethodHandle" ∧ q.1.cls ≠ "java/lang/invoke/VarHandle") ∧ Cond.instantiable q.1.cls q.2 ∈ tables_1 ∧ Cond.privateMethod q.1 ∈ tables_1 ∧ Cond.instanceMethod q.1 ∈ tables_1
theorem lw_p0 : lw_okq (⟨"HoleTemplates$Symbols", "cutBrace", "(LHoleTemplates$Text;I)I"⟩, 9) := ⟨⟨by decide +kernel, by decide +kernel⟩, List.mem_of_getElem? (i := 84) (by decide +kernel), List.mem_of_getElem? (i := 253) (by decide +kernel), List.mem_of_getElem? (i := 254) (by decide +kernel)⟩
theorem lw_p1 : lw_okq (⟨"HoleTemplates$Symbols", "take", "(ICII)I"⟩, 9) := ⟨⟨by decide +kernel, by decide +kernel⟩, List.mem_of_getElem? (i := 84) (by decide +kernel), List.mem_of_getElem? (i := 257) (by decide +kernel), List.mem_of_getElem? (i := 258) (by decide +kernel)⟩
theorem lw_p2 : lw_okq (⟨"HoleTemplates$Symbols", "has", "(I)Z"⟩, 9) := ⟨⟨by decide +kernel, by decide +kernel⟩, List.mem_of_getElem? (i := 84) (by decide +kernel), List.mem_of_getElem? (i := 273) (by decide +kernel), List.mem_of_getElem? (i := 274) (by decide +kernel)⟩
theorem lw_p3 : lw_okq (⟨"HoleTemplates$Compilation", "readSymbol", "(I)I"⟩, 10) := ⟨⟨by decide +kernel, by decide +kernel⟩, List.mem_of_getElem? (i := 78) (by decide +kernel), List.mem_of_getElem? (i := 448) (by decide +kernel), List.mem_of_getElem? (i := 449) (by decide +kernel)⟩
theorem lw_p4 : lw_okq (⟨"HoleTemplates$Compilation", "readHole", "(I)Z"⟩, 10) := ⟨⟨by decide +kernel, by decide +kernel⟩, List.mem_of_getElem? (i := 78) (by decide +kernel), List.mem_of_getElem? (i := 452) (by decide +kernel), List.mem_of_getElem? (i := 453) (by decide +kernel)⟩
theorem lw_p5 : lw_okq (⟨"HoleTemplates$Context", "codeInValue", "()I"⟩, 5) := ⟨⟨by decide +kernel, by decide +kernel⟩, List.mem_of_getElem? (i := 121) (by decide +kernel), List.mem_of_getElem? (i := 460) (by decide +kernel), List.mem_of_getElem? (i := 461) (by decide +kernel)⟩
theorem lw_p6 : lw_okq (⟨"HoleTemplates$Compilation", "open", "(I)Z"⟩, 10) := ⟨⟨by decide +kernel, by decide +kernel⟩, List.mem_of_getElem? (i := 78) (by decide +kernel), List.mem_of_getElem? (i := 468) (by decide +kernel), List.mem_of_getElem? (i := 469) (by decide +kernel)⟩
theorem lw_p7 : lw_okq (⟨"HoleTemplates$Compilation", "turn", "(I)Z"⟩, 10) := ⟨⟨by decide +kernel, by decide +kernel⟩, List.mem_of_getElem? (i := 78) (by decide +kernel), List.mem_of_getElem? (i := 476) (by decide +kernel), List.mem_of_getElem? (i := 477) (by decide +kernel)⟩
theorem lw_p8 : lw_okq (⟨"HoleTemplates$Compilation", "close", "(I)Z"⟩, 10) := ⟨⟨by decide +kernel, by decide +kernel⟩, List.mem_of_getElem? (i := 78) (by decide +kernel), List.mem_of_getElem? (i := 488) (by decide +kernel), List.mem_of_getElem? (i := 489) (by decide +kernel)⟩
theorem lw_p9 : lw_okq (⟨"java/lang/Throwable", "fillInStackTrace", "(I)Ljava/lang/Throwable;"⟩, 6) := ⟨⟨by decide +kernel, by decide +kernel⟩, List.mem_of_getElem? (i := 570) (by decide +kernel), List.mem_of_getElem? (i := 568) (by decide +kernel), List.mem_of_getElem? (i := 569) (by decide +kernel)⟩
theorem lw_p10 : lw_okq (⟨"HoleTemplates$Writer", "span", "(LHoleTemplates$Symbols;LHoleTemplates$Items;III)V"⟩, 1) := ⟨⟨by decide +kernel, by decide +kernel⟩, List.mem_of_getElem? (i := 185) (by decide +kernel), List.mem_of_getElem? (i := 703) (by decide +kernel), List.mem_of_getElem? (i := 704) (by decide +kernel)⟩
theorem lw_p11 : lw_okq (⟨"HoleTemplates$Writer", "choice", "(LHoleTemplates$Symbols;LHoleTemplates$Items;II)V"⟩, 1) := ⟨⟨by decide +kernel, by decide +kernel⟩, List.mem_of_getElem? (i := 185) (by decide +kernel), List.mem_of_getElem? (i := 871) (by decide +kernel), List.mem_of_getElem? (i := 872) (by decide +kernel)⟩
theorem lw_p12 : lw_okq (⟨"HoleTemplates$Writer", "loop", "(LHoleTemplates$Symbols;LHoleTemplates$Items;II)V"⟩, 1) := ⟨⟨by decide +kernel, by decide +kernel⟩, List.mem_of_getElem? (i := 185) (by decide +kernel), List.mem_of_getElem? (i := 884) (by decide +kernel), List.mem_of_getElem? (i := 885) (by decide +kernel)⟩
theorem lw_p13 : lw_okq (⟨"HoleTemplatesModel", "build", "()Z"⟩, 37) := ⟨⟨by decide +kernel, by decide +kernel⟩, List.mem_of_getElem? (i := 900) (by decide +kernel), List.mem_of_getElem? (i := 1043) (by decide +kernel), List.mem_of_getElem? (i := 1044) (by decide +kernel)⟩
theorem lw_p14 : lw_okq (⟨"HoleTemplatesModel", "findSymbols", "()V"⟩, 37) := ⟨⟨by decide +kernel, by decide +kernel⟩, List.mem_of_getElem? (i := 900) (by decide +kernel), List.mem_of_getElem? (i := 1047) (by decide +kernel), List.mem_of_getElem? (i := 1048) (by decide +kernel)⟩
theorem lw_p15 : lw_okq (⟨"HoleTemplatesModel", "pushOpening", "(I)I"⟩, 37) := ⟨⟨by decide +kernel, by decide +kernel⟩, List.mem_of_getElem? (i := 900) (by decide +kernel), List.mem_of_getElem? (i := 1051) (by decide +kernel), List.mem_of_getElem? (i := 1052) (by decide +kernel)⟩
def lw_privs_1 : List (MethodName × Nat) := [(⟨"HoleTemplates$Symbols", "cutBrace", "(LHoleTemplates$Text;I)I"⟩, 9), (⟨"HoleTemplates$Symbols", "take", "(ICII)I"⟩, 9), (⟨"HoleTemplates$Symbols", "has", "(I)Z"⟩, 9), (⟨"HoleTemplates$Compilation", "readSymbol", "(I)I"⟩, 10), (⟨"HoleTemplates$Compilation", "readHole", "(I)Z"⟩, 10), (⟨"HoleTemplates$Context", "codeInValue", "()I"⟩, 5), (⟨"HoleTemplates$Compilation", "open", "(I)Z"⟩, 10), (⟨"HoleTemplates$Compilation", "turn", "(I)Z"⟩, 10), (⟨"HoleTemplates$Compilation", "close", "(I)Z"⟩, 10), (⟨"java/lang/Throwable", "fillInStackTrace", "(I)Ljava/lang/Throwable;"⟩, 6), (⟨"HoleTemplates$Writer", "span", "(LHoleTemplates$Symbols;LHoleTemplates$Items;III)V"⟩, 1), (⟨"HoleTemplates$Writer", "choice", "(LHoleTemplates$Symbols;LHoleTemplates$Items;II)V"⟩, 1), (⟨"HoleTemplates$Writer", "loop", "(LHoleTemplates$Symbols;LHoleTemplates$Items;II)V"⟩, 1), (⟨"HoleTemplatesModel", "build", "()Z"⟩, 37), (⟨"HoleTemplatesModel", "findSymbols", "()V"⟩, 37), (⟨"HoleTemplatesModel", "pushOpening", "(I)I"⟩, 37)]
theorem lw_r1 : ∀ q ∈ lw_privs_1, lw_okq q := List.forall_mem_cons.mpr ⟨lw_p0, List.forall_mem_cons.mpr ⟨lw_p1, List.forall_mem_cons.mpr ⟨lw_p2, List.forall_mem_cons.mpr ⟨lw_p3, List.forall_mem_cons.mpr ⟨lw_p4, List.forall_mem_cons.mpr ⟨lw_p5, List.forall_mem_cons.mpr ⟨lw_p6, List.forall_mem_cons.mpr ⟨lw_p7, List.forall_mem_cons.mpr ⟨lw_p8, List.forall_mem_cons.mpr ⟨lw_p9, List.forall_mem_cons.mpr ⟨lw_p10, List.forall_mem_cons.mpr ⟨lw_p11, List.forall_mem_cons.mpr ⟨lw_p12, List.forall_mem_cons.mpr ⟨lw_p13, List.forall_mem_cons.mpr ⟨lw_p14, List.forall_mem_cons.mpr ⟨lw_p15, fun _ h => absurd h List.not_mem_nil⟩⟩⟩⟩⟩⟩⟩⟩⟩⟩⟩⟩⟩⟩⟩⟩
theorem lw_p16 : lw_okq (⟨"HoleTemplatesModel", "at", "(I)C"⟩, 37) := ⟨⟨by decide +kernel, by decide +kernel⟩, List.mem_of_getElem? (i := 900) (by decide +kernel), List.mem_of_getElem? (i := 1055) (by decide +kernel), List.mem_of_getElem? (i := 1056) (by decide +kernel)⟩
theorem lw_p17 : lw_okq (⟨"HoleTemplatesModel", "push", "(ICII)I"⟩, 37) := ⟨⟨by decide +kernel, by decide +kernel⟩, List.mem_of_getElem? (i := 900) (by decide +kernel), List.mem_of_getElem? (i := 1059) (by decide +kernel), List.mem_of_getElem? (i := 1060) (by decide +kernel)⟩
theorem lw_p18 : lw_okq (⟨"HoleTemplatesModel", "go", "(I)V"⟩, 37) := ⟨⟨by decide +kernel, by decide +kernel⟩, List.mem_of_getElem? (i := 900) (by decide +kernel), List.mem_of_getElem? (i := 1066) (by decide +kernel), List.mem_of_getElem? (i := 1067) (by decide +kernel)⟩
theorem lw_p19 : lw_okq (⟨"HoleTemplatesModel", "piece", "(I)I"⟩, 37) := ⟨⟨by decide +kernel, by decide +kernel⟩, List.mem_of_getElem? (i := 900) (by decide +kernel), List.mem_of_getElem? (i := 1070) (by decide +kernel), List.mem_of_getElem? (i := 1071) (by decide +kernel)⟩
theorem lw_p20 : lw_okq (⟨"HoleTemplatesModel", "textPiece", "(I)I"⟩, 37) := ⟨⟨by decide +kernel, by decide +kernel⟩, List.mem_of_getElem? (i := 900) (by decide +kernel), List.mem_of_getElem? (i := 1074) (by decide +kernel), List.mem_of_getElem? (i := 1075) (by decide +kernel)⟩
theorem lw_p21 : lw_okq (⟨"HoleTemplatesModel", "ch", "(I)C"⟩, 37) := ⟨⟨by decide +kernel, by decide +kernel⟩, List.mem_of_getElem? (i := 900) (by decide +kernel), List.mem_of_getElem? (i := 1078) (by decide +kernel), List.mem_of_getElem? (i := 1079) (by decide +kernel)⟩
theorem lw_p22 : lw_okq (⟨"HoleTemplatesModel", "isAmpersand", "(I)Z"⟩, 37) := ⟨⟨by decide +kernel, by decide +kernel⟩, List.mem_of_getElem? (i := 900) (by decide +kernel), List.mem_of_getElem? (i := 1082) (by decide +kernel), List.mem_of_getElem? (i := 1083) (by decide +kernel)⟩
theorem lw_p23 : lw_okq (⟨"HoleTemplatesModel", "begins", "(IC)Z"⟩, 37) := ⟨⟨by decide +kernel, by decide +kernel⟩, List.mem_of_getElem? (i := 900) (by decide +kernel), List.mem_of_getElem? (i := 1092) (by decide +kernel), List.mem_of_getElem? (i := 1093) (by decide +kernel)⟩
theorem lw_p24 : lw_okq (⟨"HoleTemplatesModel", "lettersFrom", "(I)I"⟩, 37) := ⟨⟨by decide +kernel, by decide +kernel⟩, List.mem_of_getElem? (i := 900) (by decide +kernel), List.mem_of_getElem? (i := 1096) (by decide +kernel), List.mem_of_getElem? (i := 1097) (by decide +kernel)⟩
theorem lw_p25 : lw_okq (⟨"HoleTemplatesModel", "isScript", "(II)Z"⟩, 37) := ⟨⟨by decide +kernel, by decide +kernel⟩, List.mem_of_getElem? (i := 900) (by decide +kernel), List.mem_of_getElem? (i := 1103) (by decide +kernel), List.mem_of_getElem? (i := 1104) (by decide +kernel)⟩
theorem lw_p26 : lw_okq (⟨"HoleTemplatesModel", "spells", "(IIICCCCCC)Z"⟩, 37) := ⟨⟨by decide +kernel, by decide +kernel⟩, List.mem_of_getElem? (i := 900) (by decide +kernel), List.mem_of_getElem? (i := 1107) (by decide +kernel), List.mem_of_getElem? (i := 1108) (by decide +kernel)⟩
theorem lw_p27 : lw_okq (⟨"HoleTemplatesModel", "isStyle", "(II)Z"⟩, 37) := ⟨⟨by decide +kernel, by decide +kernel⟩, List.mem_of_getElem? (i := 900) (by decide +kernel), List.mem_of_getElem? (i := 1111) (by decide +kernel), List.mem_of_getElem? (i := 1112) (by decide +kernel)⟩
theorem lw_p28 : lw_okq (⟨"HoleTemplatesModel", "isTitle", "(II)Z"⟩, 37) := ⟨⟨by decide +kernel, by decide +kernel⟩, List.mem_of_getElem? (i := 900) (by decide +kernel), List.mem_of_getElem? (i := 1115) (by decide +kernel), List.mem_of_getElem? (i := 1116) (by decide +kernel)⟩
theorem lw_p29 : lw_okq (⟨"HoleTemplatesModel", "tagPiece", "(I)I"⟩, 37) := ⟨⟨by decide +kernel, by decide +kernel⟩, List.mem_of_getElem? (i := 900) (by decide +kernel), List.mem_of_getElem? (i := 1119) (by decide +kernel), List.mem_of_getElem? (i := 1120) (by decide +kernel)⟩
theorem lw_p30 : lw_okq (⟨"HoleTemplatesModel", "attribute", "(I)I"⟩, 37) := ⟨⟨by decide +kernel, by decide +kernel⟩, List.mem_of_getElem? (i := 900) (by decide +kernel), List.mem_of_getElem? (i := 1123) (by decide +kernel), List.mem_of_getElem? (i := 1124) (by decide +kernel)⟩
theorem lw_p31 : lw_okq (⟨"HoleTemplatesModel", "blanksFrom", "(I)I"⟩, 37) := ⟨⟨by decide +kernel, by decide +kernel⟩, List.mem_of_getElem? (i := 900) (by decide +kernel), List.mem_of_getElem? (i := 1127) (by decide +kernel), List.mem_of_getElem? (i := 1128) (by decide +kernel)⟩
def lw_privs_2 : List (MethodName × Nat) := [(⟨"HoleTemplatesModel", "at", "(I)C"⟩, 37), (⟨"HoleTemplatesModel", "push", "(ICII)I"⟩, 37), (⟨"HoleTemplatesModel", "go", "(I)V"⟩, 37), (⟨"HoleTemplatesModel", "piece", "(I)I"⟩, 37), (⟨"HoleTemplatesModel", "textPiece", "(I)I"⟩, 37), (⟨"HoleTemplatesModel", "ch", "(I)C"⟩, 37), (⟨"HoleTemplatesModel", "isAmpersand", "(I)Z"⟩, 37), (⟨"HoleTemplatesModel", "begins", "(IC)Z"⟩, 37), (⟨"HoleTemplatesModel", "lettersFrom", "(I)I"⟩, 37), (⟨"HoleTemplatesModel", "isScript", "(II)Z"⟩, 37), (⟨"HoleTemplatesModel", "spells", "(IIICCCCCC)Z"⟩, 37), (⟨"HoleTemplatesModel", "isStyle", "(II)Z"⟩, 37), (⟨"HoleTemplatesModel", "isTitle", "(II)Z"⟩, 37), (⟨"HoleTemplatesModel", "tagPiece", "(I)I"⟩, 37), (⟨"HoleTemplatesModel", "attribute", "(I)I"⟩, 37), (⟨"HoleTemplatesModel", "blanksFrom", "(I)I"⟩, 37)]
theorem lw_r2 : ∀ q ∈ lw_privs_2, lw_okq q := List.forall_mem_cons.mpr ⟨lw_p16, List.forall_mem_cons.mpr ⟨lw_p17, List.forall_mem_cons.mpr ⟨lw_p18, List.forall_mem_cons.mpr ⟨lw_p19, List.forall_mem_cons.mpr ⟨lw_p20, List.forall_mem_cons.mpr ⟨lw_p21, List.forall_mem_cons.mpr ⟨lw_p22, List.forall_mem_cons.mpr ⟨lw_p23, List.forall_mem_cons.mpr ⟨lw_p24, List.forall_mem_cons.mpr ⟨lw_p25, List.forall_mem_cons.mpr ⟨lw_p26, List.forall_mem_cons.mpr ⟨lw_p27, List.forall_mem_cons.mpr ⟨lw_p28, List.forall_mem_cons.mpr ⟨lw_p29, List.forall_mem_cons.mpr ⟨lw_p30, List.forall_mem_cons.mpr ⟨lw_p31, fun _ h => absurd h List.not_mem_nil⟩⟩⟩⟩⟩⟩⟩⟩⟩⟩⟩⟩⟩⟩⟩⟩
theorem lw_p32 : lw_okq (⟨"HoleTemplatesModel", "kindOf", "(II)I"⟩, 37) := ⟨⟨by decide +kernel, by decide +kernel⟩, List.mem_of_getElem? (i := 900) (by decide +kernel), List.mem_of_getElem? (i := 1131) (by decide +kernel), List.mem_of_getElem? (i := 1132) (by decide +kernel)⟩
theorem lw_p33 : lw_okq (⟨"HoleTemplatesModel", "valuePiece", "(I)I"⟩, 37) := ⟨⟨by decide +kernel, by decide +kernel⟩, List.mem_of_getElem? (i := 900) (by decide +kernel), List.mem_of_getElem? (i := 1135) (by decide +kernel), List.mem_of_getElem? (i := 1136) (by decide +kernel)⟩
theorem lw_p34 : lw_okq (⟨"HoleTemplatesModel", "urlPiece", "(I)I"⟩, 37) := ⟨⟨by decide +kernel, by decide +kernel⟩, List.mem_of_getElem? (i := 900) (by decide +kernel), List.mem_of_getElem? (i := 1139) (by decide +kernel), List.mem_of_getElem? (i := 1140) (by decide +kernel)⟩
theorem lw_p35 : lw_okq (⟨"HoleTemplatesModel", "codePiece", "(IZ)I"⟩, 37) := ⟨⟨by decide +kernel, by decide +kernel⟩, List.mem_of_getElem? (i := 900) (by decide +kernel), List.mem_of_getElem? (i := 1143) (by decide +kernel), List.mem_of_getElem? (i := 1144) (by decide +kernel)⟩
theorem lw_p36 : lw_okq (⟨"HoleTemplatesModel", "openPiece", "(IZ)I"⟩, 37) := ⟨⟨by decide +kernel, by decide +kernel⟩, List.mem_of_getElem? (i := 900) (by decide +kernel), List.mem_of_getElem? (i := 1147) (by decide +kernel), List.mem_of_getElem? (i := 1148) (by decide +kernel)⟩
theorem lw_p37 : lw_okq (⟨"HoleTemplatesModel", "stringPiece", "(I)I"⟩, 37) := ⟨⟨by decide +kernel, by decide +kernel⟩, List.mem_of_getElem? (i := 900) (by decide +kernel), List.mem_of_getElem? (i := 1151) (by decide +kernel), List.mem_of_getElem? (i := 1152) (by decide +kernel)⟩
theorem lw_p38 : lw_okq (⟨"HoleTemplatesModel", "titlePiece", "(I)I"⟩, 37) := ⟨⟨by decide +kernel, by decide +kernel⟩, List.mem_of_getElem? (i := 900) (by decide +kernel), List.mem_of_getElem? (i := 1155) (by decide +kernel), List.mem_of_getElem? (i := 1156) (by decide +kernel)⟩
theorem lw_p39 : lw_okq (⟨"HoleTemplatesModel", "commentPiece", "(I)I"⟩, 37) := ⟨⟨by decide +kernel, by decide +kernel⟩, List.mem_of_getElem? (i := 900) (by decide +kernel), List.mem_of_getElem? (i := 1159) (by decide +kernel), List.mem_of_getElem? (i := 1160) (by decide +kernel)⟩
theorem lw_p40 : lw_okq (⟨"HoleTemplatesModel", "insidePiece", "(IZ)I"⟩, 37) := ⟨⟨by decide +kernel, by decide +kernel⟩, List.mem_of_getElem? (i := 900) (by decide +kernel), List.mem_of_getElem? (i := 1163) (by decide +kernel), List.mem_of_getElem? (i := 1164) (by decide +kernel)⟩
theorem lw_p41 : lw_okq (⟨"HoleTemplatesModel", "readSymbol", "(I)Z"⟩, 37) := ⟨⟨by decide +kernel, by decide +kernel⟩, List.mem_of_getElem? (i := 900) (by decide +kernel), List.mem_of_getElem? (i := 1167) (by decide +kernel), List.mem_of_getElem? (i := 1168) (by decide +kernel)⟩
theorem lw_p42 : lw_okq (⟨"HoleTemplatesModel", "readHole", "(I)Z"⟩, 37) := ⟨⟨by decide +kernel, by decide +kernel⟩, List.mem_of_getElem? (i := 900) (by decide +kernel), List.mem_of_getElem? (i := 1171) (by decide +kernel), List.mem_of_getElem? (i := 1172) (by decide +kernel)⟩
theorem lw_p43 : lw_okq (⟨"HoleTemplatesModel", "holeContext", "()I"⟩, 37) := ⟨⟨by decide +kernel, by decide +kernel⟩, List.mem_of_getElem? (i := 900) (by decide +kernel), List.mem_of_getElem? (i := 1175) (by decide +kernel), List.mem_of_getElem? (i := 1176) (by decide +kernel)⟩
theorem lw_p44 : lw_okq (⟨"HoleTemplatesModel", "readOpening", "(I)Z"⟩, 37) := ⟨⟨by decide +kernel, by decide +kernel⟩, List.mem_of_getElem? (i := 900) (by decide +kernel), List.mem_of_getElem? (i := 1179) (by decide +kernel), List.mem_of_getElem? (i := 1180) (by decide +kernel)⟩
theorem lw_p45 : lw_okq (⟨"HoleTemplatesModel", "state", "()I"⟩, 37) := ⟨⟨by decide +kernel, by decide +kernel⟩, List.mem_of_getElem? (i := 900) (by decide +kernel), List.mem_of_getElem? (i := 1183) (by decide +kernel), List.mem_of_getElem? (i := 1184) (by decide +kernel)⟩
theorem lw_p46 : lw_okq (⟨"HoleTemplatesModel", "readOtherwise", "(I)Z"⟩, 37) := ⟨⟨by decide +kernel, by decide +kernel⟩, List.mem_of_getElem? (i := 900) (by decide +kernel), List.mem_of_getElem? (i := 1187) (by decide +kernel), List.mem_of_getElem? (i := 1188) (by decide +kernel)⟩
theorem lw_p47 : lw_okq (⟨"HoleTemplatesModel", "restore", "(I)V"⟩, 37) := ⟨⟨by decide +kernel, by decide +kernel⟩, List.mem_of_getElem? (i := 900) (by decide +kernel), List.mem_of_getElem? (i := 1191) (by decide +kernel), List.mem_of_getElem? (i := 1192) (by decide +kernel)⟩
def lw_privs_3 : List (MethodName × Nat) := [(⟨"HoleTemplatesModel", "kindOf", "(II)I"⟩, 37), (⟨"HoleTemplatesModel", "valuePiece", "(I)I"⟩, 37), (⟨"HoleTemplatesModel", "urlPiece", "(I)I"⟩, 37), (⟨"HoleTemplatesModel", "codePiece", "(IZ)I"⟩, 37), (⟨"HoleTemplatesModel", "openPiece", "(IZ)I"⟩, 37), (⟨"HoleTemplatesModel", "stringPiece", "(I)I"⟩, 37), (⟨"HoleTemplatesModel", "titlePiece", "(I)I"⟩, 37), (⟨"HoleTemplatesModel", "commentPiece", "(I)I"⟩, 37), (⟨"HoleTemplatesModel", "insidePiece", "(IZ)I"⟩, 37), (⟨"HoleTemplatesModel", "readSymbol", "(I)Z"⟩, 37), (⟨"HoleTemplatesModel", "readHole", "(I)Z"⟩, 37), (⟨"HoleTemplatesModel", "holeContext", "()I"⟩, 37), (⟨"HoleTemplatesModel", "readOpening", "(I)Z"⟩, 37), (⟨"HoleTemplatesModel", "state", "()I"⟩, 37), (⟨"HoleTemplatesModel", "readOtherwise", "(I)Z"⟩, 37), (⟨"HoleTemplatesModel", "restore", "(I)V"⟩, 37)]
theorem lw_r3 : ∀ q ∈ lw_privs_3, lw_okq q := List.forall_mem_cons.mpr ⟨lw_p32, List.forall_mem_cons.mpr ⟨lw_p33, List.forall_mem_cons.mpr ⟨lw_p34, List.forall_mem_cons.mpr ⟨lw_p35, List.forall_mem_cons.mpr ⟨lw_p36, List.forall_mem_cons.mpr ⟨lw_p37, List.forall_mem_cons.mpr ⟨lw_p38, List.forall_mem_cons.mpr ⟨lw_p39, List.forall_mem_cons.mpr ⟨lw_p40, List.forall_mem_cons.mpr ⟨lw_p41, List.forall_mem_cons.mpr ⟨lw_p42, List.forall_mem_cons.mpr ⟨lw_p43, List.forall_mem_cons.mpr ⟨lw_p44, List.forall_mem_cons.mpr ⟨lw_p45, List.forall_mem_cons.mpr ⟨lw_p46, List.forall_mem_cons.mpr ⟨lw_p47, fun _ h => absurd h List.not_mem_nil⟩⟩⟩⟩⟩⟩⟩⟩⟩⟩⟩⟩⟩⟩⟩⟩
theorem lw_p48 : lw_okq (⟨"HoleTemplatesModel", "readClose", "(I)Z"⟩, 37) := ⟨⟨by decide +kernel, by decide +kernel⟩, List.mem_of_getElem? (i := 900) (by decide +kernel), List.mem_of_getElem? (i := 1195) (by decide +kernel), List.mem_of_getElem? (i := 1196) (by decide +kernel)⟩
theorem lw_p49 : lw_okq (⟨"HoleTemplatesModel", "put", "(C)V"⟩, 37) := ⟨⟨by decide +kernel, by decide +kernel⟩, List.mem_of_getElem? (i := 900) (by decide +kernel), List.mem_of_getElem? (i := 1223) (by decide +kernel), List.mem_of_getElem? (i := 1224) (by decide +kernel)⟩
theorem lw_p50 : lw_okq (⟨"HoleTemplatesModel", "variable", "(I)I"⟩, 37) := ⟨⟨by decide +kernel, by decide +kernel⟩, List.mem_of_getElem? (i := 900) (by decide +kernel), List.mem_of_getElem? (i := 1227) (by decide +kernel), List.mem_of_getElem? (i := 1228) (by decide +kernel)⟩
theorem lw_p51 : lw_okq (⟨"HoleTemplatesModel", "firstItem", "(I)I"⟩, 37) := ⟨⟨by decide +kernel, by decide +kernel⟩, List.mem_of_getElem? (i := 900) (by decide +kernel), List.mem_of_getElem? (i := 1231) (by decide +kernel), List.mem_of_getElem? (i := 1232) (by decide +kernel)⟩
theorem lw_p52 : lw_okq (⟨"HoleTemplatesModel", "putItem", "(II)V"⟩, 37) := ⟨⟨by decide +kernel, by decide +kernel⟩, List.mem_of_getElem? (i := 900) (by decide +kernel), List.mem_of_getElem? (i := 1235) (by decide +kernel), List.mem_of_getElem? (i := 1236) (by decide +kernel)⟩
theorem lw_p53 : lw_okq (⟨"HoleTemplatesModel", "isOff", "(I)Z"⟩, 37) := ⟨⟨by decide +kernel, by decide +kernel⟩, List.mem_of_getElem? (i := 900) (by decide +kernel), List.mem_of_getElem? (i := 1239) (by decide +kernel), List.mem_of_getElem? (i := 1240) (by decide +kernel)⟩
theorem lw_p54 : lw_okq (⟨"HoleTemplatesModel", "isSafe", "(II)Z"⟩, 37) := ⟨⟨by decide +kernel, by decide +kernel⟩, List.mem_of_getElem? (i := 900) (by decide +kernel), List.mem_of_getElem? (i := 1243) (by decide +kernel), List.mem_of_getElem? (i := 1244) (by decide +kernel)⟩
theorem lw_p55 : lw_okq (⟨"HoleTemplatesModel", "small", "(C)C"⟩, 37) := ⟨⟨by decide +kernel, by decide +kernel⟩, List.mem_of_getElem? (i := 900) (by decide +kernel), List.mem_of_getElem? (i := 1247) (by decide +kernel), List.mem_of_getElem? (i := 1248) (by decide +kernel)⟩
theorem lw_p56 : lw_okq (⟨"HoleTemplatesModel", "put5", "(CCCCC)V"⟩, 37) := ⟨⟨by decide +kernel, by decide +kernel⟩, List.mem_of_getElem? (i := 900) (by decide +kernel), List.mem_of_getElem? (i := 1251) (by decide +kernel), List.mem_of_getElem? (i := 1252) (by decide +kernel)⟩
theorem lw_p57 : lw_okq (⟨"HoleTemplatesModel", "isRule", "(I)Z"⟩, 37) := ⟨⟨by decide +kernel, by decide +kernel⟩, List.mem_of_getElem? (i := 900) (by decide +kernel), List.mem_of_getElem? (i := 1255) (by decide +kernel), List.mem_of_getElem? (i := 1256) (by decide +kernel)⟩
theorem lw_p58 : lw_okq (⟨"HoleTemplatesModel", "putQuote", "(I)V"⟩, 37) := ⟨⟨by decide +kernel, by decide +kernel⟩, List.mem_of_getElem? (i := 900) (by decide +kernel), List.mem_of_getElem? (i := 1259) (by decide +kernel), List.mem_of_getElem? (i := 1260) (by decide +kernel)⟩
theorem lw_p59 : lw_okq (⟨"HoleTemplatesModel", "putPlain", "(C)V"⟩, 37) := ⟨⟨by decide +kernel, by decide +kernel⟩, List.mem_of_getElem? (i := 900) (by decide +kernel), List.mem_of_getElem? (i := 1263) (by decide +kernel), List.mem_of_getElem? (i := 1264) (by decide +kernel)⟩
theorem lw_p60 : lw_okq (⟨"HoleTemplatesModel", "putUrl", "(CI)V"⟩, 37) := ⟨⟨by decide +kernel, by decide +kernel⟩, List.mem_of_getElem? (i := 900) (by decide +kernel), List.mem_of_getElem? (i := 1267) (by decide +kernel), List.mem_of_getElem? (i := 1268) (by decide +kernel)⟩
theorem lw_p61 : lw_okq (⟨"HoleTemplatesModel", "putHex", "(C)V"⟩, 37) := ⟨⟨by decide +kernel, by decide +kernel⟩, List.mem_of_getElem? (i := 900) (by decide +kernel), List.mem_of_getElem? (i := 1274) (by decide +kernel), List.mem_of_getElem? (i := 1275) (by decide +kernel)⟩
theorem lw_p62 : lw_okq (⟨"HoleTemplatesModel", "hex", "(I)C"⟩, 37) := ⟨⟨by decide +kernel, by decide +kernel⟩, List.mem_of_getElem? (i := 900) (by decide +kernel), List.mem_of_getElem? (i := 1278) (by decide +kernel), List.mem_of_getElem? (i := 1279) (by decide +kernel)⟩
theorem lw_p63 : lw_okq (⟨"HoleTemplatesModel", "putCode", "(CZ)V"⟩, 37) := ⟨⟨by decide +kernel, by decide +kernel⟩, List.mem_of_getElem? (i := 900) (by decide +kernel), List.mem_of_getElem? (i := 1282) (by decide +kernel), List.mem_of_getElem? (i := 1283) (by decide +kernel)⟩
def lw_privs_4 : List (MethodName × Nat) := [(⟨"HoleTemplatesModel", "readClose", "(I)Z"⟩, 37), (⟨"HoleTemplatesModel", "put", "(C)V"⟩, 37), (⟨"HoleTemplatesModel", "variable", "(I)I"⟩, 37), (⟨"HoleTemplatesModel", "firstItem", "(I)I"⟩, 37), (⟨"HoleTemplatesModel", "putItem", "(II)V"⟩, 37), (⟨"HoleTemplatesModel", "isOff", "(I)Z"⟩, 37), (⟨"HoleTemplatesModel", "isSafe", "(II)Z"⟩, 37), (⟨"HoleTemplatesModel", "small", "(C)C"⟩, 37), (⟨"HoleTemplatesModel", "put5", "(CCCCC)V"⟩, 37), (⟨"HoleTemplatesModel", "isRule", "(I)Z"⟩, 37), (⟨"HoleTemplatesModel", "putQuote", "(I)V"⟩, 37), (⟨"HoleTemplatesModel", "putPlain", "(C)V"⟩, 37), (⟨"HoleTemplatesModel", "putUrl", "(CI)V"⟩, 37), (⟨"HoleTemplatesModel", "putHex", "(C)V"⟩, 37), (⟨"HoleTemplatesModel", "hex", "(I)C"⟩, 37), (⟨"HoleTemplatesModel", "putCode", "(CZ)V"⟩, 37)]
theorem lw_r4 : ∀ q ∈ lw_privs_4, lw_okq q := List.forall_mem_cons.mpr ⟨lw_p48, List.forall_mem_cons.mpr ⟨lw_p49, List.forall_mem_cons.mpr ⟨lw_p50, List.forall_mem_cons.mpr ⟨lw_p51, List.forall_mem_cons.mpr ⟨lw_p52, List.forall_mem_cons.mpr ⟨lw_p53, List.forall_mem_cons.mpr ⟨lw_p54, List.forall_mem_cons.mpr ⟨lw_p55, List.forall_mem_cons.mpr ⟨lw_p56, List.forall_mem_cons.mpr ⟨lw_p57, List.forall_mem_cons.mpr ⟨lw_p58, List.forall_mem_cons.mpr ⟨lw_p59, List.forall_mem_cons.mpr ⟨lw_p60, List.forall_mem_cons.mpr ⟨lw_p61, List.forall_mem_cons.mpr ⟨lw_p62, List.forall_mem_cons.mpr ⟨lw_p63, fun _ h => absurd h List.not_mem_nil⟩⟩⟩⟩⟩⟩⟩⟩⟩⟩⟩⟩⟩⟩⟩⟩
theorem lw_p64 : lw_okq (⟨"HoleTemplatesModel", "choose", "(I)I"⟩, 37) := ⟨⟨by decide +kernel, by decide +kernel⟩, List.mem_of_getElem? (i := 900) (by decide +kernel), List.mem_of_getElem? (i := 1289) (by decide +kernel), List.mem_of_getElem? (i := 1290) (by decide +kernel)⟩
theorem lw_p65 : lw_okq (⟨"HoleTemplatesModel", "beginLoop", "(I)I"⟩, 37) := ⟨⟨by decide +kernel, by decide +kernel⟩, List.mem_of_getElem? (i := 900) (by decide +kernel), List.mem_of_getElem? (i := 1293) (by decide +kernel), List.mem_of_getElem? (i := 1294) (by decide +kernel)⟩
theorem lw_p66 : lw_okq (⟨"HoleTemplatesModel", "close", "(I)I"⟩, 37) := ⟨⟨by decide +kernel, by decide +kernel⟩, List.mem_of_getElem? (i := 900) (by decide +kernel), List.mem_of_getElem? (i := 1297) (by decide +kernel), List.mem_of_getElem? (i := 1298) (by decide +kernel)⟩
def lw_privs_5 : List (MethodName × Nat) := [(⟨"HoleTemplatesModel", "choose", "(I)I"⟩, 37), (⟨"HoleTemplatesModel", "beginLoop", "(I)I"⟩, 37), (⟨"HoleTemplatesModel", "close", "(I)I"⟩, 37)]
theorem lw_r5 : ∀ q ∈ lw_privs_5, lw_okq q := List.forall_mem_cons.mpr ⟨lw_p64, List.forall_mem_cons.mpr ⟨lw_p65, List.forall_mem_cons.mpr ⟨lw_p66, fun _ h => absurd h List.not_mem_nil⟩⟩⟩
def lw_privs : List (MethodName × Nat) := lw_privs_1 ++ (lw_privs_2 ++ (lw_privs_3 ++ (lw_privs_4 ++ (lw_privs_5))))
def lw_tbl : List Cond := k2_sels lw_privs ++ tables_1
theorem lw_privs_ok : ∀ q ∈ lw_privs, lw_okq q := by
  show ∀ q ∈ lw_privs_1 ++ (lw_privs_2 ++ (lw_privs_3 ++ (lw_privs_4 ++ (lw_privs_5)))), lw_okq q
  exact List.forall_mem_append.mpr ⟨lw_r1, List.forall_mem_append.mpr ⟨lw_r2, List.forall_mem_append.mpr ⟨lw_r3, List.forall_mem_append.mpr ⟨lw_r4, lw_r5⟩⟩⟩⟩
end
section
/-! the code of each method as a table -/
def kd10_init : List (Nat × Instr × Nat) := [(0, .aload_n 0, 1), (1, .invokespecial 1, 3), (4, .aload_n 0, 1), (5, .bipush 40, 2), (7, .newarray .char, 2), (9, .putfield 7, 3), (12, .aload_n 0, 1), (13, .sipush 240, 3), (16, .newarray .char, 2), (18, .putfield 13, 3), (21, .aload_n 0, 1), (22, .sipush 240, 3), (25, .newarray .int, 2), (27, .putfield 16, 3), (30, .aload_n 0, 1), (31, .sipush 240, 3), (34, .newarray .char, 2), (36, .putfield 20, 3), (39, .aload_n 0, 1), (40, .sipush 240, 3), (43, .newarray .int, 2), (45, .putfield 23, 3), (48, .aload_n 0, 1), (49, .sipush 240, 3), (52, .newarray .int, 2), (54, .putfield 26, 3), (57, .aload_n 0, 1), (58, .sipush 240, 3), (61, .newarray .int, 2), (63, .putfield 29, 3), (66, .aload_n 0, 1), (67, .sipush 240, 3), (70, .newarray .int, 2), (72, .putfield 32, 3), (75, .aload_n 0, 1), (76, .sipush 240, 3), (79, .newarray .int, 2), (81, .putfield 35, 3), (84, .aload_n 0, 1), (85, .iconst (-1), 1), (86, .putfield 38, 3), (89, .aload_n 0, 1), (90, .bipush 80, 2), (92, .newarray .int, 2), (94, .putfield 42, 3), (97, .aload_n 0, 1), (98, .bipush 6, 2), (100, .newarray .int, 2), (102, .putfield 45, 3), (105, .aload_n 0, 1), (106, .bipush 6, 2), (108, .newarray .int, 2), (110, .putfield 48, 3), (113, .aload_n 0, 1), (114, .bipush 6, 2), (116, .newarray .int, 2), (118, .putfield 51, 3), (121, .aload_n 0, 1), (122, .bipush 6, 2), (124, .newarray .boolean, 2), (126, .putfield 54, 3), (129, .aload_n 0, 1), (130, .bipush 8, 2), (132, .newarray .int, 2), (134, .putfield 58, 3), (137, .aload_n 0, 1), (138, .bipush 32, 2), (140, .newarray .int, 2), (142, .putfield 61, 3), (145, .aload_n 0, 1), (146, .sipush 1280, 3), (149, .newarray .char, 2), (151, .putfield 64, 3), (154, .aload_n 0, 1), (155, .bipush 8, 2), (157, .newarray .int, 2), (159, .putfield 67, 3), (162, .aload_n 0, 1), (163, .bipush 6, 2), (165, .newarray .int, 2), (167, .putfield 70, 3), (170, .aload_n 0, 1), (171, .bipush 6, 2), (173, .newarray .int, 2), (175, .putfield 73, 3), (178, .aload_n 0, 1), (179, .sipush 1000, 3), (182, .newarray .char, 2), (184, .putfield 76, 3), (187, .iconst 0, 1), (188, .istore_n 1, 1), (189, .iload_n 1, 1), (190, .bipush 8, 2), (192, .if_icmp .ge 16, 3), (195, .aload_n 0, 1), (196, .getfield 67, 3), (199, .iload_n 1, 1), (200, .iconst (-1), 1), (201, .iastore, 1), (202, .iinc 1 1, 3), (205, .goto (-16), 3), (208, .return_, 1)]
theorem kd10_init_ok : ∀ q ∈ kd10_init, decode prog_12_method_1_code q.1 = .ok q.2 := by decide +kernel
def kd10_thrown : List (Nat × Instr × Nat) := [(0, .aload_n 0, 1), (1, .getfield 79, 3), (4, .ireturn, 1)]
theorem kd10_thrown_ok : ∀ q ∈ kd10_thrown, decode prog_12_method_2_code q.1 = .ok q.2 := by decide +kernel
def kd10_type : List (Nat × Instr × Nat) := [(0, .aload_n 0, 1), (1, .iconst 0, 1), (2, .putfield 79, 3), (5, .iload_n 1, 1), (6, .bipush 10, 2), (8, .if_icmp .eq 15, 3), (11, .iload_n 1, 1), (12, .bipush 32, 2), (14, .if_icmp .lt 18, 3), (17, .iload_n 1, 1), (18, .bipush 126, 2), (20, .if_icmp .gt 12, 3), (23, .aload_n 0, 1), (24, .getfield 82, 3), (27, .bipush 40, 2), (29, .if_icmp .ne 5, 3), (32, .iconst 0, 1), (33, .ireturn, 1), (34, .aload_n 0, 1), (35, .getfield 7, 3), (38, .aload_n 0, 1), (39, .getfield 82, 3), (42, .iload_n 1, 1), (43, .castore, 1), (44, .aload_n 0, 1), (45, .dup, 1), (46, .getfield 82, 3), (49, .iconst 1, 1), (50, .iadd, 1), (51, .putfield 82, 3), (54, .iconst 1, 1), (55, .ireturn, 1)]
theorem kd10_type_ok : ∀ q ∈ kd10_type, decode prog_12_method_3_code q.1 = .ok q.2 := by decide +kernel
def kd10_wipe : List (Nat × Instr × Nat) := [(0, .aload_n 0, 1), (1, .iconst 0, 1), (2, .putfield 79, 3), (5, .aload_n 0, 1), (6, .getfield 82, 3), (9, .istore_n 1, 1), (10, .aload_n 0, 1), (11, .iconst 0, 1), (12, .putfield 82, 3), (15, .iload_n 1, 1), (16, .ireturn, 1)]
theorem kd10_wipe_ok : ∀ q ∈ kd10_wipe, decode prog_12_method_4_code q.1 = .ok q.2 := by decide +kernel
def kd10_add : List (Nat × Instr × Nat) := [(0, .aload_n 0, 1), (1, .aload_n 0, 1), (2, .getfield 85, 3), (5, .aload_n 0, 1), (6, .getfield 82, 3), (9, .iadd, 1), (10, .sipush 240, 3), (13, .if_icmp .le 7, 3), (16, .iconst 1, 1), (17, .goto 4, 3), (20, .iconst 0, 1), (21, .putfield 79, 3), (24, .aload_n 0, 1), (25, .getfield 79, 3), (28, .ifCond .le 5, 3), (31, .iconst 0, 1), (32, .ireturn, 1), (33, .iconst 0, 1), (34, .istore_n 1, 1), (35, .iload_n 1, 1), (36, .aload_n 0, 1), (37, .getfield 82, 3), (40, .if_icmp .ge 26, 3), (43, .aload_n 0, 1), (44, .getfield 13, 3), (47, .aload_n 0, 1), (48, .getfield 85, 3), (51, .iload_n 1, 1), (52, .iadd, 1), (53, .aload_n 0, 1), (54, .getfield 7, 3), (57, .iload_n 1, 1), (58, .caload, 1), (59, .castore, 1), (60, .iinc 1 1, 3), (63, .goto (-28), 3), (66, .aload_n 0, 1), (67, .aload_n 0, 1), (68, .getfield 85, 3), (71, .aload_n 0, 1), (72, .getfield 82, 3), (75, .iadd, 1), (76, .putfield 85, 3), (79, .aload_n 0, 1), (80, .iconst 0, 1), (81, .putfield 82, 3), (84, .aload_n 0, 1), (85, .iconst 0, 1), (86, .putfield 88, 3), (89, .aload_n 0, 1), (90, .getfield 85, 3), (93, .ireturn, 1)]
theorem kd10_add_ok : ∀ q ∈ kd10_add, decode prog_12_method_5_code q.1 = .ok q.2 := by decide +kernel
def kd10_clear : List (Nat × Instr × Nat) := [(0, .aload_n 0, 1), (1, .iconst 0, 1), (2, .putfield 79, 3), (5, .aload_n 0, 1), (6, .getfield 85, 3), (9, .istore_n 1, 1), (10, .aload_n 0, 1), (11, .iconst 0, 1), (12, .putfield 85, 3), (15, .aload_n 0, 1), (16, .iconst 0, 1), (17, .putfield 88, 3), (20, .iload_n 1, 1), (21, .ireturn, 1)]
theorem kd10_clear_ok : ∀ q ∈ kd10_clear, decode prog_12_method_6_code q.1 = .ok q.2 := by decide +kernel
def kd10_at : List (Nat × Instr × Nat) := [(0, .iload_n 1, 1), (1, .aload_n 0, 1), (2, .getfield 85, 3), (5, .if_icmp .ge 12, 3), (8, .aload_n 0, 1), (9, .getfield 13, 3), (12, .iload_n 1, 1), (13, .caload, 1), (14, .goto 4, 3), (17, .iconst 0, 1), (18, .ireturn, 1)]
theorem kd10_at_ok : ∀ q ∈ kd10_at, decode prog_12_method_7_code q.1 = .ok q.2 := by decide +kernel
def kd10_isVariable : List (Nat × Instr × Nat) := [(0, .iload_n 0, 1), (1, .bipush 97, 2), (3, .if_icmp .lt 13, 3), (6, .iload_n 0, 1), (7, .bipush 104, 2), (9, .if_icmp .gt 7, 3), (12, .iconst 1, 1), (13, .goto 4, 3), (16, .iconst 0, 1), (17, .ireturn, 1)]
theorem kd10_isVariable_ok : ∀ q ∈ kd10_isVariable, decode prog_12_method_8_code q.1 = .ok q.2 := by decide +kernel
def kd10_push : List (Nat × Instr × Nat) := [(0, .aload_n 0, 1), (1, .getfield 16, 3), (4, .aload_n 0, 1), (5, .getfield 92, 3), (8, .iload_n 1, 1), (9, .iastore, 1), (10, .aload_n 0, 1), (11, .getfield 20, 3), (14, .aload_n 0, 1), (15, .getfield 92, 3), (18, .iload_n 2, 1), (19, .castore, 1), (20, .aload_n 0, 1), (21, .getfield 23, 3), (24, .aload_n 0, 1), (25, .getfield 92, 3), (28, .iload_n 3, 1), (29, .iastore, 1), (30, .aload_n 0, 1), (31, .dup, 1), (32, .getfield 92, 3), (35, .iconst 1, 1), (36, .iadd, 1), (37, .putfield 92, 3), (40, .iload_n 3, 1), (41, .iload 4, 2), (43, .iadd, 1), (44, .ireturn, 1)]
theorem kd10_push_ok : ∀ q ∈ kd10_push, decode prog_12_method_9_code q.1 = .ok q.2 := by decide +kernel
def kd10_pushOpening : List (Nat × Instr × Nat) := [(0, .aload_n 0, 1), (1, .iload_n 1, 1), (2, .iconst 1, 1), (3, .iadd, 1), (4, .invokevirtual 95, 3), (7, .istore_n 2, 1), (8, .iload_n 2, 1), (9, .bipush 123, 2), (11, .if_icmp .ne 12, 3), (14, .aload_n 0, 1), (15, .iconst 0, 1), (16, .iload_n 2, 1), (17, .iload_n 1, 1), (18, .iconst 2, 1), (19, .invokevirtual 99, 3), (22, .ireturn, 1), (23, .iload_n 2, 1), (24, .invokestatic 103, 3), (27, .ifCond .eq 24, 3), (30, .aload_n 0, 1), (31, .iload_n 1, 1), (32, .iconst 2, 1), (33, .iadd, 1), (34, .invokevirtual 95, 3), (37, .bipush 125, 2), (39, .if_icmp .ne 12, 3), (42, .aload_n 0, 1), (43, .iconst 1, 1), (44, .iload_n 2, 1), (45, .iload_n 1, 1), (46, .iconst 3, 1), (47, .invokevirtual 99, 3), (50, .ireturn, 1), (51, .iload_n 2, 1), (52, .bipush 63, 2), (54, .if_icmp .eq 9, 3), (57, .iload_n 2, 1), (58, .bipush 42, 2), (60, .if_icmp .ne 53, 3), (63, .aload_n 0, 1), (64, .iload_n 1, 1), (65, .iconst 2, 1), (66, .iadd, 1), (67, .invokevirtual 95, 3), (70, .invokestatic 103, 3), (73, .ifCond .eq 40, 3), (76, .aload_n 0, 1), (77, .iload_n 1, 1), (78, .iconst 3, 1), (79, .iadd, 1), (80, .invokevirtual 95, 3), (83, .bipush 125, 2), (85, .if_icmp .ne 28, 3), (88, .aload_n 0, 1), (89, .iload_n 2, 1), (90, .bipush 63, 2), (92, .if_icmp .ne 7, 3), (95, .iconst 2, 1), (96, .goto 4, 3), (99, .iconst 3, 1), (100, .aload_n 0, 1), (101, .iload_n 1, 1), (102, .iconst 2, 1), (103, .iadd, 1), (104, .invokevirtual 95, 3), (107, .iload_n 1, 1), (108, .iconst 4, 1), (109, .invokevirtual 99, 3), (112, .ireturn, 1), (113, .iload_n 2, 1), (114, .bipush 58, 2), (116, .if_icmp .eq 9, 3), (119, .iload_n 2, 1), (120, .bipush 47, 2), (122, .if_icmp .ne 34, 3), (125, .aload_n 0, 1), (126, .iload_n 1, 1), (127, .iconst 2, 1), (128, .iadd, 1), (129, .invokevirtual 95, 3), (132, .bipush 125, 2), (134, .if_icmp .ne 22, 3), (137, .aload_n 0, 1), (138, .iload_n 2, 1), (139, .bipush 58, 2), (141, .if_icmp .ne 7, 3), (144, .iconst 4, 1), (145, .goto 4, 3), (148, .iconst 5, 1), (149, .iload_n 2, 1), (150, .iload_n 1, 1), (151, .iconst 3, 1), (152, .invokevirtual 99, 3), (155, .ireturn, 1), (156, .aload_n 0, 1), (157, .bipush 6, 2), (159, .iload_n 2, 1), (160, .iload_n 1, 1), (161, .iconst 1, 1), (162, .invokevirtual 99, 3), (165, .ireturn, 1)]
theorem kd10_pushOpening_ok : ∀ q ∈ kd10_pushOpening, decode prog_12_method_10_code q.1 = .ok q.2 := by decide +kernel
def kd10_findSymbols : List (Nat × Instr × Nat) := [(0, .aload_n 0, 1), (1, .iconst 0, 1), (2, .putfield 92, 3), (5, .iconst 0, 1), (6, .istore_n 1, 1), (7, .iload_n 1, 1), (8, .aload_n 0, 1), (9, .getfield 85, 3), (12, .if_icmp .ge 39, 3), (15, .aload_n 0, 1), (16, .getfield 13, 3), (19, .iload_n 1, 1), (20, .caload, 1), (21, .bipush 123, 2), (23, .if_icmp .ne 11, 3), (26, .aload_n 0, 1), (27, .iload_n 1, 1), (28, .invokevirtual 107, 3), (31, .goto 16, 3), (34, .aload_n 0, 1), (35, .iconst 0, 1), (36, .aload_n 0, 1), (37, .getfield 13, 3), (40, .iload_n 1, 1), (41, .caload, 1), (42, .iload_n 1, 1), (43, .iconst 1, 1), (44, .invokevirtual 99, 3), (47, .istore_n 1, 1), (48, .goto (-41), 3), (51, .return_, 1)]
theorem kd10_findSymbols_ok : ∀ q ∈ kd10_findSymbols, decode prog_12_method_11_code q.1 = .ok q.2 := by decide +kernel
def kd10_ch : List (Nat × Instr × Nat) := [(0, .iload_n 1, 1), (1, .aload_n 0, 1), (2, .getfield 92, 3), (5, .if_icmp .ge 21, 3), (8, .aload_n 0, 1), (9, .getfield 16, 3), (12, .iload_n 1, 1), (13, .iaload, 1), (14, .ifCond .ne 12, 3), (17, .aload_n 0, 1), (18, .getfield 20, 3), (21, .iload_n 1, 1), (22, .caload, 1), (23, .goto 4, 3), (26, .iconst 0, 1), (27, .ireturn, 1)]
theorem kd10_ch_ok : ∀ q ∈ kd10_ch, decode prog_12_method_12_code q.1 = .ok q.2 := by decide +kernel
def kd10_isLetter : List (Nat × Instr × Nat) := [(0, .iload_n 0, 1), (1, .bipush 97, 2), (3, .if_icmp .lt 13, 3), (6, .iload_n 0, 1), (7, .bipush 122, 2), (9, .if_icmp .gt 7, 3), (12, .iconst 1, 1), (13, .goto 4, 3), (16, .iconst 0, 1), (17, .ireturn, 1)]
theorem kd10_isLetter_ok : ∀ q ∈ kd10_isLetter, decode prog_12_method_13_code q.1 = .ok q.2 := by decide +kernel
def kd10_isWord : List (Nat × Instr × Nat) := [(0, .iload_n 0, 1), (1, .invokestatic 111, 3), (4, .ifCond .ne 27, 3), (7, .iload_n 0, 1), (8, .bipush 65, 2), (10, .if_icmp .lt 9, 3), (13, .iload_n 0, 1), (14, .bipush 90, 2), (16, .if_icmp .le 15, 3), (19, .iload_n 0, 1), (20, .bipush 48, 2), (22, .if_icmp .lt 13, 3), (25, .iload_n 0, 1), (26, .bipush 57, 2), (28, .if_icmp .gt 7, 3), (31, .iconst 1, 1), (32, .goto 4, 3), (35, .iconst 0, 1), (36, .ireturn, 1)]
theorem kd10_isWord_ok : ∀ q ∈ kd10_isWord, decode prog_12_method_14_code q.1 = .ok q.2 := by decide +kernel
def kd10_isBlank : List (Nat × Instr × Nat) := [(0, .iload_n 0, 1), (1, .bipush 32, 2), (3, .if_icmp .eq 9, 3), (6, .iload_n 0, 1), (7, .bipush 10, 2), (9, .if_icmp .ne 7, 3), (12, .iconst 1, 1), (13, .goto 4, 3), (16, .iconst 0, 1), (17, .ireturn, 1)]
theorem kd10_isBlank_ok : ∀ q ∈ kd10_isBlank, decode prog_12_method_15_code q.1 = .ok q.2 := by decide +kernel
def kd10_lettersFrom : List (Nat × Instr × Nat) := [(0, .iconst 0, 1), (1, .istore_n 2, 1), (2, .aload_n 0, 1), (3, .iload_n 1, 1), (4, .iload_n 2, 1), (5, .iadd, 1), (6, .invokevirtual 114, 3), (9, .invokestatic 111, 3), (12, .ifCond .eq 9, 3), (15, .iinc 2 1, 3), (18, .goto (-16), 3), (21, .iload_n 2, 1), (22, .ireturn, 1)]
theorem kd10_lettersFrom_ok : ∀ q ∈ kd10_lettersFrom, decode prog_12_method_16_code q.1 = .ok q.2 := by decide +kernel
def kd10_blanksFrom : List (Nat × Instr × Nat) := [(0, .iconst 0, 1), (1, .istore_n 2, 1), (2, .aload_n 0, 1), (3, .iload_n 1, 1), (4, .iload_n 2, 1), (5, .iadd, 1), (6, .invokevirtual 114, 3), (9, .invokestatic 117, 3), (12, .ifCond .eq 9, 3), (15, .iinc 2 1, 3), (18, .goto (-16), 3), (21, .iload_n 2, 1), (22, .ireturn, 1)]
theorem kd10_blanksFrom_ok : ∀ q ∈ kd10_blanksFrom, decode prog_12_method_17_code q.1 = .ok q.2 := by decide +kernel
def kd10_spells : List (Nat × Instr × Nat) := [(0, .iload_n 2, 1), (1, .iload_n 3, 1), (2, .if_icmp .ne 41, 3), (5, .aload_n 0, 1), (6, .iload_n 1, 1), (7, .invokevirtual 114, 3), (10, .iload 4, 2), (12, .if_icmp .ne 31, 3), (15, .aload_n 0, 1), (16, .iload_n 1, 1), (17, .iconst 1, 1), (18, .iadd, 1), (19, .invokevirtual 114, 3), (22, .iload 5, 2), (24, .if_icmp .ne 19, 3), (27, .aload_n 0, 1), (28, .iload_n 1, 1), (29, .iconst 2, 1), (30, .iadd, 1), (31, .invokevirtual 114, 3), (34, .iload 6, 2), (36, .if_icmp .ne 7, 3), (39, .iconst 1, 1), (40, .goto 4, 3), (43, .iconst 0, 1), (44, .istore 10, 2), (46, .iload 10, 2), (48, .ifCond .eq 41, 3), (51, .iload_n 3, 1), (52, .iconst 4, 1), (53, .if_icmp .lt 15, 3), (56, .aload_n 0, 1), (57, .iload_n 1, 1), (58, .iconst 3, 1), (59, .iadd, 1), (60, .invokevirtual 114, 3), (63, .iload 7, 2), (65, .if_icmp .ne 24, 3), (68, .iload_n 3, 1), (69, .iconst 5, 1), (70, .if_icmp .lt 15, 3), (73, .aload_n 0, 1), (74, .iload_n 1, 1), (75, .iconst 4, 1), (76, .iadd, 1), (77, .invokevirtual 114, 3), (80, .iload 8, 2), (82, .if_icmp .ne 7, 3), (85, .iconst 1, 1), (86, .goto 4, 3), (89, .iconst 0, 1), (90, .istore 10, 2), (92, .iload 10, 2), (94, .ifCond .eq 25, 3), (97, .iload_n 3, 1), (98, .bipush 6, 2), (100, .if_icmp .lt 15, 3), (103, .aload_n 0, 1), (104, .iload_n 1, 1), (105, .iconst 5, 1), (106, .iadd, 1), (107, .invokevirtual 114, 3), (110, .iload 9, 2), (112, .if_icmp .ne 7, 3), (115, .iconst 1, 1), (116, .goto 4, 3), (119, .iconst 0, 1), (120, .ireturn, 1)]
theorem kd10_spells_ok : ∀ q ∈ kd10_spells, decode prog_12_method_18_code q.1 = .ok q.2 := by decide +kernel
def kd10_isScript : List (Nat × Instr × Nat) := [(0, .aload_n 0, 1), (1, .iload_n 1, 1), (2, .iload_n 2, 1), (3, .bipush 6, 2), (5, .bipush 115, 2), (7, .bipush 99, 2), (9, .bipush 114, 2), (11, .bipush 105, 2), (13, .bipush 112, 2), (15, .bipush 116, 2), (17, .invokevirtual 120, 3), (20, .ireturn, 1)]
theorem kd10_isScript_ok : ∀ q ∈ kd10_isScript, decode prog_12_method_19_code q.1 = .ok q.2 := by decide +kernel
def kd10_isStyle : List (Nat × Instr × Nat) := [(0, .aload_n 0, 1), (1, .iload_n 1, 1), (2, .iload_n 2, 1), (3, .iconst 5, 1), (4, .bipush 115, 2), (6, .bipush 116, 2), (8, .bipush 121, 2), (10, .bipush 108, 2), (12, .bipush 101, 2), (14, .bipush 101, 2), (16, .invokevirtual 120, 3), (19, .ireturn, 1)]
theorem kd10_isStyle_ok : ∀ q ∈ kd10_isStyle, decode prog_12_method_20_code q.1 = .ok q.2 := by decide +kernel
def kd10_isTitle : List (Nat × Instr × Nat) := [(0, .aload_n 0, 1), (1, .iload_n 1, 1), (2, .iload_n 2, 1), (3, .iconst 5, 1), (4, .bipush 116, 2), (6, .bipush 105, 2), (8, .bipush 116, 2), (10, .bipush 108, 2), (12, .bipush 101, 2), (14, .bipush 101, 2), (16, .invokevirtual 120, 3), (19, .ireturn, 1)]
theorem kd10_isTitle_ok : ∀ q ∈ kd10_isTitle, decode prog_12_method_21_code q.1 = .ok q.2 := by decide +kernel
def kd10_go : List (Nat × Instr × Nat) := [(0, .aload_n 0, 1), (1, .iload_n 1, 1), (2, .putfield 124, 3), (5, .aload_n 0, 1), (6, .iconst 0, 1), (7, .putfield 127, 3), (10, .aload_n 0, 1), (11, .iconst 0, 1), (12, .putfield 130, 3), (15, .aload_n 0, 1), (16, .iconst 0, 1), (17, .putfield 134, 3), (20, .aload_n 0, 1), (21, .iconst 0, 1), (22, .putfield 137, 3), (25, .return_, 1)]
theorem kd10_go_ok : ∀ q ∈ kd10_go, decode prog_12_method_22_code q.1 = .ok q.2 := by decide +kernel
def kd10_isAmpersand : List (Nat × Instr × Nat) := [(0, .iload_n 1, 1), (1, .iconst 1, 1), (2, .iadd, 1), (3, .istore_n 2, 1), (4, .aload_n 0, 1), (5, .iload_n 2, 1), (6, .invokevirtual 114, 3), (9, .invokestatic 140, 3), (12, .ifCond .ne 13, 3), (15, .aload_n 0, 1), (16, .iload_n 2, 1), (17, .invokevirtual 114, 3), (20, .bipush 35, 2), (22, .if_icmp .ne 9, 3), (25, .iinc 2 1, 3), (28, .goto (-24), 3), (31, .aload_n 0, 1), (32, .iload_n 2, 1), (33, .invokevirtual 114, 3), (36, .ifCond .eq 7, 3), (39, .iconst 1, 1), (40, .goto 4, 3), (43, .iconst 0, 1), (44, .ireturn, 1)]
theorem kd10_isAmpersand_ok : ∀ q ∈ kd10_isAmpersand, decode prog_12_method_23_code q.1 = .ok q.2 := by decide +kernel
def kd10_begins : List (Nat × Instr × Nat) := [(0, .aload_n 0, 1), (1, .iload_n 1, 1), (2, .invokevirtual 114, 3), (5, .bipush 60, 2), (7, .if_icmp .ne 18, 3), (10, .aload_n 0, 1), (11, .iload_n 1, 1), (12, .iconst 1, 1), (13, .iadd, 1), (14, .invokevirtual 114, 3), (17, .iload_n 2, 1), (18, .if_icmp .ne 7, 3), (21, .iconst 1, 1), (22, .goto 4, 3), (25, .iconst 0, 1), (26, .ireturn, 1)]
theorem kd10_begins_ok : ∀ q ∈ kd10_begins, decode prog_12_method_24_code q.1 = .ok q.2 := by decide +kernel
def kd10_textPiece : List (Nat × Instr × Nat) := [(0, .aload_n 0, 1), (1, .iload_n 1, 1), (2, .invokevirtual 114, 3), (5, .istore_n 2, 1), (6, .iload_n 2, 1), (7, .bipush 38, 2), (9, .if_icmp .ne 17, 3), (12, .aload_n 0, 1), (13, .iload_n 1, 1), (14, .invokevirtual 143, 3), (17, .ifCond .eq 7, 3), (20, .iconst 1, 1), (21, .goto 4, 3), (24, .iconst 0, 1), (25, .ireturn, 1), (26, .iload_n 2, 1), (27, .bipush 60, 2), (29, .if_icmp .eq 5, 3), (32, .iconst 1, 1), (33, .ireturn, 1), (34, .aload_n 0, 1), (35, .iload_n 1, 1), (36, .bipush 33, 2), (38, .invokevirtual 147, 3), (41, .ifCond .eq 53, 3), (44, .aload_n 0, 1), (45, .iload_n 1, 1), (46, .iconst 2, 1), (47, .iadd, 1), (48, .invokevirtual 114, 3), (51, .bipush 45, 2), (53, .if_icmp .ne 19, 3), (56, .aload_n 0, 1), (57, .iload_n 1, 1), (58, .iconst 3, 1), (59, .iadd, 1), (60, .invokevirtual 114, 3), (63, .bipush 45, 2), (65, .if_icmp .ne 7, 3), (68, .iconst 1, 1), (69, .goto 4, 3), (72, .iconst 0, 1), (73, .istore_n 3, 1), (74, .iload_n 3, 1), (75, .ifCond .eq 9, 3), (78, .aload_n 0, 1), (79, .bipush 6, 2), (81, .invokevirtual 151, 3), (84, .iload_n 3, 1), (85, .ifCond .eq 7, 3), (88, .iconst 4, 1), (89, .goto 4, 3), (92, .iconst 0, 1), (93, .ireturn, 1), (94, .aload_n 0, 1), (95, .iload_n 1, 1), (96, .bipush 47, 2), (98, .invokevirtual 147, 3), (101, .ifCond .eq 37, 3), (104, .aload_n 0, 1), (105, .iload_n 1, 1), (106, .iconst 2, 1), (107, .iadd, 1), (108, .invokevirtual 155, 3), (111, .istore_n 3, 1), (112, .iload_n 3, 1), (113, .ifCond .le 23, 3), (116, .aload_n 0, 1), (117, .iload_n 1, 1), (118, .iconst 2, 1), (119, .iadd, 1), (120, .iload_n 3, 1), (121, .iadd, 1), (122, .invokevirtual 114, 3), (125, .bipush 62, 2), (127, .if_icmp .ne 9, 3), (130, .iload_n 3, 1), (131, .iconst 3, 1), (132, .iadd, 1), (133, .goto 4, 3), (136, .iconst 0, 1), (137, .ireturn, 1), (138, .aload_n 0, 1), (139, .iload_n 1, 1), (140, .iconst 1, 1), (141, .iadd, 1), (142, .invokevirtual 155, 3), (145, .istore_n 3, 1), (146, .aload_n 0, 1), (147, .iload_n 1, 1), (148, .iconst 1, 1), (149, .iadd, 1), (150, .iload_n 3, 1), (151, .iadd, 1), (152, .invokevirtual 114, 3), (155, .istore 4, 2), (157, .iload_n 3, 1), (158, .ifCond .eq 25, 3), (161, .iload 4, 2), (163, .invokestatic 117, 3), (166, .ifCond .ne 19, 3), (169, .iload 4, 2), (171, .bipush 47, 2), (173, .if_icmp .eq 12, 3), (176, .iload 4, 2), (178, .bipush 62, 2), (180, .if_icmp .eq 5, 3), (183, .iconst 0, 1), (184, .ireturn, 1), (185, .aload_n 0, 1), (186, .iconst 1, 1), (187, .invokevirtual 151, 3), (190, .aload_n 0, 1), (191, .aload_n 0, 1), (192, .iload_n 1, 1), (193, .iconst 1, 1), (194, .iadd, 1), (195, .iload_n 3, 1), (196, .invokevirtual 158, 3), (199, .ifCond .eq 7, 3), (202, .iconst 1, 1), (203, .goto 34, 3), (206, .aload_n 0, 1), (207, .iload_n 1, 1), (208, .iconst 1, 1), (209, .iadd, 1), (210, .iload_n 3, 1), (211, .invokevirtual 162, 3), (214, .ifCond .eq 7, 3), (217, .iconst 2, 1), (218, .goto 19, 3), (221, .aload_n 0, 1), (222, .iload_n 1, 1), (223, .iconst 1, 1), (224, .iadd, 1), (225, .iload_n 3, 1), (226, .invokevirtual 165, 3), (229, .ifCond .eq 7, 3), (232, .iconst 3, 1), (233, .goto 4, 3), (236, .iconst 0, 1), (237, .putfield 127, 3), (240, .iload_n 3, 1), (241, .iconst 1, 1), (242, .iadd, 1), (243, .ireturn, 1)]
theorem kd10_textPiece_ok : ∀ q ∈ kd10_textPiece, decode prog_12_method_25_code q.1 = .ok q.2 := by decide +kernel
def kd10_kindOf : List (Nat × Instr × Nat) := [(0, .aload_n 0, 1), (1, .iload_n 1, 1), (2, .iload_n 2, 1), (3, .iconst 4, 1), (4, .bipush 104, 2), (6, .bipush 114, 2), (8, .bipush 101, 2), (10, .bipush 102, 2), (12, .bipush 102, 2), (14, .bipush 102, 2), (16, .invokevirtual 120, 3), (19, .ifCond .ne 48, 3), (22, .aload_n 0, 1), (23, .iload_n 1, 1), (24, .iload_n 2, 1), (25, .iconst 3, 1), (26, .bipush 115, 2), (28, .bipush 114, 2), (30, .bipush 99, 2), (32, .bipush 99, 2), (34, .bipush 99, 2), (36, .bipush 99, 2), (38, .invokevirtual 120, 3), (41, .ifCond .ne 26, 3), (44, .aload_n 0, 1), (45, .iload_n 1, 1), (46, .iload_n 2, 1), (47, .bipush 6, 2), (49, .bipush 97, 2), (51, .bipush 99, 2), (53, .bipush 116, 2), (55, .bipush 105, 2), (57, .bipush 111, 2), (59, .bipush 110, 2), (61, .invokevirtual 120, 3), (64, .ifCond .eq 7, 3), (67, .iconst 1, 1), (68, .goto 4, 3), (71, .iconst 0, 1), (72, .istore_n 3, 1), (73, .iload_n 3, 1), (74, .ifCond .eq 7, 3), (77, .iconst 1, 1), (78, .goto 48, 3), (81, .aload_n 0, 1), (82, .iload_n 1, 1), (83, .iload_n 2, 1), (84, .invokevirtual 162, 3), (87, .ifCond .eq 7, 3), (90, .iconst 3, 1), (91, .goto 35, 3), (94, .iload_n 2, 1), (95, .iconst 1, 1), (96, .if_icmp .le 29, 3), (99, .aload_n 0, 1), (100, .iload_n 1, 1), (101, .invokevirtual 114, 3), (104, .bipush 111, 2), (106, .if_icmp .ne 19, 3), (109, .aload_n 0, 1), (110, .iload_n 1, 1), (111, .iconst 1, 1), (112, .iadd, 1), (113, .invokevirtual 114, 3), (116, .bipush 110, 2), (118, .if_icmp .ne 7, 3), (121, .iconst 2, 1), (122, .goto 4, 3), (125, .iconst 0, 1), (126, .ireturn, 1)]
theorem kd10_kindOf_ok : ∀ q ∈ kd10_kindOf, decode prog_12_method_26_code q.1 = .ok q.2 := by decide +kernel
def kd10_attribute : List (Nat × Instr × Nat) := [(0, .iconst 0, 1), (1, .istore_n 2, 1), (2, .aload_n 0, 1), (3, .iload_n 1, 1), (4, .iload_n 2, 1), (5, .iadd, 1), (6, .invokevirtual 114, 3), (9, .invokestatic 111, 3), (12, .ifCond .ne 19, 3), (15, .iload_n 2, 1), (16, .ifCond .le 21, 3), (19, .aload_n 0, 1), (20, .iload_n 1, 1), (21, .iload_n 2, 1), (22, .iadd, 1), (23, .invokevirtual 114, 3), (26, .bipush 45, 2), (28, .if_icmp .ne 9, 3), (31, .iinc 2 1, 3), (34, .goto (-32), 3), (37, .aload_n 0, 1), (38, .iload_n 1, 1), (39, .iload_n 2, 1), (40, .iadd, 1), (41, .invokevirtual 168, 3), (44, .istore_n 3, 1), (45, .iload_n 1, 1), (46, .iload_n 2, 1), (47, .iadd, 1), (48, .iload_n 3, 1), (49, .iadd, 1), (50, .istore 4, 2), (52, .aload_n 0, 1), (53, .iload 4, 2), (55, .invokevirtual 114, 3), (58, .bipush 61, 2), (60, .if_icmp .eq 38, 3), (63, .iload_n 3, 1), (64, .ifCond .gt 25, 3), (67, .aload_n 0, 1), (68, .iload 4, 2), (70, .invokevirtual 114, 3), (73, .bipush 47, 2), (75, .if_icmp .eq 14, 3), (78, .aload_n 0, 1), (79, .iload 4, 2), (81, .invokevirtual 114, 3), (84, .bipush 62, 2), (86, .if_icmp .ne 10, 3), (89, .iload 4, 2), (91, .iload_n 1, 1), (92, .isub, 1), (93, .goto 4, 3), (96, .iconst 0, 1), (97, .ireturn, 1), (98, .iload 4, 2), (100, .iconst 1, 1), (101, .iadd, 1), (102, .aload_n 0, 1), (103, .iload 4, 2), (105, .iconst 1, 1), (106, .iadd, 1), (107, .invokevirtual 168, 3), (110, .iadd, 1), (111, .istore 4, 2), (113, .aload_n 0, 1), (114, .iload 4, 2), (116, .invokevirtual 114, 3), (119, .bipush 34, 2), (121, .if_icmp .eq 16, 3), (124, .aload_n 0, 1), (125, .iload 4, 2), (127, .invokevirtual 114, 3), (130, .bipush 39, 2), (132, .if_icmp .eq 5, 3), (135, .iconst 0, 1), (136, .ireturn, 1), (137, .aload_n 0, 1), (138, .iconst 2, 1), (139, .putfield 124, 3), (142, .aload_n 0, 1), (143, .aload_n 0, 1), (144, .iload_n 1, 1), (145, .iload_n 2, 1), (146, .invokevirtual 171, 3), (149, .putfield 134, 3), (152, .aload_n 0, 1), (153, .aload_n 0, 1), (154, .iload 4, 2), (156, .invokevirtual 114, 3), (159, .putfield 130, 3), (162, .aload_n 0, 1), (163, .iconst 0, 1), (164, .putfield 137, 3), (167, .iload 4, 2), (169, .iconst 1, 1), (170, .iadd, 1), (171, .iload_n 1, 1), (172, .isub, 1), (173, .ireturn, 1)]
theorem kd10_attribute_ok : ∀ q ∈ kd10_attribute, decode prog_12_method_27_code q.1 = .ok q.2 := by decide +kernel
def kd10_tagPiece : List (Nat × Instr × Nat) := [(0, .aload_n 0, 1), (1, .iload_n 1, 1), (2, .invokevirtual 114, 3), (5, .istore_n 2, 1), (6, .iload_n 2, 1), (7, .invokestatic 117, 3), (10, .ifCond .eq 5, 3), (13, .iconst 1, 1), (14, .ireturn, 1), (15, .iload_n 2, 1), (16, .bipush 62, 2), (18, .if_icmp .ne 46, 3), (21, .aload_n 0, 1), (22, .aload_n 0, 1), (23, .getfield 127, 3), (26, .iconst 1, 1), (27, .if_icmp .ne 7, 3), (30, .iconst 3, 1), (31, .goto 28, 3), (34, .aload_n 0, 1), (35, .getfield 127, 3), (38, .iconst 2, 1), (39, .if_icmp .ne 7, 3), (42, .iconst 4, 1), (43, .goto 16, 3), (46, .aload_n 0, 1), (47, .getfield 127, 3), (50, .iconst 3, 1), (51, .if_icmp .ne 7, 3), (54, .iconst 5, 1), (55, .goto 4, 3), (58, .iconst 0, 1), (59, .invokevirtual 151, 3), (62, .iconst 1, 1), (63, .ireturn, 1), (64, .iload_n 2, 1), (65, .bipush 47, 2), (67, .if_icmp .ne 47, 3), (70, .aload_n 0, 1), (71, .iload_n 1, 1), (72, .iconst 1, 1), (73, .iadd, 1), (74, .invokevirtual 114, 3), (77, .bipush 62, 2), (79, .if_icmp .ne 14, 3), (82, .aload_n 0, 1), (83, .getfield 127, 3), (86, .ifCond .ne 7, 3), (89, .iconst 1, 1), (90, .goto 4, 3), (93, .iconst 0, 1), (94, .istore_n 3, 1), (95, .iload_n 3, 1), (96, .ifCond .eq 8, 3), (99, .aload_n 0, 1), (100, .iconst 0, 1), (101, .invokevirtual 151, 3), (104, .iload_n 3, 1), (105, .ifCond .eq 7, 3), (108, .iconst 2, 1), (109, .goto 4, 3), (112, .iconst 0, 1), (113, .ireturn, 1), (114, .iload_n 2, 1), (115, .invokestatic 111, 3), (118, .ifCond .eq 11, 3), (121, .aload_n 0, 1), (122, .iload_n 1, 1), (123, .invokevirtual 175, 3), (126, .goto 4, 3), (129, .iconst 0, 1), (130, .ireturn, 1)]
theorem kd10_tagPiece_ok : ∀ q ∈ kd10_tagPiece, decode prog_12_method_28_code q.1 = .ok q.2 := by decide +kernel
def kd10_urlPiece : List (Nat × Instr × Nat) := [(0, .aload_n 0, 1), (1, .iload_n 1, 1), (2, .invokevirtual 114, 3), (5, .istore_n 2, 1), (6, .iload_n 2, 1), (7, .bipush 38, 2), (9, .if_icmp .ne 11, 3), (12, .aload_n 0, 1), (13, .iload_n 1, 1), (14, .invokevirtual 143, 3), (17, .ifCond .eq 29, 3), (20, .iload_n 2, 1), (21, .bipush 37, 2), (23, .if_icmp .ne 25, 3), (26, .aload_n 0, 1), (27, .iload_n 1, 1), (28, .iconst 1, 1), (29, .iadd, 1), (30, .invokevirtual 114, 3), (33, .ifCond .eq 13, 3), (36, .aload_n 0, 1), (37, .iload_n 1, 1), (38, .iconst 2, 1), (39, .iadd, 1), (40, .invokevirtual 114, 3), (43, .ifCond .ne 5, 3), (46, .iconst 0, 1), (47, .ireturn, 1), (48, .aload_n 0, 1), (49, .iload_n 2, 1), (50, .bipush 63, 2), (52, .if_icmp .eq 9, 3), (55, .iload_n 2, 1), (56, .bipush 35, 2), (58, .if_icmp .ne 7, 3), (61, .iconst 2, 1), (62, .goto 18, 3), (65, .aload_n 0, 1), (66, .getfield 137, 3), (69, .ifCond .ne 7, 3), (72, .iconst 1, 1), (73, .goto 7, 3), (76, .aload_n 0, 1), (77, .getfield 137, 3), (80, .putfield 137, 3), (83, .iconst 1, 1), (84, .ireturn, 1)]
theorem kd10_urlPiece_ok : ∀ q ∈ kd10_urlPiece, decode prog_12_method_29_code q.1 = .ok q.2 := by decide +kernel
def kd10_valuePiece : List (Nat × Instr × Nat) := [(0, .aload_n 0, 1), (1, .iload_n 1, 1), (2, .invokevirtual 114, 3), (5, .istore_n 2, 1), (6, .iload_n 2, 1), (7, .aload_n 0, 1), (8, .getfield 130, 3), (11, .if_icmp .ne 37, 3), (14, .aload_n 0, 1), (15, .getfield 137, 3), (18, .ifCond .eq 13, 3), (21, .aload_n 0, 1), (22, .getfield 134, 3), (25, .iconst 1, 1), (26, .if_icmp .eq 5, 3), (29, .iconst 0, 1), (30, .ireturn, 1), (31, .aload_n 0, 1), (32, .getfield 127, 3), (35, .istore_n 3, 1), (36, .aload_n 0, 1), (37, .iconst 1, 1), (38, .invokevirtual 151, 3), (41, .aload_n 0, 1), (42, .iload_n 3, 1), (43, .putfield 127, 3), (46, .iconst 1, 1), (47, .ireturn, 1), (48, .aload_n 0, 1), (49, .getfield 134, 3), (52, .ifCond .ne 23, 3), (55, .iload_n 2, 1), (56, .bipush 38, 2), (58, .if_icmp .ne 11, 3), (61, .aload_n 0, 1), (62, .iload_n 1, 1), (63, .invokevirtual 143, 3), (66, .ifCond .eq 7, 3), (69, .iconst 1, 1), (70, .goto 4, 3), (73, .iconst 0, 1), (74, .ireturn, 1), (75, .aload_n 0, 1), (76, .getfield 134, 3), (79, .iconst 1, 1), (80, .if_icmp .ne 9, 3), (83, .aload_n 0, 1), (84, .iload_n 1, 1), (85, .invokevirtual 178, 3), (88, .ireturn, 1), (89, .iload_n 2, 1), (90, .bipush 38, 2), (92, .if_icmp .ne 7, 3), (95, .iconst 0, 1), (96, .goto 21, 3), (99, .aload_n 0, 1), (100, .iload_n 1, 1), (101, .aload_n 0, 1), (102, .getfield 134, 3), (105, .iconst 3, 1), (106, .if_icmp .ne 7, 3), (109, .iconst 1, 1), (110, .goto 4, 3), (113, .iconst 0, 1), (114, .invokevirtual 181, 3), (117, .ireturn, 1)]
theorem kd10_valuePiece_ok : ∀ q ∈ kd10_valuePiece, decode prog_12_method_30_code q.1 = .ok q.2 := by decide +kernel
def kd10_openPiece : List (Nat × Instr × Nat) := [(0, .aload_n 0, 1), (1, .iload_n 1, 1), (2, .invokevirtual 114, 3), (5, .istore_n 3, 1), (6, .aload_n 0, 1), (7, .iload_n 1, 1), (8, .iconst 1, 1), (9, .iadd, 1), (10, .invokevirtual 114, 3), (13, .istore 4, 2), (15, .iload_n 3, 1), (16, .bipush 47, 2), (18, .if_icmp .ne 54, 3), (21, .iload 4, 2), (23, .bipush 42, 2), (25, .if_icmp .eq 14, 3), (28, .iload 4, 2), (30, .bipush 47, 2), (32, .if_icmp .ne 25, 3), (35, .iload_n 2, 1), (36, .ifCond .ne 21, 3), (39, .aload_n 0, 1), (40, .iload 4, 2), (42, .bipush 42, 2), (44, .if_icmp .ne 7, 3), (47, .iconst 4, 1), (48, .goto 4, 3), (51, .iconst 3, 1), (52, .putfield 137, 3), (55, .iconst 2, 1), (56, .ireturn, 1), (57, .iload_n 2, 1), (58, .ifCond .eq 12, 3), (61, .iload 4, 2), (63, .ifCond .eq 7, 3), (66, .iconst 1, 1), (67, .goto 4, 3), (70, .iconst 0, 1), (71, .ireturn, 1), (72, .aload_n 0, 1), (73, .iload_n 3, 1), (74, .bipush 39, 2), (76, .if_icmp .ne 7, 3), (79, .iconst 1, 1), (80, .goto 14, 3), (83, .iload_n 3, 1), (84, .bipush 34, 2), (86, .if_icmp .ne 7, 3), (89, .iconst 2, 1), (90, .goto 4, 3), (93, .iconst 0, 1), (94, .putfield 137, 3), (97, .iload_n 3, 1), (98, .bipush 96, 2), (100, .if_icmp .ne 11, 3), (103, .iload_n 2, 1), (104, .ifCond .ne 7, 3), (107, .iconst 0, 1), (108, .goto 4, 3), (111, .iconst 1, 1), (112, .ireturn, 1)]
theorem kd10_openPiece_ok : ∀ q ∈ kd10_openPiece, decode prog_12_method_31_code q.1 = .ok q.2 := by decide +kernel
def kd10_stringPiece : List (Nat × Instr × Nat) := [(0, .aload_n 0, 1), (1, .iload_n 1, 1), (2, .invokevirtual 114, 3), (5, .istore_n 2, 1), (6, .aload_n 0, 1), (7, .iload_n 1, 1), (8, .iconst 1, 1), (9, .iadd, 1), (10, .invokevirtual 114, 3), (13, .istore_n 3, 1), (14, .iload_n 2, 1), (15, .aload_n 0, 1), (16, .getfield 137, 3), (19, .iconst 1, 1), (20, .if_icmp .ne 8, 3), (23, .bipush 39, 2), (25, .goto 5, 3), (28, .bipush 34, 2), (30, .if_icmp .ne 10, 3), (33, .aload_n 0, 1), (34, .iconst 0, 1), (35, .putfield 137, 3), (38, .iconst 1, 1), (39, .ireturn, 1), (40, .iload_n 2, 1), (41, .bipush 92, 2), (43, .if_icmp .ne 41, 3), (46, .iload_n 3, 1), (47, .ifCond .eq 31, 3), (50, .iload_n 3, 1), (51, .bipush 60, 2), (53, .if_icmp .eq 25, 3), (56, .iload_n 3, 1), (57, .bipush 38, 2), (59, .if_icmp .eq 19, 3), (62, .aload_n 0, 1), (63, .getfield 124, 3), (66, .iconst 2, 1), (67, .if_icmp .ne 15, 3), (70, .iload_n 3, 1), (71, .aload_n 0, 1), (72, .getfield 130, 3), (75, .if_icmp .ne 7, 3), (78, .iconst 0, 1), (79, .goto 4, 3), (82, .iconst 2, 1), (83, .ireturn, 1), (84, .iload_n 2, 1), (85, .bipush 10, 2), (87, .if_icmp .ne 7, 3), (90, .iconst 0, 1), (91, .goto 4, 3), (94, .iconst 1, 1), (95, .ireturn, 1)]
theorem kd10_stringPiece_ok : ∀ q ∈ kd10_stringPiece, decode prog_12_method_32_code q.1 = .ok q.2 := by decide +kernel
def kd10_codePiece : List (Nat × Instr × Nat) := [(0, .aload_n 0, 1), (1, .iload_n 1, 1), (2, .invokevirtual 114, 3), (5, .istore_n 3, 1), (6, .aload_n 0, 1), (7, .iload_n 1, 1), (8, .iconst 1, 1), (9, .iadd, 1), (10, .invokevirtual 114, 3), (13, .istore 4, 2), (15, .aload_n 0, 1), (16, .getfield 137, 3), (19, .ifCond .ne 10, 3), (22, .aload_n 0, 1), (23, .iload_n 1, 1), (24, .iload_n 2, 1), (25, .invokevirtual 185, 3), (28, .ireturn, 1), (29, .aload_n 0, 1), (30, .getfield 137, 3), (33, .iconst 3, 1), (34, .if_icmp .ge 9, 3), (37, .aload_n 0, 1), (38, .iload_n 1, 1), (39, .invokevirtual 188, 3), (42, .ireturn, 1), (43, .aload_n 0, 1), (44, .getfield 137, 3), (47, .iconst 3, 1), (48, .if_icmp .ne 20, 3), (51, .aload_n 0, 1), (52, .iload_n 3, 1), (53, .bipush 10, 2), (55, .if_icmp .ne 7, 3), (58, .iconst 0, 1), (59, .goto 4, 3), (62, .iconst 3, 1), (63, .putfield 137, 3), (66, .iconst 1, 1), (67, .ireturn, 1), (68, .iload_n 3, 1), (69, .bipush 42, 2), (71, .if_icmp .ne 17, 3), (74, .iload 4, 2), (76, .bipush 47, 2), (78, .if_icmp .ne 10, 3), (81, .aload_n 0, 1), (82, .iconst 0, 1), (83, .putfield 137, 3), (86, .iconst 2, 1), (87, .ireturn, 1), (88, .iload_n 3, 1), (89, .bipush 42, 2), (91, .if_icmp .ne 12, 3), (94, .iload 4, 2), (96, .ifCond .ne 7, 3), (99, .iconst 0, 1), (100, .goto 4, 3), (103, .iconst 1, 1), (104, .ireturn, 1)]
theorem kd10_codePiece_ok : ∀ q ∈ kd10_codePiece, decode prog_12_method_33_code q.1 = .ok q.2 := by decide +kernel
def kd10_insidePiece : List (Nat × Instr × Nat) := [(0, .aload_n 0, 1), (1, .iload_n 1, 1), (2, .invokevirtual 114, 3), (5, .bipush 60, 2), (7, .if_icmp .eq 10, 3), (10, .aload_n 0, 1), (11, .iload_n 1, 1), (12, .iload_n 2, 1), (13, .invokevirtual 181, 3), (16, .ireturn, 1), (17, .aload_n 0, 1), (18, .iload_n 1, 1), (19, .iconst 1, 1), (20, .iadd, 1), (21, .invokevirtual 114, 3), (24, .istore_n 3, 1), (25, .iload_n 2, 1), (26, .ifCond .eq 7, 3), (29, .iconst 5, 1), (30, .goto 5, 3), (33, .bipush 6, 2), (35, .istore 4, 2), (37, .iload_n 3, 1), (38, .bipush 47, 2), (40, .if_icmp .ne 52, 3), (43, .iload_n 2, 1), (44, .ifCond .eq 17, 3), (47, .aload_n 0, 1), (48, .iload_n 1, 1), (49, .iconst 2, 1), (50, .iadd, 1), (51, .iconst 5, 1), (52, .invokevirtual 162, 3), (55, .ifCond .eq 37, 3), (58, .goto 15, 3), (61, .aload_n 0, 1), (62, .iload_n 1, 1), (63, .iconst 2, 1), (64, .iadd, 1), (65, .bipush 6, 2), (67, .invokevirtual 158, 3), (70, .ifCond .eq 22, 3), (73, .aload_n 0, 1), (74, .iload_n 1, 1), (75, .iconst 2, 1), (76, .iadd, 1), (77, .iload 4, 2), (79, .iadd, 1), (80, .invokevirtual 114, 3), (83, .bipush 62, 2), (85, .if_icmp .ne 7, 3), (88, .iconst 1, 1), (89, .goto 4, 3), (92, .iconst 0, 1), (93, .istore 5, 2), (95, .aload_n 0, 1), (96, .getfield 137, 3), (99, .ifCond .ne 18, 3), (102, .iload 5, 2), (104, .ifCond .eq 13, 3), (107, .aload_n 0, 1), (108, .iconst 0, 1), (109, .invokevirtual 151, 3), (112, .iload 4, 2), (114, .iconst 3, 1), (115, .iadd, 1), (116, .ireturn, 1), (117, .iload_n 3, 1), (118, .ifCond .eq 19, 3), (121, .iload_n 3, 1), (122, .bipush 47, 2), (124, .if_icmp .eq 13, 3), (127, .iload_n 3, 1), (128, .bipush 33, 2), (130, .if_icmp .eq 7, 3), (133, .iconst 1, 1), (134, .goto 4, 3), (137, .iconst 0, 1), (138, .ireturn, 1)]
theorem kd10_insidePiece_ok : ∀ q ∈ kd10_insidePiece, decode prog_12_method_34_code q.1 = .ok q.2 := by decide +kernel
def kd10_titlePiece : List (Nat × Instr × Nat) := [(0, .aload_n 0, 1), (1, .iload_n 1, 1), (2, .invokevirtual 114, 3), (5, .istore_n 2, 1), (6, .iload_n 2, 1), (7, .bipush 60, 2), (9, .if_icmp .ne 65, 3), (12, .aload_n 0, 1), (13, .iload_n 1, 1), (14, .iconst 1, 1), (15, .iadd, 1), (16, .invokevirtual 114, 3), (19, .bipush 47, 2), (21, .if_icmp .ne 31, 3), (24, .aload_n 0, 1), (25, .iload_n 1, 1), (26, .iconst 2, 1), (27, .iadd, 1), (28, .iconst 5, 1), (29, .invokevirtual 165, 3), (32, .ifCond .eq 20, 3), (35, .aload_n 0, 1), (36, .iload_n 1, 1), (37, .bipush 7, 2), (39, .iadd, 1), (40, .invokevirtual 114, 3), (43, .bipush 62, 2), (45, .if_icmp .ne 7, 3), (48, .iconst 1, 1), (49, .goto 4, 3), (52, .iconst 0, 1), (53, .istore_n 3, 1), (54, .iload_n 3, 1), (55, .ifCond .eq 8, 3), (58, .aload_n 0, 1), (59, .iconst 0, 1), (60, .invokevirtual 151, 3), (63, .iload_n 3, 1), (64, .ifCond .eq 8, 3), (67, .bipush 8, 2), (69, .goto 4, 3), (72, .iconst 0, 1), (73, .ireturn, 1), (74, .iload_n 2, 1), (75, .bipush 38, 2), (77, .if_icmp .ne 11, 3), (80, .aload_n 0, 1), (81, .iload_n 1, 1), (82, .invokevirtual 143, 3), (85, .ifCond .eq 7, 3), (88, .iconst 1, 1), (89, .goto 4, 3), (92, .iconst 0, 1), (93, .ireturn, 1)]
theorem kd10_titlePiece_ok : ∀ q ∈ kd10_titlePiece, decode prog_12_method_35_code q.1 = .ok q.2 := by decide +kernel
def kd10_commentPiece : List (Nat × Instr × Nat) := [(0, .aload_n 0, 1), (1, .iload_n 1, 1), (2, .invokevirtual 114, 3), (5, .bipush 45, 2), (7, .if_icmp .eq 5, 3), (10, .iconst 1, 1), (11, .ireturn, 1), (12, .aload_n 0, 1), (13, .iload_n 1, 1), (14, .iconst 1, 1), (15, .iadd, 1), (16, .invokevirtual 114, 3), (19, .bipush 45, 2), (21, .if_icmp .ne 22, 3), (24, .aload_n 0, 1), (25, .iload_n 1, 1), (26, .iconst 2, 1), (27, .iadd, 1), (28, .invokevirtual 114, 3), (31, .bipush 62, 2), (33, .if_icmp .ne 10, 3), (36, .aload_n 0, 1), (37, .iconst 0, 1), (38, .invokevirtual 151, 3), (41, .iconst 3, 1), (42, .ireturn, 1), (43, .aload_n 0, 1), (44, .iload_n 1, 1), (45, .iconst 1, 1), (46, .iadd, 1), (47, .invokevirtual 114, 3), (50, .ifCond .eq 17, 3), (53, .aload_n 0, 1), (54, .iload_n 1, 1), (55, .iconst 2, 1), (56, .iadd, 1), (57, .invokevirtual 114, 3), (60, .ifCond .eq 7, 3), (63, .iconst 1, 1), (64, .goto 4, 3), (67, .iconst 0, 1), (68, .ireturn, 1)]
theorem kd10_commentPiece_ok : ∀ q ∈ kd10_commentPiece, decode prog_12_method_36_code q.1 = .ok q.2 := by decide +kernel
def kd10_piece : List (Nat × Instr × Nat) := [(0, .aload_n 0, 1), (1, .getfield 124, 3), (4, .tableswitch 74 0 6 #[44, 50, 56, 74, 74, 62, 68], 44), (48, .aload_n 0, 1), (49, .iload_n 1, 1), (50, .invokevirtual 191, 3), (53, .ireturn, 1), (54, .aload_n 0, 1), (55, .iload_n 1, 1), (56, .invokevirtual 194, 3), (59, .ireturn, 1), (60, .aload_n 0, 1), (61, .iload_n 1, 1), (62, .invokevirtual 197, 3), (65, .ireturn, 1), (66, .aload_n 0, 1), (67, .iload_n 1, 1), (68, .invokevirtual 200, 3), (71, .ireturn, 1), (72, .aload_n 0, 1), (73, .iload_n 1, 1), (74, .invokevirtual 203, 3), (77, .ireturn, 1), (78, .aload_n 0, 1), (79, .iload_n 1, 1), (80, .aload_n 0, 1), (81, .getfield 124, 3), (84, .iconst 4, 1), (85, .if_icmp .ne 7, 3), (88, .iconst 1, 1), (89, .goto 4, 3), (92, .iconst 0, 1), (93, .invokevirtual 206, 3), (96, .ireturn, 1)]
theorem kd10_piece_ok : ∀ q ∈ kd10_piece, decode prog_12_method_37_code q.1 = .ok q.2 := by decide +kernel
def kd10_state : List (Nat × Instr × Nat) := [(0, .aload_n 0, 1), (1, .getfield 124, 3), (4, .bipush 8, 2), (6, .aload_n 0, 1), (7, .getfield 127, 3), (10, .imul, 1), (11, .iadd, 1), (12, .bipush 32, 2), (14, .aload_n 0, 1), (15, .getfield 134, 3), (18, .imul, 1), (19, .iadd, 1), (20, .sipush 128, 3), (23, .aload_n 0, 1), (24, .getfield 137, 3), (27, .imul, 1), (28, .iadd, 1), (29, .sipush 1024, 3), (32, .aload_n 0, 1), (33, .getfield 130, 3), (36, .imul, 1), (37, .iadd, 1), (38, .ireturn, 1)]
theorem kd10_state_ok : ∀ q ∈ kd10_state, decode prog_12_method_38_code q.1 = .ok q.2 := by decide +kernel
def kd10_restore : List (Nat × Instr × Nat) := [(0, .aload_n 0, 1), (1, .iload_n 1, 1), (2, .bipush 8, 2), (4, .irem, 1), (5, .putfield 124, 3), (8, .aload_n 0, 1), (9, .iload_n 1, 1), (10, .bipush 8, 2), (12, .idiv, 1), (13, .iconst 4, 1), (14, .irem, 1), (15, .putfield 127, 3), (18, .aload_n 0, 1), (19, .iload_n 1, 1), (20, .bipush 32, 2), (22, .idiv, 1), (23, .iconst 4, 1), (24, .irem, 1), (25, .putfield 134, 3), (28, .aload_n 0, 1), (29, .iload_n 1, 1), (30, .sipush 128, 3), (33, .idiv, 1), (34, .bipush 8, 2), (36, .irem, 1), (37, .putfield 137, 3), (40, .aload_n 0, 1), (41, .iload_n 1, 1), (42, .sipush 1024, 3), (45, .idiv, 1), (46, .i2c, 1), (47, .putfield 130, 3), (50, .return_, 1)]
theorem kd10_restore_ok : ∀ q ∈ kd10_restore, decode prog_12_method_39_code q.1 = .ok q.2 := by decide +kernel
def kd10_holeContext : List (Nat × Instr × Nat) := [(0, .aload_n 0, 1), (1, .getfield 124, 3), (4, .ifCond .eq 11, 3), (7, .aload_n 0, 1), (8, .getfield 124, 3), (11, .iconst 5, 1), (12, .if_icmp .ne 5, 3), (15, .iconst 0, 1), (16, .ireturn, 1), (17, .aload_n 0, 1), (18, .getfield 124, 3), (21, .iconst 3, 1), (22, .if_icmp .eq 11, 3), (25, .aload_n 0, 1), (26, .getfield 124, 3), (29, .iconst 4, 1), (30, .if_icmp .ne 7, 3), (33, .iconst 1, 1), (34, .goto 4, 3), (37, .iconst 0, 1), (38, .istore_n 1, 1), (39, .aload_n 0, 1), (40, .getfield 124, 3), (43, .iconst 2, 1), (44, .if_icmp .eq 7, 3), (47, .iload_n 1, 1), (48, .ifCond .eq 11, 3), (51, .aload_n 0, 1), (52, .getfield 137, 3), (55, .iconst 2, 1), (56, .if_icmp .le 5, 3), (59, .iconst (-1), 1), (60, .ireturn, 1), (61, .iload_n 1, 1), (62, .ifCond .eq 24, 3), (65, .aload_n 0, 1), (66, .getfield 124, 3), (69, .iconst 3, 1), (70, .if_icmp .ne 8, 3), (73, .bipush 8, 2), (75, .goto 5, 3), (78, .bipush 12, 2), (80, .aload_n 0, 1), (81, .getfield 137, 3), (84, .iadd, 1), (85, .ireturn, 1), (86, .aload_n 0, 1), (87, .getfield 134, 3), (90, .ifCond .ne 7, 3), (93, .iconst 1, 1), (94, .goto 40, 3), (97, .aload_n 0, 1), (98, .getfield 134, 3), (101, .iconst 1, 1), (102, .if_icmp .ne 12, 3), (105, .iconst 2, 1), (106, .aload_n 0, 1), (107, .getfield 137, 3), (110, .iadd, 1), (111, .goto 23, 3), (114, .aload_n 0, 1), (115, .getfield 134, 3), (118, .iconst 2, 1), (119, .if_icmp .ne 8, 3), (122, .bipush 24, 2), (124, .goto 5, 3), (127, .bipush 28, 2), (129, .aload_n 0, 1), (130, .getfield 137, 3), (133, .iadd, 1), (134, .ireturn, 1)]
theorem kd10_holeContext_ok : ∀ q ∈ kd10_holeContext, decode prog_12_method_40_code q.1 = .ok q.2 := by decide +kernel
def kd10_readHole : List (Nat × Instr × Nat) := [(0, .aload_n 0, 1), (1, .invokevirtual 209, 3), (4, .istore_n 2, 1), (5, .iload_n 2, 1), (6, .ifCond .ge 5, 3), (9, .iconst 0, 1), (10, .ireturn, 1), (11, .aload_n 0, 1), (12, .getfield 26, 3), (15, .iload_n 1, 1), (16, .iload_n 2, 1), (17, .iastore, 1), (18, .aload_n 0, 1), (19, .getfield 42, 3), (22, .aload_n 0, 1), (23, .getfield 213, 3), (26, .iload_n 2, 1), (27, .iastore, 1), (28, .aload_n 0, 1), (29, .dup, 1), (30, .getfield 213, 3), (33, .iconst 1, 1), (34, .iadd, 1), (35, .putfield 213, 3), (38, .aload_n 0, 1), (39, .iload_n 2, 1), (40, .iconst 2, 1), (41, .if_icmp .ne 7, 3), (44, .iconst 1, 1), (45, .goto 7, 3), (48, .aload_n 0, 1), (49, .getfield 137, 3), (52, .putfield 137, 3), (55, .iconst 1, 1), (56, .ireturn, 1)]
theorem kd10_readHole_ok : ∀ q ∈ kd10_readHole, decode prog_12_method_41_code q.1 = .ok q.2 := by decide +kernel
def kd10_readOpening : List (Nat × Instr × Nat) := [(0, .aload_n 0, 1), (1, .getfield 216, 3), (4, .bipush 6, 2), (6, .if_icmp .ne 5, 3), (9, .iconst 0, 1), (10, .ireturn, 1), (11, .aload_n 0, 1), (12, .getfield 45, 3), (15, .aload_n 0, 1), (16, .getfield 216, 3), (19, .iload_n 1, 1), (20, .iastore, 1), (21, .aload_n 0, 1), (22, .getfield 48, 3), (25, .aload_n 0, 1), (26, .getfield 216, 3), (29, .aload_n 0, 1), (30, .invokevirtual 219, 3), (33, .iastore, 1), (34, .aload_n 0, 1), (35, .getfield 51, 3), (38, .aload_n 0, 1), (39, .getfield 216, 3), (42, .aload_n 0, 1), (43, .invokevirtual 219, 3), (46, .iastore, 1), (47, .aload_n 0, 1), (48, .getfield 54, 3), (51, .aload_n 0, 1), (52, .getfield 216, 3), (55, .iconst 0, 1), (56, .bastore, 1), (57, .aload_n 0, 1), (58, .getfield 29, 3), (61, .iload_n 1, 1), (62, .iconst (-1), 1), (63, .iastore, 1), (64, .aload_n 0, 1), (65, .dup, 1), (66, .getfield 216, 3), (69, .iconst 1, 1), (70, .iadd, 1), (71, .putfield 216, 3), (74, .iconst 1, 1), (75, .ireturn, 1)]
theorem kd10_readOpening_ok : ∀ q ∈ kd10_readOpening, decode prog_12_method_42_code q.1 = .ok q.2 := by decide +kernel
def kd10_readOtherwise : List (Nat × Instr × Nat) := [(0, .aload_n 0, 1), (1, .getfield 216, 3), (4, .ifCond .eq 37, 3), (7, .aload_n 0, 1), (8, .getfield 16, 3), (11, .aload_n 0, 1), (12, .getfield 45, 3), (15, .aload_n 0, 1), (16, .getfield 216, 3), (19, .iconst 1, 1), (20, .isub, 1), (21, .iaload, 1), (22, .iaload, 1), (23, .iconst 2, 1), (24, .if_icmp .ne 17, 3), (27, .aload_n 0, 1), (28, .getfield 54, 3), (31, .aload_n 0, 1), (32, .getfield 216, 3), (35, .iconst 1, 1), (36, .isub, 1), (37, .baload, 1), (38, .ifCond .eq 5, 3), (41, .iconst 0, 1), (42, .ireturn, 1), (43, .aload_n 0, 1), (44, .getfield 51, 3), (47, .aload_n 0, 1), (48, .getfield 216, 3), (51, .iconst 1, 1), (52, .isub, 1), (53, .aload_n 0, 1), (54, .invokevirtual 219, 3), (57, .iastore, 1), (58, .aload_n 0, 1), (59, .getfield 54, 3), (62, .aload_n 0, 1), (63, .getfield 216, 3), (66, .iconst 1, 1), (67, .isub, 1), (68, .iconst 1, 1), (69, .bastore, 1), (70, .aload_n 0, 1), (71, .getfield 29, 3), (74, .aload_n 0, 1), (75, .getfield 45, 3), (78, .aload_n 0, 1), (79, .getfield 216, 3), (82, .iconst 1, 1), (83, .isub, 1), (84, .iaload, 1), (85, .iload_n 1, 1), (86, .iastore, 1), (87, .aload_n 0, 1), (88, .getfield 35, 3), (91, .iload_n 1, 1), (92, .aload_n 0, 1), (93, .getfield 45, 3), (96, .aload_n 0, 1), (97, .getfield 216, 3), (100, .iconst 1, 1), (101, .isub, 1), (102, .iaload, 1), (103, .iastore, 1), (104, .aload_n 0, 1), (105, .aload_n 0, 1), (106, .getfield 48, 3), (109, .aload_n 0, 1), (110, .getfield 216, 3), (113, .iconst 1, 1), (114, .isub, 1), (115, .iaload, 1), (116, .invokevirtual 222, 3), (119, .iconst 1, 1), (120, .ireturn, 1)]
theorem kd10_readOtherwise_ok : ∀ q ∈ kd10_readOtherwise, decode prog_12_method_43_code q.1 = .ok q.2 := by decide +kernel
def kd10_readClose : List (Nat × Instr × Nat) := [(0, .aload_n 0, 1), (1, .getfield 216, 3), (4, .ifCond .eq 21, 3), (7, .aload_n 0, 1), (8, .invokevirtual 219, 3), (11, .aload_n 0, 1), (12, .getfield 51, 3), (15, .aload_n 0, 1), (16, .getfield 216, 3), (19, .iconst 1, 1), (20, .isub, 1), (21, .iaload, 1), (22, .if_icmp .eq 5, 3), (25, .iconst 0, 1), (26, .ireturn, 1), (27, .aload_n 0, 1), (28, .dup, 1), (29, .getfield 216, 3), (32, .iconst 1, 1), (33, .isub, 1), (34, .putfield 216, 3), (37, .aload_n 0, 1), (38, .getfield 32, 3), (41, .aload_n 0, 1), (42, .getfield 45, 3), (45, .aload_n 0, 1), (46, .getfield 216, 3), (49, .iaload, 1), (50, .iload_n 1, 1), (51, .iastore, 1), (52, .aload_n 0, 1), (53, .getfield 35, 3), (56, .iload_n 1, 1), (57, .aload_n 0, 1), (58, .getfield 45, 3), (61, .aload_n 0, 1), (62, .getfield 216, 3), (65, .iaload, 1), (66, .iastore, 1), (67, .iconst 1, 1), (68, .ireturn, 1)]
theorem kd10_readClose_ok : ∀ q ∈ kd10_readClose, decode prog_12_method_44_code q.1 = .ok q.2 := by decide +kernel
def kd10_readSymbol : List (Nat × Instr × Nat) := [(0, .aload_n 0, 1), (1, .getfield 16, 3), (4, .iload_n 1, 1), (5, .iaload, 1), (6, .tableswitch 58 1 5 #[34, 40, 40, 46, 52], 34), (40, .aload_n 0, 1), (41, .iload_n 1, 1), (42, .invokevirtual 225, 3), (45, .ireturn, 1), (46, .aload_n 0, 1), (47, .iload_n 1, 1), (48, .invokevirtual 228, 3), (51, .ireturn, 1), (52, .aload_n 0, 1), (53, .iload_n 1, 1), (54, .invokevirtual 231, 3), (57, .ireturn, 1), (58, .aload_n 0, 1), (59, .iload_n 1, 1), (60, .invokevirtual 234, 3), (63, .ireturn, 1), (64, .iconst 0, 1), (65, .ireturn, 1)]
theorem kd10_readSymbol_ok : ∀ q ∈ kd10_readSymbol, decode prog_12_method_45_code q.1 = .ok q.2 := by decide +kernel
def kd10_build : List (Nat × Instr × Nat) := [(0, .aload_n 0, 1), (1, .invokevirtual 237, 3), (4, .aload_n 0, 1), (5, .iconst 0, 1), (6, .invokevirtual 151, 3), (9, .aload_n 0, 1), (10, .iconst 0, 1), (11, .putfield 216, 3), (14, .aload_n 0, 1), (15, .iconst 0, 1), (16, .putfield 213, 3), (19, .iconst 0, 1), (20, .istore_n 1, 1), (21, .iconst 1, 1), (22, .istore_n 2, 1), (23, .iload_n 1, 1), (24, .aload_n 0, 1), (25, .getfield 92, 3), (28, .if_icmp .ge 55, 3), (31, .iload_n 2, 1), (32, .ifCond .eq 51, 3), (35, .aload_n 0, 1), (36, .getfield 16, 3), (39, .iload_n 1, 1), (40, .iaload, 1), (41, .ifCond .ne 11, 3), (44, .aload_n 0, 1), (45, .iload_n 1, 1), (46, .invokevirtual 240, 3), (49, .goto 16, 3), (52, .aload_n 0, 1), (53, .iload_n 1, 1), (54, .invokevirtual 243, 3), (57, .ifCond .eq 7, 3), (60, .iconst 1, 1), (61, .goto 4, 3), (64, .iconst 0, 1), (65, .istore_n 3, 1), (66, .iload_n 3, 1), (67, .ifCond .le 7, 3), (70, .iconst 1, 1), (71, .goto 4, 3), (74, .iconst 0, 1), (75, .istore_n 2, 1), (76, .iload_n 1, 1), (77, .iload_n 3, 1), (78, .iadd, 1), (79, .istore_n 1, 1), (80, .goto (-57), 3), (83, .iload_n 2, 1), (84, .ifCond .eq 21, 3), (87, .aload_n 0, 1), (88, .getfield 216, 3), (91, .ifCond .ne 14, 3), (94, .aload_n 0, 1), (95, .getfield 124, 3), (98, .ifCond .ne 7, 3), (101, .iconst 1, 1), (102, .goto 4, 3), (105, .iconst 0, 1), (106, .istore_n 3, 1), (107, .aload_n 0, 1), (108, .iload_n 3, 1), (109, .putfield 88, 3), (112, .aload_n 0, 1), (113, .iload_n 3, 1), (114, .ifCond .eq 7, 3), (117, .iconst (-1), 1), (118, .goto 20, 3), (121, .iload_n 2, 1), (122, .ifCond .eq 10, 3), (125, .aload_n 0, 1), (126, .getfield 85, 3), (129, .goto 9, 3), (132, .aload_n 0, 1), (133, .getfield 23, 3), (136, .iload_n 1, 1), (137, .iaload, 1), (138, .putfield 38, 3), (141, .iload_n 3, 1), (142, .ireturn, 1)]
theorem kd10_build_ok : ∀ q ∈ kd10_build, decode prog_12_method_46_code q.1 = .ok q.2 := by decide +kernel
def kd10_compile : List (Nat × Instr × Nat) := [(0, .aload_n 0, 1), (1, .aload_n 0, 1), (2, .invokevirtual 246, 3), (5, .ifCond .eq 7, 3), (8, .iconst 0, 1), (9, .goto 4, 3), (12, .iconst 1, 1), (13, .putfield 79, 3), (16, .aload_n 0, 1), (17, .getfield 79, 3), (20, .ifCond .le 7, 3), (23, .iconst 0, 1), (24, .goto 7, 3), (27, .aload_n 0, 1), (28, .getfield 213, 3), (31, .ireturn, 1)]
theorem kd10_compile_ok : ∀ q ∈ kd10_compile, decode prog_12_method_47_code q.1 = .ok q.2 := by decide +kernel
def kd10_accepts : List (Nat × Instr × Nat) := [(0, .aload_n 0, 1), (1, .iconst 0, 1), (2, .putfield 79, 3), (5, .aload_n 0, 1), (6, .invokevirtual 246, 3), (9, .ireturn, 1)]
theorem kd10_accepts_ok : ∀ q ∈ kd10_accepts, decode prog_12_method_48_code q.1 = .ok q.2 := by decide +kernel
def kd10_fault : List (Nat × Instr × Nat) := [(0, .aload_n 0, 1), (1, .iconst 0, 1), (2, .putfield 79, 3), (5, .aload_n 0, 1), (6, .getfield 38, 3), (9, .ireturn, 1)]
theorem kd10_fault_ok : ∀ q ∈ kd10_fault, decode prog_12_method_49_code q.1 = .ok q.2 := by decide +kernel
def kd10_hole : List (Nat × Instr × Nat) := [(0, .aload_n 0, 1), (1, .iconst 0, 1), (2, .putfield 79, 3), (5, .aload_n 0, 1), (6, .getfield 88, 3), (9, .ifCond .eq 24, 3), (12, .iload_n 1, 1), (13, .ifCond .lt 20, 3), (16, .iload_n 1, 1), (17, .aload_n 0, 1), (18, .getfield 213, 3), (21, .if_icmp .ge 12, 3), (24, .aload_n 0, 1), (25, .getfield 42, 3), (28, .iload_n 1, 1), (29, .iaload, 1), (30, .goto 4, 3), (33, .iconst (-1), 1), (34, .ireturn, 1)]
theorem kd10_hole_ok : ∀ q ∈ kd10_hole, decode prog_12_method_50_code q.1 = .ok q.2 := by decide +kernel
def kd10_item : List (Nat × Instr × Nat) := [(0, .aload_n 0, 1), (1, .iload_n 1, 1), (2, .ifCond .lt 9, 3), (5, .iload_n 1, 1), (6, .bipush 7, 2), (8, .if_icmp .le 7, 3), (11, .iconst 1, 1), (12, .goto 4, 3), (15, .iconst 0, 1), (16, .putfield 79, 3), (19, .aload_n 0, 1), (20, .getfield 79, 3), (23, .ifCond .ne 18, 3), (26, .aload_n 0, 1), (27, .getfield 58, 3), (30, .iload_n 1, 1), (31, .iaload, 1), (32, .iconst 4, 1), (33, .if_icmp .ne 8, 3), (36, .aload_n 0, 1), (37, .iconst 2, 1), (38, .putfield 79, 3), (41, .aload_n 0, 1), (42, .getfield 79, 3), (45, .ifCond .le 5, 3), (48, .iconst 0, 1), (49, .ireturn, 1), (50, .iconst 4, 1), (51, .iload_n 1, 1), (52, .imul, 1), (53, .aload_n 0, 1), (54, .getfield 58, 3), (57, .iload_n 1, 1), (58, .iaload, 1), (59, .iadd, 1), (60, .istore_n 2, 1), (61, .aload_n 0, 1), (62, .getfield 61, 3), (65, .iload_n 2, 1), (66, .aload_n 0, 1), (67, .getfield 82, 3), (70, .iastore, 1), (71, .iconst 0, 1), (72, .istore_n 3, 1), (73, .iload_n 3, 1), (74, .aload_n 0, 1), (75, .getfield 82, 3), (78, .if_icmp .ge 26, 3), (81, .aload_n 0, 1), (82, .getfield 64, 3), (85, .bipush 40, 2), (87, .iload_n 2, 1), (88, .imul, 1), (89, .iload_n 3, 1), (90, .iadd, 1), (91, .aload_n 0, 1), (92, .getfield 7, 3), (95, .iload_n 3, 1), (96, .caload, 1), (97, .castore, 1), (98, .iinc 3 1, 3), (101, .goto (-28), 3), (104, .aload_n 0, 1), (105, .iconst 0, 1), (106, .putfield 82, 3), (109, .aload_n 0, 1), (110, .getfield 58, 3), (113, .iload_n 1, 1), (114, .dup2, 1), (115, .iaload, 1), (116, .iconst 1, 1), (117, .iadd, 1), (118, .iastore, 1), (119, .aload_n 0, 1), (120, .getfield 58, 3), (123, .iload_n 1, 1), (124, .iaload, 1), (125, .ireturn, 1)]
theorem kd10_item_ok : ∀ q ∈ kd10_item, decode prog_12_method_51_code q.1 = .ok q.2 := by decide +kernel
def kd10_forget : List (Nat × Instr × Nat) := [(0, .aload_n 0, 1), (1, .iload_n 1, 1), (2, .ifCond .lt 9, 3), (5, .iload_n 1, 1), (6, .bipush 7, 2), (8, .if_icmp .le 7, 3), (11, .iconst 1, 1), (12, .goto 4, 3), (15, .iconst 0, 1), (16, .putfield 79, 3), (19, .aload_n 0, 1), (20, .getfield 79, 3), (23, .ifCond .le 5, 3), (26, .iconst 0, 1), (27, .ireturn, 1), (28, .aload_n 0, 1), (29, .getfield 58, 3), (32, .iload_n 1, 1), (33, .iaload, 1), (34, .istore_n 2, 1), (35, .aload_n 0, 1), (36, .getfield 58, 3), (39, .iload_n 1, 1), (40, .iconst 0, 1), (41, .iastore, 1), (42, .iload_n 2, 1), (43, .ireturn, 1)]
theorem kd10_forget_ok : ∀ q ∈ kd10_forget, decode prog_12_method_52_code q.1 = .ok q.2 := by decide +kernel
def kd10_firstItem : List (Nat × Instr × Nat) := [(0, .aload_n 0, 1), (1, .getfield 67, 3), (4, .iload_n 1, 1), (5, .iaload, 1), (6, .ifCond .lt 12, 3), (9, .aload_n 0, 1), (10, .getfield 67, 3), (13, .iload_n 1, 1), (14, .iaload, 1), (15, .goto 19, 3), (18, .aload_n 0, 1), (19, .getfield 58, 3), (22, .iload_n 1, 1), (23, .iaload, 1), (24, .ifCond .le 9, 3), (27, .iconst 4, 1), (28, .iload_n 1, 1), (29, .imul, 1), (30, .goto 4, 3), (33, .iconst (-1), 1), (34, .ireturn, 1)]
theorem kd10_firstItem_ok : ∀ q ∈ kd10_firstItem, decode prog_12_method_53_code q.1 = .ok q.2 := by decide +kernel
def kd10_put : List (Nat × Instr × Nat) := [(0, .aload_n 0, 1), (1, .aload_n 0, 1), (2, .getfield 250, 3), (5, .ifCond .ne 13, 3), (8, .aload_n 0, 1), (9, .getfield 253, 3), (12, .sipush 1000, 3), (15, .if_icmp .ne 7, 3), (18, .iconst 1, 1), (19, .goto 4, 3), (22, .iconst 0, 1), (23, .putfield 250, 3), (26, .aload_n 0, 1), (27, .getfield 250, 3), (30, .ifCond .ne 23, 3), (33, .aload_n 0, 1), (34, .getfield 76, 3), (37, .aload_n 0, 1), (38, .getfield 253, 3), (41, .iload_n 1, 1), (42, .castore, 1), (43, .aload_n 0, 1), (44, .dup, 1), (45, .getfield 253, 3), (48, .iconst 1, 1), (49, .iadd, 1), (50, .putfield 253, 3), (53, .return_, 1)]
theorem kd10_put_ok : ∀ q ∈ kd10_put, decode prog_12_method_54_code q.1 = .ok q.2 := by decide +kernel
def kd10_hex : List (Nat × Instr × Nat) := [(0, .iload_n 1, 1), (1, .bipush 10, 2), (3, .if_icmp .ge 11, 3), (6, .bipush 48, 2), (8, .iload_n 1, 1), (9, .iadd, 1), (10, .i2c, 1), (11, .goto 11, 3), (14, .bipush 65, 2), (16, .iload_n 1, 1), (17, .iadd, 1), (18, .bipush 10, 2), (20, .isub, 1), (21, .i2c, 1), (22, .ireturn, 1)]
theorem kd10_hex_ok : ∀ q ∈ kd10_hex, decode prog_12_method_55_code q.1 = .ok q.2 := by decide +kernel
def kd10_putHex : List (Nat × Instr × Nat) := [(0, .aload_n 0, 1), (1, .aload_n 0, 1), (2, .iload_n 1, 1), (3, .bipush 16, 2), (5, .idiv, 1), (6, .invokevirtual 256, 3), (9, .invokevirtual 259, 3), (12, .aload_n 0, 1), (13, .aload_n 0, 1), (14, .iload_n 1, 1), (15, .bipush 16, 2), (17, .irem, 1), (18, .invokevirtual 256, 3), (21, .invokevirtual 259, 3), (24, .return_, 1)]
theorem kd10_putHex_ok : ∀ q ∈ kd10_putHex, decode prog_12_method_56_code q.1 = .ok q.2 := by decide +kernel
def kd10_put5 : List (Nat × Instr × Nat) := [(0, .aload_n 0, 1), (1, .iload_n 1, 1), (2, .invokevirtual 259, 3), (5, .aload_n 0, 1), (6, .iload_n 2, 1), (7, .invokevirtual 259, 3), (10, .aload_n 0, 1), (11, .iload_n 3, 1), (12, .invokevirtual 259, 3), (15, .aload_n 0, 1), (16, .iload 4, 2), (18, .invokevirtual 259, 3), (21, .iload 5, 2), (23, .ifCond .eq 9, 3), (26, .aload_n 0, 1), (27, .iload 5, 2), (29, .invokevirtual 259, 3), (32, .return_, 1)]
theorem kd10_put5_ok : ∀ q ∈ kd10_put5, decode prog_12_method_57_code q.1 = .ok q.2 := by decide +kernel
def kd10_putPlain : List (Nat × Instr × Nat) := [(0, .iload_n 1, 1), (1, .bipush 38, 2), (3, .if_icmp .ne 20, 3), (6, .aload_n 0, 1), (7, .bipush 38, 2), (9, .bipush 97, 2), (11, .bipush 109, 2), (13, .bipush 112, 2), (15, .bipush 59, 2), (17, .invokevirtual 263, 3), (20, .goto 98, 3), (23, .iload_n 1, 1), (24, .bipush 60, 2), (26, .if_icmp .ne 19, 3), (29, .aload_n 0, 1), (30, .bipush 38, 2), (32, .bipush 108, 2), (34, .bipush 116, 2), (36, .bipush 59, 2), (38, .iconst 0, 1), (39, .invokevirtual 263, 3), (42, .goto 76, 3), (45, .iload_n 1, 1), (46, .bipush 62, 2), (48, .if_icmp .ne 19, 3), (51, .aload_n 0, 1), (52, .bipush 38, 2), (54, .bipush 103, 2), (56, .bipush 116, 2), (58, .bipush 59, 2), (60, .iconst 0, 1), (61, .invokevirtual 263, 3), (64, .goto 54, 3), (67, .iload_n 1, 1), (68, .bipush 34, 2), (70, .if_icmp .ne 20, 3), (73, .aload_n 0, 1), (74, .bipush 38, 2), (76, .bipush 35, 2), (78, .bipush 51, 2), (80, .bipush 52, 2), (82, .bipush 59, 2), (84, .invokevirtual 263, 3), (87, .goto 31, 3), (90, .iload_n 1, 1), (91, .bipush 39, 2), (93, .if_icmp .ne 20, 3), (96, .aload_n 0, 1), (97, .bipush 38, 2), (99, .bipush 35, 2), (101, .bipush 51, 2), (103, .bipush 57, 2), (105, .bipush 59, 2), (107, .invokevirtual 263, 3), (110, .goto 8, 3), (113, .aload_n 0, 1), (114, .iload_n 1, 1), (115, .invokevirtual 259, 3), (118, .return_, 1)]
theorem kd10_putPlain_ok : ∀ q ∈ kd10_putPlain, decode prog_12_method_58_code q.1 = .ok q.2 := by decide +kernel
def kd10_staysInUrl : List (Nat × Instr × Nat) := [(0, .iload_n 0, 1), (1, .bipush 47, 2), (3, .if_icmp .eq 69, 3), (6, .iload_n 0, 1), (7, .bipush 58, 2), (9, .if_icmp .eq 63, 3), (12, .iload_n 0, 1), (13, .bipush 64, 2), (15, .if_icmp .eq 57, 3), (18, .iload_n 0, 1), (19, .bipush 33, 2), (21, .if_icmp .eq 51, 3), (24, .iload_n 0, 1), (25, .bipush 36, 2), (27, .if_icmp .eq 45, 3), (30, .iload_n 0, 1), (31, .bipush 42, 2), (33, .if_icmp .eq 39, 3), (36, .iload_n 0, 1), (37, .bipush 43, 2), (39, .if_icmp .eq 33, 3), (42, .iload_n 0, 1), (43, .bipush 44, 2), (45, .if_icmp .eq 27, 3), (48, .iload_n 0, 1), (49, .bipush 59, 2), (51, .if_icmp .eq 21, 3), (54, .iload_n 0, 1), (55, .bipush 61, 2), (57, .if_icmp .eq 15, 3), (60, .iload_n 0, 1), (61, .bipush 63, 2), (63, .if_icmp .eq 9, 3), (66, .iload_n 0, 1), (67, .bipush 35, 2), (69, .if_icmp .ne 7, 3), (72, .iconst 1, 1), (73, .goto 4, 3), (76, .iconst 0, 1), (77, .ireturn, 1)]
theorem kd10_staysInUrl_ok : ∀ q ∈ kd10_staysInUrl, decode prog_12_method_59_code q.1 = .ok q.2 := by decide +kernel
def kd10_putUrl : List (Nat × Instr × Nat) := [(0, .iload_n 1, 1), (1, .invokestatic 140, 3), (4, .ifCond .ne 39, 3), (7, .iload_n 1, 1), (8, .bipush 45, 2), (10, .if_icmp .eq 33, 3), (13, .iload_n 1, 1), (14, .bipush 46, 2), (16, .if_icmp .eq 27, 3), (19, .iload_n 1, 1), (20, .bipush 95, 2), (22, .if_icmp .eq 21, 3), (25, .iload_n 1, 1), (26, .bipush 126, 2), (28, .if_icmp .eq 15, 3), (31, .iload_n 2, 1), (32, .iconst 2, 1), (33, .if_icmp .ge 14, 3), (36, .iload_n 1, 1), (37, .invokestatic 267, 3), (40, .ifCond .eq 7, 3), (43, .iconst 1, 1), (44, .goto 4, 3), (47, .iconst 0, 1), (48, .istore_n 3, 1), (49, .iload_n 3, 1), (50, .ifCond .eq 11, 3), (53, .aload_n 0, 1), (54, .iload_n 1, 1), (55, .invokevirtual 259, 3), (58, .goto 42, 3), (61, .iload_n 1, 1), (62, .bipush 38, 2), (64, .if_icmp .ne 25, 3), (67, .iload_n 2, 1), (68, .iconst 2, 1), (69, .if_icmp .ge 20, 3), (72, .aload_n 0, 1), (73, .bipush 38, 2), (75, .bipush 97, 2), (77, .bipush 109, 2), (79, .bipush 112, 2), (81, .bipush 59, 2), (83, .invokevirtual 263, 3), (86, .goto 14, 3), (89, .aload_n 0, 1), (90, .bipush 37, 2), (92, .invokevirtual 259, 3), (95, .aload_n 0, 1), (96, .iload_n 1, 1), (97, .invokevirtual 270, 3), (100, .return_, 1)]
theorem kd10_putUrl_ok : ∀ q ∈ kd10_putUrl, decode prog_12_method_60_code q.1 = .ok q.2 := by decide +kernel
def kd10_small : List (Nat × Instr × Nat) := [(0, .iload_n 1, 1), (1, .bipush 65, 2), (3, .if_icmp .lt 17, 3), (6, .iload_n 1, 1), (7, .bipush 90, 2), (9, .if_icmp .gt 11, 3), (12, .iload_n 1, 1), (13, .bipush 32, 2), (15, .iadd, 1), (16, .i2c, 1), (17, .goto 4, 3), (20, .iload_n 1, 1), (21, .ireturn, 1)]
theorem kd10_small_ok : ∀ q ∈ kd10_small, decode prog_12_method_61_code q.1 = .ok q.2 := by decide +kernel
def kd10_isSafe : List (Nat × Instr × Nat) := [(0, .bipush 40, 2), (2, .iload_n 1, 1), (3, .imul, 1), (4, .istore_n 3, 1), (5, .aload_n 0, 1), (6, .aload_n 0, 1), (7, .getfield 64, 3), (10, .iload_n 3, 1), (11, .caload, 1), (12, .invokevirtual 273, 3), (15, .istore 4, 2), (17, .aload_n 0, 1), (18, .aload_n 0, 1), (19, .getfield 64, 3), (22, .iload_n 3, 1), (23, .iconst 1, 1), (24, .iadd, 1), (25, .caload, 1), (26, .invokevirtual 273, 3), (29, .istore 5, 2), (31, .aload_n 0, 1), (32, .aload_n 0, 1), (33, .getfield 64, 3), (36, .iload_n 3, 1), (37, .iconst 2, 1), (38, .iadd, 1), (39, .caload, 1), (40, .invokevirtual 273, 3), (43, .istore 6, 2), (45, .aload_n 0, 1), (46, .aload_n 0, 1), (47, .getfield 64, 3), (50, .iload_n 3, 1), (51, .iconst 3, 1), (52, .iadd, 1), (53, .caload, 1), (54, .invokevirtual 273, 3), (57, .istore 7, 2), (59, .aload_n 0, 1), (60, .aload_n 0, 1), (61, .getfield 64, 3), (64, .iload_n 3, 1), (65, .iconst 4, 1), (66, .iadd, 1), (67, .caload, 1), (68, .invokevirtual 273, 3), (71, .istore 8, 2), (73, .iload 4, 2), (75, .bipush 104, 2), (77, .if_icmp .ne 45, 3), (80, .iload 5, 2), (82, .bipush 116, 2), (84, .if_icmp .ne 38, 3), (87, .iload 6, 2), (89, .bipush 116, 2), (91, .if_icmp .ne 31, 3), (94, .iload 7, 2), (96, .bipush 112, 2), (98, .if_icmp .ne 24, 3), (101, .iload_n 2, 1), (102, .iconst 4, 1), (103, .if_icmp .eq 15, 3), (106, .iload_n 2, 1), (107, .iconst 5, 1), (108, .if_icmp .ne 14, 3), (111, .iload 8, 2), (113, .bipush 115, 2), (115, .if_icmp .ne 7, 3), (118, .iconst 1, 1), (119, .goto 4, 3), (122, .iconst 0, 1), (123, .istore 9, 2), (125, .iload 4, 2), (127, .bipush 109, 2), (129, .if_icmp .ne 58, 3), (132, .iload 5, 2), (134, .bipush 97, 2), (136, .if_icmp .ne 51, 3), (139, .iload 6, 2), (141, .bipush 105, 2), (143, .if_icmp .ne 44, 3), (146, .iload 7, 2), (148, .bipush 108, 2), (150, .if_icmp .ne 37, 3), (153, .iload 8, 2), (155, .bipush 116, 2), (157, .if_icmp .ne 30, 3), (160, .iload_n 2, 1), (161, .bipush 6, 2), (163, .if_icmp .ne 24, 3), (166, .aload_n 0, 1), (167, .aload_n 0, 1), (168, .getfield 64, 3), (171, .iload_n 3, 1), (172, .iconst 5, 1), (173, .iadd, 1), (174, .caload, 1), (175, .invokevirtual 273, 3), (178, .bipush 111, 2), (180, .if_icmp .ne 7, 3), (183, .iconst 1, 1), (184, .goto 4, 3), (187, .iconst 0, 1), (188, .istore 10, 2), (190, .iload 9, 2), (192, .ifCond .ne 8, 3), (195, .iload 10, 2), (197, .ifCond .eq 7, 3), (200, .iconst 1, 1), (201, .goto 4, 3), (204, .iconst 0, 1), (205, .ireturn, 1)]
theorem kd10_isSafe_ok : ∀ q ∈ kd10_isSafe, decode prog_12_method_62_code q.1 = .ok q.2 := by decide +kernel
def kd10_isOff : List (Nat × Instr × Nat) := [(0, .iconst 0, 1), (1, .istore_n 2, 1), (2, .iload_n 2, 1), (3, .aload_n 0, 1), (4, .getfield 61, 3), (7, .iload_n 1, 1), (8, .iaload, 1), (9, .if_icmp .ge 62, 3), (12, .aload_n 0, 1), (13, .getfield 64, 3), (16, .bipush 40, 2), (18, .iload_n 1, 1), (19, .imul, 1), (20, .iload_n 2, 1), (21, .iadd, 1), (22, .caload, 1), (23, .istore_n 3, 1), (24, .iload_n 3, 1), (25, .bipush 47, 2), (27, .if_icmp .eq 15, 3), (30, .iload_n 3, 1), (31, .bipush 63, 2), (33, .if_icmp .eq 9, 3), (36, .iload_n 3, 1), (37, .bipush 35, 2), (39, .if_icmp .ne 5, 3), (42, .iconst 0, 1), (43, .ireturn, 1), (44, .iload_n 3, 1), (45, .bipush 58, 2), (47, .if_icmp .ne 18, 3), (50, .aload_n 0, 1), (51, .iload_n 1, 1), (52, .iload_n 2, 1), (53, .invokevirtual 277, 3), (56, .ifCond .ne 7, 3), (59, .iconst 1, 1), (60, .goto 4, 3), (63, .iconst 0, 1), (64, .ireturn, 1), (65, .iinc 2 1, 3), (68, .goto (-66), 3), (71, .iconst 0, 1), (72, .ireturn, 1)]
theorem kd10_isOff_ok : ∀ q ∈ kd10_isOff, decode prog_12_method_63_code q.1 = .ok q.2 := by decide +kernel
def kd10_staysInCode : List (Nat × Instr × Nat) := [(0, .iload_n 0, 1), (1, .invokestatic 140, 3), (4, .ifCond .ne 33, 3), (7, .iload_n 0, 1), (8, .bipush 32, 2), (10, .if_icmp .eq 27, 3), (13, .iload_n 0, 1), (14, .bipush 46, 2), (16, .if_icmp .eq 21, 3), (19, .iload_n 0, 1), (20, .bipush 44, 2), (22, .if_icmp .eq 15, 3), (25, .iload_n 0, 1), (26, .bipush 45, 2), (28, .if_icmp .eq 9, 3), (31, .iload_n 0, 1), (32, .bipush 95, 2), (34, .if_icmp .ne 7, 3), (37, .iconst 1, 1), (38, .goto 4, 3), (41, .iconst 0, 1), (42, .ireturn, 1)]
theorem kd10_staysInCode_ok : ∀ q ∈ kd10_staysInCode, decode prog_12_method_64_code q.1 = .ok q.2 := by decide +kernel
def kd10_putCode : List (Nat × Instr × Nat) := [(0, .iload_n 1, 1), (1, .invokestatic 280, 3), (4, .ifCond .eq 9, 3), (7, .aload_n 0, 1), (8, .iload_n 1, 1), (9, .invokevirtual 259, 3), (12, .return_, 1), (13, .aload_n 0, 1), (14, .bipush 92, 2), (16, .invokevirtual 259, 3), (19, .iload_n 2, 1), (20, .ifCond .ne 9, 3), (23, .aload_n 0, 1), (24, .bipush 120, 2), (26, .invokevirtual 259, 3), (29, .aload_n 0, 1), (30, .iload_n 1, 1), (31, .invokevirtual 270, 3), (34, .iload_n 2, 1), (35, .ifCond .eq 9, 3), (38, .aload_n 0, 1), (39, .bipush 32, 2), (41, .invokevirtual 259, 3), (44, .return_, 1)]
theorem kd10_putCode_ok : ∀ q ∈ kd10_putCode, decode prog_12_method_65_code q.1 = .ok q.2 := by decide +kernel
def kd10_isRule : List (Nat × Instr × Nat) := [(0, .iload_n 1, 1), (1, .ifCond .lt 16, 3), (4, .aload_n 0, 1), (5, .getfield 61, 3), (8, .iload_n 1, 1), (9, .iaload, 1), (10, .ifCond .le 7, 3), (13, .iconst 1, 1), (14, .goto 4, 3), (17, .iconst 0, 1), (18, .istore_n 2, 1), (19, .iconst 0, 1), (20, .istore_n 3, 1), (21, .iload_n 2, 1), (22, .ifCond .eq 74, 3), (25, .iload_n 3, 1), (26, .aload_n 0, 1), (27, .getfield 61, 3), (30, .iload_n 1, 1), (31, .iaload, 1), (32, .if_icmp .ge 64, 3), (35, .aload_n 0, 1), (36, .getfield 64, 3), (39, .bipush 40, 2), (41, .iload_n 1, 1), (42, .imul, 1), (43, .iload_n 3, 1), (44, .iadd, 1), (45, .caload, 1), (46, .istore 4, 2), (48, .iload 4, 2), (50, .invokestatic 140, 3), (53, .ifCond .ne 31, 3), (56, .iload 4, 2), (58, .bipush 45, 2), (60, .if_icmp .eq 24, 3), (63, .iload 4, 2), (65, .bipush 46, 2), (67, .if_icmp .eq 17, 3), (70, .iload 4, 2), (72, .bipush 37, 2), (74, .if_icmp .eq 10, 3), (77, .iload 4, 2), (79, .bipush 35, 2), (81, .if_icmp .ne 7, 3), (84, .iconst 1, 1), (85, .goto 4, 3), (88, .iconst 0, 1), (89, .istore_n 2, 1), (90, .iinc 3 1, 3), (93, .goto (-72), 3), (96, .iload_n 2, 1), (97, .ireturn, 1)]
theorem kd10_isRule_ok : ∀ q ∈ kd10_isRule, decode prog_12_method_66_code q.1 = .ok q.2 := by decide +kernel
def kd10_putQuote : List (Nat × Instr × Nat) := [(0, .iload_n 1, 1), (1, .bipush 24, 2), (3, .if_icmp .ne 12, 3), (6, .aload_n 0, 1), (7, .bipush 34, 2), (9, .invokevirtual 283, 3), (12, .goto 15, 3), (15, .iload_n 1, 1), (16, .bipush 8, 2), (18, .if_icmp .ne 9, 3), (21, .aload_n 0, 1), (22, .bipush 34, 2), (24, .invokevirtual 259, 3), (27, .return_, 1)]
theorem kd10_putQuote_ok : ∀ q ∈ kd10_putQuote, decode prog_12_method_67_code q.1 = .ok q.2 := by decide +kernel
def kd10_putItem : List (Nat × Instr × Nat) := [(0, .iload_n 2, 1), (1, .ifCond .ge 7, 3), (4, .iconst 0, 1), (5, .goto 9, 3), (8, .aload_n 0, 1), (9, .getfield 61, 3), (12, .iload_n 2, 1), (13, .iaload, 1), (14, .istore_n 3, 1), (15, .iload_n 1, 1), (16, .iconst 2, 1), (17, .if_icmp .ne 29, 3), (20, .iload_n 2, 1), (21, .ifCond .lt 25, 3), (24, .aload_n 0, 1), (25, .iload_n 2, 1), (26, .invokevirtual 286, 3), (29, .ifCond .eq 17, 3), (32, .aload_n 0, 1), (33, .bipush 35, 2), (35, .bipush 111, 2), (37, .bipush 102, 2), (39, .bipush 102, 2), (41, .iconst 0, 1), (42, .invokevirtual 263, 3), (45, .return_, 1), (46, .iload_n 1, 1), (47, .bipush 16, 2), (49, .irem, 1), (50, .bipush 12, 2), (52, .if_icmp .ne 25, 3), (55, .aload_n 0, 1), (56, .iload_n 2, 1), (57, .invokevirtual 289, 3), (60, .ifCond .ne 17, 3), (63, .aload_n 0, 1), (64, .bipush 110, 2), (66, .bipush 111, 2), (68, .bipush 110, 2), (70, .bipush 101, 2), (72, .iconst 0, 1), (73, .invokevirtual 263, 3), (76, .return_, 1), (77, .aload_n 0, 1), (78, .iload_n 1, 1), (79, .invokevirtual 292, 3), (82, .iconst 0, 1), (83, .istore 4, 2), (85, .iload 4, 2), (87, .iload_n 3, 1), (88, .if_icmp .ge 93, 3), (91, .aload_n 0, 1), (92, .getfield 64, 3), (95, .bipush 40, 2), (97, .iload_n 2, 1), (98, .imul, 1), (99, .iload 4, 2), (101, .iadd, 1), (102, .caload, 1), (103, .istore 5, 2), (105, .iload_n 1, 1), (106, .iconst 2, 1), (107, .if_icmp .ge 12, 3), (110, .aload_n 0, 1), (111, .iload 5, 2), (113, .invokevirtual 283, 3), (116, .goto 59, 3), (119, .iload_n 1, 1), (120, .bipush 8, 2), (122, .if_icmp .ge 15, 3), (125, .aload_n 0, 1), (126, .iload 5, 2), (128, .iload_n 1, 1), (129, .iconst 2, 1), (130, .isub, 1), (131, .invokevirtual 295, 3), (134, .goto 41, 3), (137, .iload_n 1, 1), (138, .bipush 16, 2), (140, .irem, 1), (141, .bipush 12, 2), (143, .if_icmp .ne 12, 3), (146, .aload_n 0, 1), (147, .iload 5, 2), (149, .invokevirtual 259, 3), (152, .goto 23, 3), (155, .aload_n 0, 1), (156, .iload 5, 2), (158, .iload_n 1, 1), (159, .bipush 16, 2), (161, .irem, 1), (162, .bipush 12, 2), (164, .if_icmp .le 7, 3), (167, .iconst 1, 1), (168, .goto 4, 3), (171, .iconst 0, 1), (172, .invokevirtual 299, 3), (175, .iinc 4 1, 3), (178, .goto (-93), 3), (181, .aload_n 0, 1), (182, .iload_n 1, 1), (183, .invokevirtual 292, 3), (186, .return_, 1)]
theorem kd10_putItem_ok : ∀ q ∈ kd10_putItem, decode prog_12_method_68_code q.1 = .ok q.2 := by decide +kernel
def kd10_variable : List (Nat × Instr × Nat) := [(0, .aload_n 0, 1), (1, .getfield 20, 3), (4, .iload_n 1, 1), (5, .caload, 1), (6, .bipush 97, 2), (8, .isub, 1), (9, .ireturn, 1)]
theorem kd10_variable_ok : ∀ q ∈ kd10_variable, decode prog_12_method_69_code q.1 = .ok q.2 := by decide +kernel
def kd10_choose : List (Nat × Instr × Nat) := [(0, .aload_n 0, 1), (1, .aload_n 0, 1), (2, .iload_n 1, 1), (3, .invokevirtual 303, 3), (6, .invokevirtual 306, 3), (9, .istore_n 2, 1), (10, .iload_n 2, 1), (11, .ifCond .lt 16, 3), (14, .aload_n 0, 1), (15, .getfield 61, 3), (18, .iload_n 2, 1), (19, .iaload, 1), (20, .ifCond .le 7, 3), (23, .iload_n 1, 1), (24, .iconst 1, 1), (25, .iadd, 1), (26, .ireturn, 1), (27, .aload_n 0, 1), (28, .getfield 29, 3), (31, .iload_n 1, 1), (32, .iaload, 1), (33, .ifCond .lt 14, 3), (36, .aload_n 0, 1), (37, .getfield 29, 3), (40, .iload_n 1, 1), (41, .iaload, 1), (42, .iconst 1, 1), (43, .iadd, 1), (44, .goto 11, 3), (47, .aload_n 0, 1), (48, .getfield 32, 3), (51, .iload_n 1, 1), (52, .iaload, 1), (53, .iconst 1, 1), (54, .iadd, 1), (55, .ireturn, 1)]
theorem kd10_choose_ok : ∀ q ∈ kd10_choose, decode prog_12_method_70_code q.1 = .ok q.2 := by decide +kernel
def kd10_beginLoop : List (Nat × Instr × Nat) := [(0, .aload_n 0, 1), (1, .iload_n 1, 1), (2, .invokevirtual 303, 3), (5, .istore_n 2, 1), (6, .aload_n 0, 1), (7, .iload_n 2, 1), (8, .invokevirtual 306, 3), (11, .istore_n 3, 1), (12, .iload_n 3, 1), (13, .ifCond .ge 12, 3), (16, .aload_n 0, 1), (17, .getfield 32, 3), (20, .iload_n 1, 1), (21, .iaload, 1), (22, .iconst 1, 1), (23, .iadd, 1), (24, .ireturn, 1), (25, .aload_n 0, 1), (26, .getfield 70, 3), (29, .aload_n 0, 1), (30, .getfield 309, 3), (33, .iload_n 1, 1), (34, .iastore, 1), (35, .aload_n 0, 1), (36, .getfield 73, 3), (39, .aload_n 0, 1), (40, .getfield 309, 3), (43, .aload_n 0, 1), (44, .getfield 67, 3), (47, .iload_n 2, 1), (48, .iaload, 1), (49, .iastore, 1), (50, .aload_n 0, 1), (51, .dup, 1), (52, .getfield 309, 3), (55, .iconst 1, 1), (56, .iadd, 1), (57, .putfield 309, 3), (60, .aload_n 0, 1), (61, .getfield 67, 3), (64, .iload_n 2, 1), (65, .iload_n 3, 1), (66, .iastore, 1), (67, .iload_n 1, 1), (68, .iconst 1, 1), (69, .iadd, 1), (70, .ireturn, 1)]
theorem kd10_beginLoop_ok : ∀ q ∈ kd10_beginLoop, decode prog_12_method_71_code q.1 = .ok q.2 := by decide +kernel
def kd10_close : List (Nat × Instr × Nat) := [(0, .aload_n 0, 1), (1, .getfield 35, 3), (4, .iload_n 1, 1), (5, .iaload, 1), (6, .istore_n 2, 1), (7, .aload_n 0, 1), (8, .getfield 16, 3), (11, .iload_n 2, 1), (12, .iaload, 1), (13, .iconst 2, 1), (14, .if_icmp .ne 7, 3), (17, .iload_n 1, 1), (18, .iconst 1, 1), (19, .iadd, 1), (20, .ireturn, 1), (21, .aload_n 0, 1), (22, .iload_n 2, 1), (23, .invokevirtual 303, 3), (26, .istore_n 3, 1), (27, .iconst 4, 1), (28, .iload_n 3, 1), (29, .imul, 1), (30, .aload_n 0, 1), (31, .getfield 58, 3), (34, .iload_n 3, 1), (35, .iaload, 1), (36, .iadd, 1), (37, .iconst 1, 1), (38, .isub, 1), (39, .istore 4, 2), (41, .aload_n 0, 1), (42, .getfield 73, 3), (45, .aload_n 0, 1), (46, .getfield 309, 3), (49, .iconst 1, 1), (50, .isub, 1), (51, .iaload, 1), (52, .ifCond .ge 28, 3), (55, .aload_n 0, 1), (56, .getfield 67, 3), (59, .iload_n 3, 1), (60, .iaload, 1), (61, .iload 4, 2), (63, .if_icmp .ge 17, 3), (66, .aload_n 0, 1), (67, .getfield 67, 3), (70, .iload_n 3, 1), (71, .dup2, 1), (72, .iaload, 1), (73, .iconst 1, 1), (74, .iadd, 1), (75, .iastore, 1), (76, .iload_n 2, 1), (77, .iconst 1, 1), (78, .iadd, 1), (79, .ireturn, 1), (80, .aload_n 0, 1), (81, .dup, 1), (82, .getfield 309, 3), (85, .iconst 1, 1), (86, .isub, 1), (87, .putfield 309, 3), (90, .aload_n 0, 1), (91, .getfield 67, 3), (94, .iload_n 3, 1), (95, .aload_n 0, 1), (96, .getfield 73, 3), (99, .aload_n 0, 1), (100, .getfield 309, 3), (103, .iaload, 1), (104, .iastore, 1), (105, .iload_n 1, 1), (106, .iconst 1, 1), (107, .iadd, 1), (108, .ireturn, 1)]
theorem kd10_close_ok : ∀ q ∈ kd10_close, decode prog_12_method_72_code q.1 = .ok q.2 := by decide +kernel
def kd10_write : List (Nat × Instr × Nat) := [(0, .aload_n 0, 1), (1, .aload_n 0, 1), (2, .getfield 88, 3), (5, .ifCond .eq 7, 3), (8, .iconst 0, 1), (9, .goto 4, 3), (12, .iconst 1, 1), (13, .putfield 79, 3), (16, .aload_n 0, 1), (17, .getfield 79, 3), (20, .ifCond .le 5, 3), (23, .iconst 0, 1), (24, .ireturn, 1), (25, .aload_n 0, 1), (26, .iconst 0, 1), (27, .putfield 253, 3), (30, .aload_n 0, 1), (31, .iconst 0, 1), (32, .putfield 250, 3), (35, .aload_n 0, 1), (36, .iconst 0, 1), (37, .putfield 309, 3), (40, .iconst 0, 1), (41, .istore_n 1, 1), (42, .iload_n 1, 1), (43, .aload_n 0, 1), (44, .getfield 92, 3), (47, .if_icmp .ge 144, 3), (50, .aload_n 0, 1), (51, .getfield 250, 3), (54, .ifCond .ne 137, 3), (57, .iload_n 1, 1), (58, .iconst 1, 1), (59, .iadd, 1), (60, .istore_n 2, 1), (61, .aload_n 0, 1), (62, .getfield 16, 3), (65, .iload_n 1, 1), (66, .iaload, 1), (67, .ifCond .ne 16, 3), (70, .aload_n 0, 1), (71, .aload_n 0, 1), (72, .getfield 20, 3), (75, .iload_n 1, 1), (76, .caload, 1), (77, .invokevirtual 259, 3), (80, .goto 106, 3), (83, .aload_n 0, 1), (84, .getfield 16, 3), (87, .iload_n 1, 1), (88, .iaload, 1), (89, .iconst 1, 1), (90, .if_icmp .ne 25, 3), (93, .aload_n 0, 1), (94, .aload_n 0, 1), (95, .getfield 26, 3), (98, .iload_n 1, 1), (99, .iaload, 1), (100, .aload_n 0, 1), (101, .aload_n 0, 1), (102, .iload_n 1, 1), (103, .invokevirtual 303, 3), (106, .invokevirtual 306, 3), (109, .invokevirtual 312, 3), (112, .goto 74, 3), (115, .aload_n 0, 1), (116, .getfield 16, 3), (119, .iload_n 1, 1), (120, .iaload, 1), (121, .iconst 2, 1), (122, .if_icmp .ne 12, 3), (125, .aload_n 0, 1), (126, .iload_n 1, 1), (127, .invokevirtual 316, 3), (130, .istore_n 2, 1), (131, .goto 55, 3), (134, .aload_n 0, 1), (135, .getfield 16, 3), (138, .iload_n 1, 1), (139, .iaload, 1), (140, .iconst 3, 1), (141, .if_icmp .ne 12, 3), (144, .aload_n 0, 1), (145, .iload_n 1, 1), (146, .invokevirtual 319, 3), (149, .istore_n 2, 1), (150, .goto 36, 3), (153, .aload_n 0, 1), (154, .getfield 16, 3), (157, .iload_n 1, 1), (158, .iaload, 1), (159, .iconst 4, 1), (160, .if_icmp .ne 20, 3), (163, .aload_n 0, 1), (164, .getfield 32, 3), (167, .aload_n 0, 1), (168, .getfield 35, 3), (171, .iload_n 1, 1), (172, .iaload, 1), (173, .iaload, 1), (174, .iconst 1, 1), (175, .iadd, 1), (176, .istore_n 2, 1), (177, .goto 9, 3), (180, .aload_n 0, 1), (181, .iload_n 1, 1), (182, .invokevirtual 322, 3), (185, .istore_n 2, 1), (186, .iload_n 2, 1), (187, .istore_n 1, 1), (188, .goto (-146), 3), (191, .iconst 0, 1), (192, .istore_n 2, 1), (193, .iload_n 2, 1), (194, .bipush 8, 2), (196, .if_icmp .ge 16, 3), (199, .aload_n 0, 1), (200, .getfield 67, 3), (203, .iload_n 2, 1), (204, .iconst (-1), 1), (205, .iastore, 1), (206, .iinc 2 1, 3), (209, .goto (-16), 3), (212, .aload_n 0, 1), (213, .aload_n 0, 1), (214, .getfield 250, 3), (217, .ifCond .eq 7, 3), (220, .iconst 2, 1), (221, .goto 4, 3), (224, .iconst 0, 1), (225, .putfield 79, 3), (228, .aload_n 0, 1), (229, .aload_n 0, 1), (230, .getfield 250, 3), (233, .ifCond .eq 7, 3), (236, .iconst 0, 1), (237, .goto 7, 3), (240, .aload_n 0, 1), (241, .getfield 253, 3), (244, .putfield 253, 3), (247, .aload_n 0, 1), (248, .getfield 253, 3), (251, .ireturn, 1)]
theorem kd10_write_ok : ∀ q ∈ kd10_write, decode prog_12_method_73_code q.1 = .ok q.2 := by decide +kernel
def kd10_written : List (Nat × Instr × Nat) := [(0, .aload_n 0, 1), (1, .iconst 0, 1), (2, .putfield 79, 3), (5, .aload_n 0, 1), (6, .getfield 253, 3), (9, .ireturn, 1)]
theorem kd10_written_ok : ∀ q ∈ kd10_written, decode prog_12_method_74_code q.1 = .ok q.2 := by decide +kernel
def kd10_letter : List (Nat × Instr × Nat) := [(0, .aload_n 0, 1), (1, .iconst 0, 1), (2, .putfield 79, 3), (5, .iload_n 1, 1), (6, .ifCond .lt 20, 3), (9, .iload_n 1, 1), (10, .aload_n 0, 1), (11, .getfield 253, 3), (14, .if_icmp .ge 12, 3), (17, .aload_n 0, 1), (18, .getfield 76, 3), (21, .iload_n 1, 1), (22, .caload, 1), (23, .goto 4, 3), (26, .iconst 0, 1), (27, .ireturn, 1)]
theorem kd10_letter_ok : ∀ q ∈ kd10_letter, decode prog_12_method_75_code q.1 = .ok q.2 := by decide +kernel
end
section
/-! the code of each method as a table -/
def kd0_init : List (Nat × Instr × Nat) := [(0, .aload_n 0, 1), (1, .invokespecial 3, 3), (4, .aload_n 0, 1), (5, .new 9, 3), (8, .dup, 1), (9, .invokespecial 11, 3), (12, .putfield 12, 3), (15, .aload_n 0, 1), (16, .new 18, 3), (19, .dup, 1), (20, .invokespecial 20, 3), (23, .putfield 21, 3), (26, .aload_n 0, 1), (27, .sipush 240, 3), (30, .newarray .int, 2), (32, .putfield 25, 3), (35, .aload_n 0, 1), (36, .bipush 6, 2), (38, .newarray .int, 2), (40, .putfield 29, 3), (43, .aload_n 0, 1), (44, .bipush 6, 2), (46, .newarray .int, 2), (48, .putfield 32, 3), (51, .aload_n 0, 1), (52, .bipush 6, 2), (54, .newarray .int, 2), (56, .putfield 35, 3), (59, .aload_n 0, 1), (60, .iconst (-1), 1), (61, .putfield 38, 3), (64, .return_, 1)]
theorem kd0_init_ok : ∀ q ∈ kd0_init, decode prog_2_method_1_code q.1 = .ok q.2 := by decide +kernel
def kd0_reads : List (Nat × Instr × Nat) := [(0, .aload_n 0, 1), (1, .getfield 12, 3), (4, .aload_n 1, 1), (5, .invokevirtual 42, 3), (8, .aload_n 0, 1), (9, .getfield 21, 3), (12, .iconst 0, 1), (13, .invokevirtual 46, 3), (16, .aload_n 0, 1), (17, .iconst 0, 1), (18, .putfield 50, 3), (21, .aload_n 0, 1), (22, .iconst 0, 1), (23, .putfield 53, 3), (26, .iconst 0, 1), (27, .istore_n 2, 1), (28, .iconst 1, 1), (29, .istore_n 3, 1), (30, .iload_n 2, 1), (31, .aload_n 0, 1), (32, .getfield 12, 3), (35, .getfield 56, 3), (38, .if_icmp .ge 51, 3), (41, .iload_n 3, 1), (42, .ifCond .le 47, 3), (45, .aload_n 0, 1), (46, .getfield 12, 3), (49, .iload_n 2, 1), (50, .invokevirtual 59, 3), (53, .iconst 1, 1), (54, .if_icmp .ne 18, 3), (57, .aload_n 0, 1), (58, .getfield 12, 3), (61, .iload_n 2, 1), (62, .aload_n 0, 1), (63, .getfield 21, 3), (66, .invokestatic 63, 3), (69, .goto 8, 3), (72, .aload_n 0, 1), (73, .iload_n 2, 1), (74, .invokevirtual 69, 3), (77, .istore_n 3, 1), (78, .iload_n 2, 1), (79, .iload_n 3, 1), (80, .iconst 0, 1), (81, .invokestatic 72, 3), (84, .iadd, 1), (85, .istore_n 2, 1), (86, .goto (-56), 3), (89, .aload_n 0, 1), (90, .iload_n 3, 1), (91, .ifCond .le 24, 3), (94, .aload_n 0, 1), (95, .getfield 50, 3), (98, .ifCond .ne 17, 3), (101, .aload_n 0, 1), (102, .getfield 21, 3), (105, .getfield 78, 3), (108, .ifCond .ne 7, 3), (111, .iconst 1, 1), (112, .goto 4, 3), (115, .iconst 0, 1), (116, .putfield 81, 3), (119, .aload_n 0, 1), (120, .aload_n 0, 1), (121, .getfield 81, 3), (124, .ifCond .eq 7, 3), (127, .iconst (-1), 1), (128, .goto 11, 3), (131, .aload_n 0, 1), (132, .getfield 12, 3), (135, .iload_n 2, 1), (136, .invokevirtual 85, 3), (139, .putfield 38, 3), (142, .aload_n 0, 1), (143, .getfield 81, 3), (146, .ireturn, 1)]
theorem kd0_reads_ok : ∀ q ∈ kd0_reads, decode prog_2_method_2_code q.1 = .ok q.2 := by decide +kernel
def kd0_holeCode : List (Nat × Instr × Nat) := [(0, .aload_n 0, 1), (1, .getfield 81, 3), (4, .ifCond .eq 31, 3), (7, .iload_n 1, 1), (8, .ifCond .lt 27, 3), (11, .iload_n 1, 1), (12, .aload_n 0, 1), (13, .getfield 53, 3), (16, .if_icmp .ge 19, 3), (19, .iload_n 1, 1), (20, .sipush 240, 3), (23, .if_icmp .ge 12, 3), (26, .aload_n 0, 1), (27, .getfield 25, 3), (30, .iload_n 1, 1), (31, .iaload, 1), (32, .goto 4, 3), (35, .iconst (-1), 1), (36, .ireturn, 1)]
theorem kd0_holeCode_ok : ∀ q ∈ kd0_holeCode, decode prog_2_method_3_code q.1 = .ok q.2 := by decide +kernel
def kd0_readSymbol : List (Nat × Instr × Nat) := [(0, .aload_n 0, 1), (1, .getfield 12, 3), (4, .iload_n 1, 1), (5, .invokevirtual 59, 3), (8, .tableswitch 72 2 6 #[36, 45, 45, 54, 63], 36), (44, .aload_n 0, 1), (45, .iload_n 1, 1), (46, .invokevirtual 88, 3), (49, .istore_n 2, 1), (50, .goto 32, 3), (53, .aload_n 0, 1), (54, .iload_n 1, 1), (55, .invokevirtual 92, 3), (58, .istore_n 2, 1), (59, .goto 23, 3), (62, .aload_n 0, 1), (63, .iload_n 1, 1), (64, .invokevirtual 95, 3), (67, .istore_n 2, 1), (68, .goto 14, 3), (71, .aload_n 0, 1), (72, .iload_n 1, 1), (73, .invokevirtual 98, 3), (76, .istore_n 2, 1), (77, .goto 5, 3), (80, .iconst 0, 1), (81, .istore_n 2, 1), (82, .iload_n 2, 1), (83, .ifCond .eq 7, 3), (86, .iconst 1, 1), (87, .goto 4, 3), (90, .iconst 0, 1), (91, .ireturn, 1)]
theorem kd0_readSymbol_ok : ∀ q ∈ kd0_readSymbol, decode prog_2_method_4_code q.1 = .ok q.2 := by decide +kernel
def kd0_readHole : List (Nat × Instr × Nat) := [(0, .aload_n 0, 1), (1, .getfield 21, 3), (4, .invokevirtual 101, 3), (7, .istore_n 2, 1), (8, .iload_n 2, 1), (9, .iconst (-1), 1), (10, .if_icmp .eq 13, 3), (13, .aload_n 0, 1), (14, .getfield 53, 3), (17, .sipush 240, 3), (20, .if_icmp .lt 5, 3), (23, .iconst 0, 1), (24, .ireturn, 1), (25, .aload_n 0, 1), (26, .getfield 12, 3), (29, .iload_n 1, 1), (30, .iload_n 2, 1), (31, .invokevirtual 105, 3), (34, .aload_n 0, 1), (35, .getfield 25, 3), (38, .aload_n 0, 1), (39, .getfield 53, 3), (42, .iload_n 2, 1), (43, .iastore, 1), (44, .aload_n 0, 1), (45, .dup, 1), (46, .getfield 53, 3), (49, .iconst 1, 1), (50, .iadd, 1), (51, .putfield 53, 3), (54, .iload_n 2, 1), (55, .iconst 2, 1), (56, .if_icmp .ne 11, 3), (59, .aload_n 0, 1), (60, .getfield 21, 3), (63, .iconst 1, 1), (64, .putfield 109, 3), (67, .iconst 1, 1), (68, .ireturn, 1)]
theorem kd0_readHole_ok : ∀ q ∈ kd0_readHole, decode prog_2_method_5_code q.1 = .ok q.2 := by decide +kernel
def kd0_open : List (Nat × Instr × Nat) := [(0, .aload_n 0, 1), (1, .getfield 50, 3), (4, .bipush 6, 2), (6, .if_icmp .lt 5, 3), (9, .iconst 0, 1), (10, .ireturn, 1), (11, .aload_n 0, 1), (12, .getfield 29, 3), (15, .aload_n 0, 1), (16, .getfield 50, 3), (19, .iload_n 1, 1), (20, .iastore, 1), (21, .aload_n 0, 1), (22, .getfield 32, 3), (25, .aload_n 0, 1), (26, .getfield 50, 3), (29, .aload_n 0, 1), (30, .getfield 21, 3), (33, .invokevirtual 112, 3), (36, .iastore, 1), (37, .aload_n 0, 1), (38, .getfield 35, 3), (41, .aload_n 0, 1), (42, .getfield 50, 3), (45, .iconst (-1), 1), (46, .iastore, 1), (47, .aload_n 0, 1), (48, .dup, 1), (49, .getfield 50, 3), (52, .iconst 1, 1), (53, .iadd, 1), (54, .putfield 50, 3), (57, .iconst 1, 1), (58, .ireturn, 1)]
theorem kd0_open_ok : ∀ q ∈ kd0_open, decode prog_2_method_6_code q.1 = .ok q.2 := by decide +kernel
def kd0_turn : List (Nat × Instr × Nat) := [(0, .aload_n 0, 1), (1, .getfield 50, 3), (4, .iconst 1, 1), (5, .isub, 1), (6, .istore_n 2, 1), (7, .iload_n 2, 1), (8, .ifCond .lt 9, 3), (11, .iload_n 2, 1), (12, .bipush 6, 2), (14, .if_icmp .lt 5, 3), (17, .iconst 0, 1), (18, .ireturn, 1), (19, .aload_n 0, 1), (20, .getfield 12, 3), (23, .aload_n 0, 1), (24, .getfield 29, 3), (27, .iload_n 2, 1), (28, .iaload, 1), (29, .invokevirtual 59, 3), (32, .iconst 3, 1), (33, .if_icmp .ne 13, 3), (36, .aload_n 0, 1), (37, .getfield 35, 3), (40, .iload_n 2, 1), (41, .iaload, 1), (42, .iconst (-1), 1), (43, .if_icmp .eq 5, 3), (46, .iconst 0, 1), (47, .ireturn, 1), (48, .aload_n 0, 1), (49, .getfield 35, 3), (52, .iload_n 2, 1), (53, .aload_n 0, 1), (54, .getfield 21, 3), (57, .invokevirtual 112, 3), (60, .iastore, 1), (61, .aload_n 0, 1), (62, .getfield 21, 3), (65, .aload_n 0, 1), (66, .getfield 32, 3), (69, .iload_n 2, 1), (70, .iaload, 1), (71, .invokevirtual 115, 3), (74, .aload_n 0, 1), (75, .getfield 12, 3), (78, .aload_n 0, 1), (79, .getfield 29, 3), (82, .iload_n 2, 1), (83, .iaload, 1), (84, .iload_n 1, 1), (85, .invokevirtual 118, 3), (88, .iconst 1, 1), (89, .ireturn, 1)]
theorem kd0_turn_ok : ∀ q ∈ kd0_turn, decode prog_2_method_7_code q.1 = .ok q.2 := by decide +kernel
def kd0_close : List (Nat × Instr × Nat) := [(0, .aload_n 0, 1), (1, .getfield 50, 3), (4, .iconst 1, 1), (5, .isub, 1), (6, .istore_n 2, 1), (7, .iload_n 2, 1), (8, .ifCond .lt 9, 3), (11, .iload_n 2, 1), (12, .bipush 6, 2), (14, .if_icmp .lt 5, 3), (17, .iconst 0, 1), (18, .ireturn, 1), (19, .aload_n 0, 1), (20, .getfield 35, 3), (23, .iload_n 2, 1), (24, .iaload, 1), (25, .iconst (-1), 1), (26, .if_icmp .eq 7, 3), (29, .iconst 1, 1), (30, .goto 4, 3), (33, .iconst 0, 1), (34, .istore_n 3, 1), (35, .aload_n 0, 1), (36, .getfield 21, 3), (39, .invokevirtual 112, 3), (42, .iload_n 3, 1), (43, .ifCond .eq 12, 3), (46, .aload_n 0, 1), (47, .getfield 35, 3), (50, .iload_n 2, 1), (51, .iaload, 1), (52, .goto 9, 3), (55, .aload_n 0, 1), (56, .getfield 32, 3), (59, .iload_n 2, 1), (60, .iaload, 1), (61, .if_icmp .eq 5, 3), (64, .iconst 0, 1), (65, .ireturn, 1), (66, .iload_n 3, 1), (67, .ifCond .ne 17, 3), (70, .aload_n 0, 1), (71, .getfield 12, 3), (74, .aload_n 0, 1), (75, .getfield 29, 3), (78, .iload_n 2, 1), (79, .iaload, 1), (80, .iload_n 1, 1), (81, .invokevirtual 118, 3), (84, .aload_n 0, 1), (85, .getfield 12, 3), (88, .aload_n 0, 1), (89, .getfield 29, 3), (92, .iload_n 2, 1), (93, .iaload, 1), (94, .iload_n 1, 1), (95, .invokevirtual 121, 3), (98, .aload_n 0, 1), (99, .iload_n 2, 1), (100, .putfield 50, 3), (103, .iconst 1, 1), (104, .ireturn, 1)]
theorem kd0_close_ok : ∀ q ∈ kd0_close, decode prog_2_method_8_code q.1 = .ok q.2 := by decide +kernel
def kd1_init : List (Nat × Instr × Nat) := [(0, .aload_n 0, 1), (1, .invokespecial 3, 3), (4, .return_, 1)]
theorem kd1_init_ok : ∀ q ∈ kd1_init, decode prog_3_method_1_code q.1 = .ok q.2 := by decide +kernel
def kd1_enter : List (Nat × Instr × Nat) := [(0, .aload_n 0, 1), (1, .iload_n 1, 1), (2, .putfield 9, 3), (5, .aload_n 0, 1), (6, .iconst 0, 1), (7, .putfield 15, 3), (10, .aload_n 0, 1), (11, .iconst 0, 1), (12, .putfield 18, 3), (15, .aload_n 0, 1), (16, .iconst 0, 1), (17, .putfield 22, 3), (20, .aload_n 0, 1), (21, .iconst 0, 1), (22, .putfield 25, 3), (25, .return_, 1)]
theorem kd1_enter_ok : ∀ q ∈ kd1_enter, decode prog_3_method_2_code q.1 = .ok q.2 := by decide +kernel
def kd1_enterTag : List (Nat × Instr × Nat) := [(0, .aload_n 0, 1), (1, .iconst 1, 1), (2, .invokevirtual 28, 3), (5, .aload_n 0, 1), (6, .iload_n 1, 1), (7, .putfield 15, 3), (10, .return_, 1)]
theorem kd1_enterTag_ok : ∀ q ∈ kd1_enterTag, decode prog_3_method_3_code q.1 = .ok q.2 := by decide +kernel
def kd1_enterValue : List (Nat × Instr × Nat) := [(0, .aload_n 0, 1), (1, .iconst 2, 1), (2, .putfield 9, 3), (5, .aload_n 0, 1), (6, .iload_n 1, 1), (7, .putfield 18, 3), (10, .aload_n 0, 1), (11, .iload_n 2, 1), (12, .putfield 22, 3), (15, .aload_n 0, 1), (16, .iconst 0, 1), (17, .putfield 25, 3), (20, .return_, 1)]
theorem kd1_enterValue_ok : ∀ q ∈ kd1_enterValue, decode prog_3_method_4_code q.1 = .ok q.2 := by decide +kernel
def kd1_enterElement : List (Nat × Instr × Nat) := [(0, .aload_n 0, 1), (1, .getfield 15, 3), (4, .iconst 1, 1), (5, .if_icmp .ne 11, 3), (8, .aload_n 0, 1), (9, .iconst 3, 1), (10, .invokevirtual 28, 3), (13, .goto 36, 3), (16, .aload_n 0, 1), (17, .getfield 15, 3), (20, .iconst 2, 1), (21, .if_icmp .ne 11, 3), (24, .aload_n 0, 1), (25, .iconst 4, 1), (26, .invokevirtual 28, 3), (29, .goto 20, 3), (32, .aload_n 0, 1), (33, .aload_n 0, 1), (34, .getfield 15, 3), (37, .iconst 3, 1), (38, .if_icmp .ne 7, 3), (41, .iconst 5, 1), (42, .goto 4, 3), (45, .iconst 0, 1), (46, .invokevirtual 28, 3), (49, .return_, 1)]
theorem kd1_enterElement_ok : ∀ q ∈ kd1_enterElement, decode prog_3_method_5_code q.1 = .ok q.2 := by decide +kernel
def kd1_isStyle : List (Nat × Instr × Nat) := [(0, .aload_n 0, 1), (1, .getfield 9, 3), (4, .iconst 4, 1), (5, .if_icmp .eq 19, 3), (8, .aload_n 0, 1), (9, .getfield 9, 3), (12, .iconst 2, 1), (13, .if_icmp .ne 15, 3), (16, .aload_n 0, 1), (17, .getfield 22, 3), (20, .iconst 3, 1), (21, .if_icmp .ne 7, 3), (24, .iconst 1, 1), (25, .goto 4, 3), (28, .iconst 0, 1), (29, .ireturn, 1)]
theorem kd1_isStyle_ok : ∀ q ∈ kd1_isStyle, decode prog_3_method_6_code q.1 = .ok q.2 := by decide +kernel
def kd1_packed : List (Nat × Instr × Nat) := [(0, .aload_n 0, 1), (1, .getfield 18, 3), (4, .bipush 10, 2), (6, .ishl, 1), (7, .aload_n 0, 1), (8, .getfield 9, 3), (11, .bipush 7, 2), (13, .ishl, 1), (14, .ior, 1), (15, .aload_n 0, 1), (16, .getfield 15, 3), (19, .iconst 5, 1), (20, .ishl, 1), (21, .ior, 1), (22, .aload_n 0, 1), (23, .getfield 22, 3), (26, .iconst 3, 1), (27, .ishl, 1), (28, .ior, 1), (29, .aload_n 0, 1), (30, .getfield 25, 3), (33, .ior, 1), (34, .ireturn, 1)]
theorem kd1_packed_ok : ∀ q ∈ kd1_packed, decode prog_3_method_7_code q.1 = .ok q.2 := by decide +kernel
def kd1_unpack : List (Nat × Instr × Nat) := [(0, .aload_n 0, 1), (1, .iload_n 1, 1), (2, .bipush 10, 2), (4, .ishr, 1), (5, .bipush 127, 2), (7, .iand, 1), (8, .i2c, 1), (9, .putfield 18, 3), (12, .aload_n 0, 1), (13, .iload_n 1, 1), (14, .bipush 7, 2), (16, .ishr, 1), (17, .bipush 7, 2), (19, .iand, 1), (20, .putfield 9, 3), (23, .aload_n 0, 1), (24, .iload_n 1, 1), (25, .iconst 5, 1), (26, .ishr, 1), (27, .iconst 3, 1), (28, .iand, 1), (29, .putfield 15, 3), (32, .aload_n 0, 1), (33, .iload_n 1, 1), (34, .iconst 3, 1), (35, .ishr, 1), (36, .iconst 3, 1), (37, .iand, 1), (38, .putfield 22, 3), (41, .aload_n 0, 1), (42, .iload_n 1, 1), (43, .bipush 7, 2), (45, .iand, 1), (46, .putfield 25, 3), (49, .return_, 1)]
theorem kd1_unpack_ok : ∀ q ∈ kd1_unpack, decode prog_3_method_8_code q.1 = .ok q.2 := by decide +kernel
def kd1_code : List (Nat × Instr × Nat) := [(0, .aload_n 0, 1), (1, .getfield 25, 3), (4, .iconst 3, 1), (5, .if_icmp .ge 7, 3), (8, .iconst 1, 1), (9, .goto 4, 3), (12, .iconst 0, 1), (13, .istore_n 1, 1), (14, .aload_n 0, 1), (15, .getfield 9, 3), (18, .tableswitch 85 0 5 #[38, 85, 72, 40, 56, 38], 38), (56, .iconst 0, 1), (57, .ireturn, 1), (58, .iload_n 1, 1), (59, .ifCond .eq 13, 3), (62, .bipush 8, 2), (64, .aload_n 0, 1), (65, .getfield 25, 3), (68, .iadd, 1), (69, .goto 4, 3), (72, .iconst (-1), 1), (73, .ireturn, 1), (74, .iload_n 1, 1), (75, .ifCond .eq 13, 3), (78, .bipush 12, 2), (80, .aload_n 0, 1), (81, .getfield 25, 3), (84, .iadd, 1), (85, .goto 4, 3), (88, .iconst (-1), 1), (89, .ireturn, 1), (90, .iload_n 1, 1), (91, .ifCond .eq 10, 3), (94, .aload_n 0, 1), (95, .invokevirtual 32, 3), (98, .goto 4, 3), (101, .iconst (-1), 1), (102, .ireturn, 1), (103, .iconst (-1), 1), (104, .ireturn, 1)]
theorem kd1_code_ok : ∀ q ∈ kd1_code, decode prog_3_method_9_code q.1 = .ok q.2 := by decide +kernel
def kd1_codeInValue : List (Nat × Instr × Nat) := [(0, .aload_n 0, 1), (1, .getfield 22, 3), (4, .tableswitch 51 1 3 #[28, 35, 43], 28), (32, .iconst 2, 1), (33, .aload_n 0, 1), (34, .getfield 25, 3), (37, .iadd, 1), (38, .ireturn, 1), (39, .bipush 24, 2), (41, .aload_n 0, 1), (42, .getfield 25, 3), (45, .iadd, 1), (46, .ireturn, 1), (47, .bipush 28, 2), (49, .aload_n 0, 1), (50, .getfield 25, 3), (53, .iadd, 1), (54, .ireturn, 1), (55, .iconst 1, 1), (56, .ireturn, 1)]
theorem kd1_codeInValue_ok : ∀ q ∈ kd1_codeInValue, decode prog_3_method_10_code q.1 = .ok q.2 := by decide +kernel
def kd2_init : List (Nat × Instr × Nat) := [(0, .aload_n 0, 1), (1, .invokespecial 3, 3), (4, .aload_n 0, 1), (5, .sipush 1280, 3), (8, .newarray .char, 2), (10, .putfield 9, 3), (13, .aload_n 0, 1), (14, .bipush 32, 2), (16, .newarray .int, 2), (18, .putfield 15, 3), (21, .aload_n 0, 1), (22, .bipush 8, 2), (24, .newarray .int, 2), (26, .putfield 19, 3), (29, .aload_n 0, 1), (30, .bipush 8, 2), (32, .newarray .int, 2), (34, .putfield 22, 3), (37, .iconst 0, 1), (38, .istore_n 1, 1), (39, .iload_n 1, 1), (40, .aload_n 0, 1), (41, .getfield 22, 3), (44, .arraylength, 1), (45, .if_icmp .ge 16, 3), (48, .aload_n 0, 1), (49, .getfield 22, 3), (52, .iload_n 1, 1), (53, .iconst (-1), 1), (54, .iastore, 1), (55, .iinc 1 1, 3), (58, .goto (-19), 3), (61, .return_, 1)]
theorem kd2_init_ok : ∀ q ∈ kd2_init, decode prog_4_method_1_code q.1 = .ok q.2 := by decide +kernel
def kd2_isVariable : List (Nat × Instr × Nat) := [(0, .iload_n 1, 1), (1, .ifCond .lt 13, 3), (4, .iload_n 1, 1), (5, .bipush 8, 2), (7, .if_icmp .ge 7, 3), (10, .iconst 1, 1), (11, .goto 4, 3), (14, .iconst 0, 1), (15, .ireturn, 1)]
theorem kd2_isVariable_ok : ∀ q ∈ kd2_isVariable, decode prog_4_method_2_code q.1 = .ok q.2 := by decide +kernel
def kd2_count : List (Nat × Instr × Nat) := [(0, .aload_n 0, 1), (1, .iload_n 1, 1), (2, .invokevirtual 25, 3), (5, .ifCond .eq 12, 3), (8, .aload_n 0, 1), (9, .getfield 19, 3), (12, .iload_n 1, 1), (13, .iaload, 1), (14, .goto 4, 3), (17, .iconst 0, 1), (18, .ireturn, 1)]
theorem kd2_count_ok : ∀ q ∈ kd2_count, decode prog_4_method_3_code q.1 = .ok q.2 := by decide +kernel
def kd2_keep : List (Nat × Instr × Nat) := [(0, .aload_n 0, 1), (1, .iload_n 1, 1), (2, .invokevirtual 25, 3), (5, .ifCond .eq 22, 3), (8, .aload_n 0, 1), (9, .getfield 19, 3), (12, .iload_n 1, 1), (13, .iaload, 1), (14, .iconst 4, 1), (15, .if_icmp .ge 12, 3), (18, .aload_n 2, 1), (19, .getfield 29, 3), (22, .bipush 40, 2), (24, .if_icmp .le 5, 3), (27, .iconst 0, 1), (28, .ireturn, 1), (29, .iload_n 1, 1), (30, .iconst 4, 1), (31, .imul, 1), (32, .aload_n 0, 1), (33, .getfield 19, 3), (36, .iload_n 1, 1), (37, .iaload, 1), (38, .iadd, 1), (39, .istore_n 3, 1), (40, .iconst 0, 1), (41, .istore 4, 2), (43, .iload 4, 2), (45, .aload_n 2, 1), (46, .getfield 29, 3), (49, .if_icmp .ge 27, 3), (52, .aload_n 0, 1), (53, .getfield 9, 3), (56, .iload_n 3, 1), (57, .bipush 40, 2), (59, .imul, 1), (60, .iload 4, 2), (62, .iadd, 1), (63, .aload_n 2, 1), (64, .iload 4, 2), (66, .invokevirtual 35, 3), (69, .castore, 1), (70, .iinc 4 1, 3), (73, .goto (-30), 3), (76, .aload_n 0, 1), (77, .getfield 15, 3), (80, .iload_n 3, 1), (81, .aload_n 2, 1), (82, .getfield 29, 3), (85, .iastore, 1), (86, .aload_n 0, 1), (87, .getfield 19, 3), (90, .iload_n 1, 1), (91, .dup2, 1), (92, .iaload, 1), (93, .iconst 1, 1), (94, .iadd, 1), (95, .iastore, 1), (96, .iconst 1, 1), (97, .ireturn, 1)]
theorem kd2_keep_ok : ∀ q ∈ kd2_keep, decode prog_4_method_4_code q.1 = .ok q.2 := by decide +kernel
def kd2_drop : List (Nat × Instr × Nat) := [(0, .aload_n 0, 1), (1, .iload_n 1, 1), (2, .invokevirtual 39, 3), (5, .istore_n 2, 1), (6, .aload_n 0, 1), (7, .iload_n 1, 1), (8, .invokevirtual 25, 3), (11, .ifCond .eq 10, 3), (14, .aload_n 0, 1), (15, .getfield 19, 3), (18, .iload_n 1, 1), (19, .iconst 0, 1), (20, .iastore, 1), (21, .iload_n 2, 1), (22, .ireturn, 1)]
theorem kd2_drop_ok : ∀ q ∈ kd2_drop, decode prog_4_method_5_code q.1 = .ok q.2 := by decide +kernel
def kd2_lone : List (Nat × Instr × Nat) := [(0, .aload_n 0, 1), (1, .iload_n 1, 1), (2, .invokevirtual 25, 3), (5, .ifCond .eq 12, 3), (8, .aload_n 0, 1), (9, .getfield 22, 3), (12, .iload_n 1, 1), (13, .iaload, 1), (14, .goto 4, 3), (17, .iconst (-1), 1), (18, .ireturn, 1)]
theorem kd2_lone_ok : ∀ q ∈ kd2_lone, decode prog_4_method_6_code q.1 = .ok q.2 := by decide +kernel
def kd2_leaveAlone : List (Nat × Instr × Nat) := [(0, .aload_n 0, 1), (1, .iload_n 1, 1), (2, .invokevirtual 25, 3), (5, .ifCond .eq 10, 3), (8, .aload_n 0, 1), (9, .getfield 22, 3), (12, .iload_n 1, 1), (13, .iload_n 2, 1), (14, .iastore, 1), (15, .return_, 1)]
theorem kd2_leaveAlone_ok : ∀ q ∈ kd2_leaveAlone, decode prog_4_method_7_code q.1 = .ok q.2 := by decide +kernel
def kd2_from : List (Nat × Instr × Nat) := [(0, .aload_n 0, 1), (1, .iload_n 1, 1), (2, .invokevirtual 25, 3), (5, .ifCond .ne 5, 3), (8, .iconst 0, 1), (9, .ireturn, 1), (10, .aload_n 0, 1), (11, .getfield 22, 3), (14, .iload_n 1, 1), (15, .iaload, 1), (16, .iconst (-1), 1), (17, .if_icmp .eq 12, 3), (20, .aload_n 0, 1), (21, .getfield 22, 3), (24, .iload_n 1, 1), (25, .iaload, 1), (26, .goto 6, 3), (29, .iload_n 1, 1), (30, .iconst 4, 1), (31, .imul, 1), (32, .ireturn, 1)]
theorem kd2_from_ok : ∀ q ∈ kd2_from, decode prog_4_method_8_code q.1 = .ok q.2 := by decide +kernel
def kd2_upTo : List (Nat × Instr × Nat) := [(0, .aload_n 0, 1), (1, .iload_n 1, 1), (2, .invokevirtual 25, 3), (5, .ifCond .ne 5, 3), (8, .iconst 0, 1), (9, .ireturn, 1), (10, .aload_n 0, 1), (11, .getfield 22, 3), (14, .iload_n 1, 1), (15, .iaload, 1), (16, .iconst (-1), 1), (17, .if_icmp .eq 14, 3), (20, .aload_n 0, 1), (21, .getfield 22, 3), (24, .iload_n 1, 1), (25, .iaload, 1), (26, .iconst 1, 1), (27, .iadd, 1), (28, .goto 13, 3), (31, .iload_n 1, 1), (32, .iconst 4, 1), (33, .imul, 1), (34, .aload_n 0, 1), (35, .getfield 19, 3), (38, .iload_n 1, 1), (39, .iaload, 1), (40, .iadd, 1), (41, .ireturn, 1)]
theorem kd2_upTo_ok : ∀ q ∈ kd2_upTo, decode prog_4_method_9_code q.1 = .ok q.2 := by decide +kernel
def kd2_first : List (Nat × Instr × Nat) := [(0, .aload_n 0, 1), (1, .iload_n 1, 1), (2, .invokevirtual 43, 3), (5, .aload_n 0, 1), (6, .iload_n 1, 1), (7, .invokevirtual 46, 3), (10, .if_icmp .ge 11, 3), (13, .aload_n 0, 1), (14, .iload_n 1, 1), (15, .invokevirtual 43, 3), (18, .goto 4, 3), (21, .iconst (-1), 1), (22, .ireturn, 1)]
theorem kd2_first_ok : ∀ q ∈ kd2_first, decode prog_4_method_10_code q.1 = .ok q.2 := by decide +kernel
def kd2_length : List (Nat × Instr × Nat) := [(0, .iload_n 1, 1), (1, .ifCond .lt 21, 3), (4, .iload_n 1, 1), (5, .aload_n 0, 1), (6, .getfield 15, 3), (9, .arraylength, 1), (10, .if_icmp .ge 12, 3), (13, .aload_n 0, 1), (14, .getfield 15, 3), (17, .iload_n 1, 1), (18, .iaload, 1), (19, .goto 4, 3), (22, .iconst 0, 1), (23, .ireturn, 1)]
theorem kd2_length_ok : ∀ q ∈ kd2_length, decode prog_4_method_11_code q.1 = .ok q.2 := by decide +kernel
def kd2_at : List (Nat × Instr × Nat) := [(0, .iload_n 1, 1), (1, .ifCond .lt 30, 3), (4, .iload_n 1, 1), (5, .aload_n 0, 1), (6, .getfield 15, 3), (9, .arraylength, 1), (10, .if_icmp .ge 21, 3), (13, .iload_n 2, 1), (14, .ifCond .lt 17, 3), (17, .iload_n 2, 1), (18, .aload_n 0, 1), (19, .getfield 15, 3), (22, .iload_n 1, 1), (23, .iaload, 1), (24, .if_icmp .ge 7, 3), (27, .iconst 1, 1), (28, .goto 4, 3), (31, .iconst 0, 1), (32, .istore_n 3, 1), (33, .iload_n 3, 1), (34, .ifCond .eq 17, 3), (37, .aload_n 0, 1), (38, .getfield 9, 3), (41, .iload_n 1, 1), (42, .bipush 40, 2), (44, .imul, 1), (45, .iload_n 2, 1), (46, .iadd, 1), (47, .caload, 1), (48, .goto 4, 3), (51, .iconst 0, 1), (52, .ireturn, 1)]
theorem kd2_at_ok : ∀ q ∈ kd2_at, decode prog_4_method_12_code q.1 = .ok q.2 := by decide +kernel
def kd2_begins : List (Nat × Instr × Nat) := [(0, .iload_n 2, 1), (1, .aload_n 3, 1), (2, .invokevirtual 49, 3), (5, .if_icmp .ne 7, 3), (8, .iconst 1, 1), (9, .goto 4, 3), (12, .iconst 0, 1), (13, .istore 4, 2), (15, .iconst 0, 1), (16, .istore 5, 2), (18, .iload 5, 2), (20, .iload_n 2, 1), (21, .if_icmp .ge 40, 3), (24, .iload 4, 2), (26, .ifCond .eq 35, 3), (29, .aload_n 0, 1), (30, .iload_n 1, 1), (31, .iload 5, 2), (33, .invokevirtual 54, 3), (36, .invokestatic 57, 3), (39, .aload_n 3, 1), (40, .iload 5, 2), (42, .invokevirtual 63, 3), (45, .if_icmp .ne 7, 3), (48, .iconst 1, 1), (49, .goto 4, 3), (52, .iconst 0, 1), (53, .istore 4, 2), (55, .iinc 5 1, 3), (58, .goto (-40), 3), (61, .iload 4, 2), (63, .ireturn, 1)]
theorem kd2_begins_ok : ∀ q ∈ kd2_begins, decode prog_4_method_13_code q.1 = .ok q.2 := by decide +kernel
def kd3_read : List (Nat × Instr × Nat) := [(0, .aload_n 2, 1), (1, .getfield 9, 3), (4, .tableswitch 79 0 6 #[44, 51, 58, 79, 79, 65, 72], 44), (48, .aload_n 0, 1), (49, .iload_n 1, 1), (50, .aload_n 2, 1), (51, .invokestatic 15, 3), (54, .ireturn, 1), (55, .aload_n 0, 1), (56, .iload_n 1, 1), (57, .aload_n 2, 1), (58, .invokestatic 21, 3), (61, .ireturn, 1), (62, .aload_n 0, 1), (63, .iload_n 1, 1), (64, .aload_n 2, 1), (65, .invokestatic 24, 3), (68, .ireturn, 1), (69, .aload_n 0, 1), (70, .iload_n 1, 1), (71, .aload_n 2, 1), (72, .invokestatic 27, 3), (75, .ireturn, 1), (76, .aload_n 0, 1), (77, .iload_n 1, 1), (78, .aload_n 2, 1), (79, .invokestatic 30, 3), (82, .ireturn, 1), (83, .aload_n 0, 1), (84, .iload_n 1, 1), (85, .aload_n 2, 1), (86, .invokestatic 33, 3), (89, .ireturn, 1)]
theorem kd3_read_ok : ∀ q ∈ kd3_read, decode prog_5_method_2_code q.1 = .ok q.2 := by decide +kernel
def kd3_inText : List (Nat × Instr × Nat) := [(0, .aload_n 0, 1), (1, .iload_n 1, 1), (2, .invokevirtual 36, 3), (5, .bipush 38, 2), (7, .if_icmp .ne 9, 3), (10, .aload_n 0, 1), (11, .iload_n 1, 1), (12, .invokestatic 42, 3), (15, .ireturn, 1), (16, .aload_n 0, 1), (17, .iload_n 1, 1), (18, .invokevirtual 36, 3), (21, .bipush 60, 2), (23, .if_icmp .eq 5, 3), (26, .iconst 1, 1), (27, .ireturn, 1), (28, .aload_n 0, 1), (29, .iload_n 1, 1), (30, .iload_n 1, 1), (31, .iconst 4, 1), (32, .iadd, 1), (33, .ldc 46, 2), (35, .invokevirtual 48, 3), (38, .ifCond .eq 11, 3), (41, .aload_n 2, 1), (42, .bipush 6, 2), (44, .invokevirtual 52, 3), (47, .iconst 4, 1), (48, .ireturn, 1), (49, .aload_n 0, 1), (50, .iload_n 1, 1), (51, .iconst 1, 1), (52, .iadd, 1), (53, .invokevirtual 36, 3), (56, .bipush 47, 2), (58, .if_icmp .ne 11, 3), (61, .aload_n 0, 1), (62, .iload_n 1, 1), (63, .invokestatic 56, 3), (66, .goto 9, 3), (69, .aload_n 0, 1), (70, .iload_n 1, 1), (71, .aload_n 2, 1), (72, .invokestatic 59, 3), (75, .ireturn, 1)]
theorem kd3_inText_ok : ∀ q ∈ kd3_inText, decode prog_5_method_3_code q.1 = .ok q.2 := by decide +kernel
def kd3_endTag : List (Nat × Instr × Nat) := [(0, .aload_n 0, 1), (1, .iload_n 1, 1), (2, .iconst 2, 1), (3, .iadd, 1), (4, .invokevirtual 62, 3), (7, .istore_n 2, 1), (8, .iload_n 2, 1), (9, .iload_n 1, 1), (10, .iconst 2, 1), (11, .iadd, 1), (12, .if_icmp .le 21, 3), (15, .aload_n 0, 1), (16, .iload_n 2, 1), (17, .invokevirtual 36, 3), (20, .bipush 62, 2), (22, .if_icmp .ne 11, 3), (25, .iload_n 2, 1), (26, .iconst 1, 1), (27, .iadd, 1), (28, .iload_n 1, 1), (29, .isub, 1), (30, .goto 4, 3), (33, .iconst 0, 1), (34, .ireturn, 1)]
theorem kd3_endTag_ok : ∀ q ∈ kd3_endTag, decode prog_5_method_4_code q.1 = .ok q.2 := by decide +kernel
def kd3_startTag : List (Nat × Instr × Nat) := [(0, .aload_n 0, 1), (1, .iload_n 1, 1), (2, .iconst 1, 1), (3, .iadd, 1), (4, .invokevirtual 62, 3), (7, .istore_n 3, 1), (8, .aload_n 0, 1), (9, .iload_n 3, 1), (10, .invokevirtual 36, 3), (13, .istore 4, 2), (15, .iload_n 3, 1), (16, .iload_n 1, 1), (17, .iconst 1, 1), (18, .iadd, 1), (19, .if_icmp .eq 25, 3), (22, .iload 4, 2), (24, .invokestatic 66, 3), (27, .ifCond .ne 19, 3), (30, .iload 4, 2), (32, .bipush 47, 2), (34, .if_icmp .eq 12, 3), (37, .iload 4, 2), (39, .bipush 62, 2), (41, .if_icmp .eq 5, 3), (44, .iconst 0, 1), (45, .ireturn, 1), (46, .aload_n 2, 1), (47, .aload_n 0, 1), (48, .iload_n 1, 1), (49, .iconst 1, 1), (50, .iadd, 1), (51, .iload_n 3, 1), (52, .invokestatic 72, 3), (55, .invokevirtual 76, 3), (58, .iload_n 3, 1), (59, .iload_n 1, 1), (60, .isub, 1), (61, .ireturn, 1)]
theorem kd3_startTag_ok : ∀ q ∈ kd3_startTag, decode prog_5_method_5_code q.1 = .ok q.2 := by decide +kernel
def kd3_elementOf : List (Nat × Instr × Nat) := [(0, .aload_n 0, 1), (1, .iload_n 1, 1), (2, .iload_n 2, 1), (3, .ldc 79, 2), (5, .invokevirtual 48, 3), (8, .ifCond .eq 5, 3), (11, .iconst 1, 1), (12, .ireturn, 1), (13, .aload_n 0, 1), (14, .iload_n 1, 1), (15, .iload_n 2, 1), (16, .ldc 81, 2), (18, .invokevirtual 48, 3), (21, .ifCond .eq 5, 3), (24, .iconst 2, 1), (25, .ireturn, 1), (26, .aload_n 0, 1), (27, .iload_n 1, 1), (28, .iload_n 2, 1), (29, .ldc 83, 2), (31, .invokevirtual 48, 3), (34, .ifCond .eq 7, 3), (37, .iconst 3, 1), (38, .goto 4, 3), (41, .iconst 0, 1), (42, .ireturn, 1)]
theorem kd3_elementOf_ok : ∀ q ∈ kd3_elementOf, decode prog_5_method_6_code q.1 = .ok q.2 := by decide +kernel
def kd3_ampersand : List (Nat × Instr × Nat) := [(0, .iload_n 1, 1), (1, .iconst 1, 1), (2, .iadd, 1), (3, .istore_n 2, 1), (4, .iload_n 2, 1), (5, .aload_n 0, 1), (6, .getfield 85, 3), (9, .if_icmp .ge 30, 3), (12, .aload_n 0, 1), (13, .iload_n 2, 1), (14, .invokevirtual 36, 3), (17, .invokestatic 88, 3), (20, .ifCond .ne 13, 3), (23, .aload_n 0, 1), (24, .iload_n 2, 1), (25, .invokevirtual 36, 3), (28, .bipush 35, 2), (30, .if_icmp .ne 9, 3), (33, .iinc 2 1, 3), (36, .goto (-32), 3), (39, .aload_n 0, 1), (40, .iload_n 2, 1), (41, .invokevirtual 36, 3), (44, .ifCond .eq 7, 3), (47, .iconst 1, 1), (48, .goto 4, 3), (51, .iconst 0, 1), (52, .ireturn, 1)]
theorem kd3_ampersand_ok : ∀ q ∈ kd3_ampersand, decode prog_5_method_7_code q.1 = .ok q.2 := by decide +kernel
def kd3_ifTwoFollow : List (Nat × Instr × Nat) := [(0, .aload_n 0, 1), (1, .iload_n 1, 1), (2, .iconst 1, 1), (3, .iadd, 1), (4, .invokevirtual 36, 3), (7, .ifCond .eq 17, 3), (10, .aload_n 0, 1), (11, .iload_n 1, 1), (12, .iconst 2, 1), (13, .iadd, 1), (14, .invokevirtual 36, 3), (17, .ifCond .eq 7, 3), (20, .iconst 1, 1), (21, .goto 4, 3), (24, .iconst 0, 1), (25, .ireturn, 1)]
theorem kd3_ifTwoFollow_ok : ∀ q ∈ kd3_ifTwoFollow, decode prog_5_method_8_code q.1 = .ok q.2 := by decide +kernel
def kd3_inTag : List (Nat × Instr × Nat) := [(0, .aload_n 0, 1), (1, .iload_n 1, 1), (2, .invokevirtual 36, 3), (5, .istore_n 3, 1), (6, .iload_n 3, 1), (7, .invokestatic 66, 3), (10, .ifCond .eq 5, 3), (13, .iconst 1, 1), (14, .ireturn, 1), (15, .iload_n 3, 1), (16, .bipush 62, 2), (18, .if_icmp .ne 9, 3), (21, .aload_n 2, 1), (22, .invokevirtual 91, 3), (25, .iconst 1, 1), (26, .ireturn, 1), (27, .iload_n 3, 1), (28, .bipush 47, 2), (30, .if_icmp .ne 29, 3), (33, .aload_n 0, 1), (34, .iload_n 1, 1), (35, .iconst 1, 1), (36, .iadd, 1), (37, .invokevirtual 36, 3), (40, .bipush 62, 2), (42, .if_icmp .ne 17, 3), (45, .aload_n 2, 1), (46, .getfield 94, 3), (49, .ifCond .ne 10, 3), (52, .aload_n 2, 1), (53, .iconst 0, 1), (54, .invokevirtual 52, 3), (57, .iconst 2, 1), (58, .ireturn, 1), (59, .iload_n 3, 1), (60, .invokestatic 97, 3), (63, .ifCond .eq 12, 3), (66, .aload_n 0, 1), (67, .iload_n 1, 1), (68, .aload_n 2, 1), (69, .invokestatic 100, 3), (72, .goto 4, 3), (75, .iconst 0, 1), (76, .ireturn, 1)]
theorem kd3_inTag_ok : ∀ q ∈ kd3_inTag, decode prog_5_method_9_code q.1 = .ok q.2 := by decide +kernel
def kd3_attribute : List (Nat × Instr × Nat) := [(0, .aload_n 0, 1), (1, .iload_n 1, 1), (2, .invokevirtual 103, 3), (5, .istore_n 3, 1), (6, .aload_n 0, 1), (7, .iload_n 3, 1), (8, .invokevirtual 106, 3), (11, .istore 4, 2), (13, .aload_n 0, 1), (14, .iload 4, 2), (16, .invokevirtual 36, 3), (19, .istore 5, 2), (21, .iload 5, 2), (23, .bipush 61, 2), (25, .if_icmp .eq 32, 3), (28, .iload 4, 2), (30, .iload_n 3, 1), (31, .if_icmp .gt 17, 3), (34, .iload 5, 2), (36, .bipush 47, 2), (38, .if_icmp .eq 10, 3), (41, .iload 5, 2), (43, .bipush 62, 2), (45, .if_icmp .ne 10, 3), (48, .iload 4, 2), (50, .iload_n 1, 1), (51, .isub, 1), (52, .goto 4, 3), (55, .iconst 0, 1), (56, .ireturn, 1), (57, .aload_n 0, 1), (58, .iload 4, 2), (60, .iconst 1, 1), (61, .iadd, 1), (62, .invokevirtual 106, 3), (65, .istore 6, 2), (67, .aload_n 0, 1), (68, .iload 6, 2), (70, .invokevirtual 36, 3), (73, .istore 7, 2), (75, .iload 7, 2), (77, .invokestatic 109, 3), (80, .ifCond .ne 5, 3), (83, .iconst 0, 1), (84, .ireturn, 1), (85, .aload_n 2, 1), (86, .iload 7, 2), (88, .aload_n 0, 1), (89, .iload_n 1, 1), (90, .iload_n 3, 1), (91, .invokestatic 112, 3), (94, .invokevirtual 115, 3), (97, .iload 6, 2), (99, .iconst 1, 1), (100, .iadd, 1), (101, .iload_n 1, 1), (102, .isub, 1), (103, .ireturn, 1)]
theorem kd3_attribute_ok : ∀ q ∈ kd3_attribute, decode prog_5_method_10_code q.1 = .ok q.2 := by decide +kernel
def kd3_kindOf : List (Nat × Instr × Nat) := [(0, .aload_n 0, 1), (1, .iload_n 1, 1), (2, .iload_n 2, 1), (3, .ldc 119, 2), (5, .invokevirtual 48, 3), (8, .ifCond .ne 25, 3), (11, .aload_n 0, 1), (12, .iload_n 1, 1), (13, .iload_n 2, 1), (14, .ldc 121, 2), (16, .invokevirtual 48, 3), (19, .ifCond .ne 14, 3), (22, .aload_n 0, 1), (23, .iload_n 1, 1), (24, .iload_n 2, 1), (25, .ldc 123, 2), (27, .invokevirtual 48, 3), (30, .ifCond .eq 5, 3), (33, .iconst 1, 1), (34, .ireturn, 1), (35, .aload_n 0, 1), (36, .iload_n 1, 1), (37, .iload_n 2, 1), (38, .ldc 81, 2), (40, .invokevirtual 48, 3), (43, .ifCond .eq 5, 3), (46, .iconst 3, 1), (47, .ireturn, 1), (48, .aload_n 0, 1), (49, .iload_n 1, 1), (50, .iload_n 1, 1), (51, .iconst 2, 1), (52, .iadd, 1), (53, .ldc 125, 2), (55, .invokevirtual 48, 3), (58, .ifCond .eq 7, 3), (61, .iconst 2, 1), (62, .goto 4, 3), (65, .iconst 0, 1), (66, .ireturn, 1)]
theorem kd3_kindOf_ok : ∀ q ∈ kd3_kindOf, decode prog_5_method_11_code q.1 = .ok q.2 := by decide +kernel
def kd3_inValue : List (Nat × Instr × Nat) := [(0, .aload_n 0, 1), (1, .iload_n 1, 1), (2, .invokevirtual 36, 3), (5, .istore_n 3, 1), (6, .iload_n 3, 1), (7, .aload_n 2, 1), (8, .getfield 127, 3), (11, .if_icmp .ne 30, 3), (14, .aload_n 2, 1), (15, .getfield 131, 3), (18, .ifCond .eq 13, 3), (21, .aload_n 2, 1), (22, .getfield 134, 3), (25, .iconst 1, 1), (26, .if_icmp .eq 5, 3), (29, .iconst 0, 1), (30, .ireturn, 1), (31, .aload_n 2, 1), (32, .aload_n 2, 1), (33, .getfield 94, 3), (36, .invokevirtual 76, 3), (39, .iconst 1, 1), (40, .ireturn, 1), (41, .aload_n 2, 1), (42, .getfield 134, 3), (45, .iconst 1, 1), (46, .if_icmp .ne 10, 3), (49, .aload_n 0, 1), (50, .iload_n 1, 1), (51, .aload_n 2, 1), (52, .invokestatic 137, 3), (55, .ireturn, 1), (56, .aload_n 2, 1), (57, .getfield 134, 3), (60, .ifCond .ne 19, 3), (63, .iload_n 3, 1), (64, .bipush 38, 2), (66, .if_icmp .ne 11, 3), (69, .aload_n 0, 1), (70, .iload_n 1, 1), (71, .invokestatic 42, 3), (74, .goto 4, 3), (77, .iconst 1, 1), (78, .ireturn, 1), (79, .iload_n 3, 1), (80, .bipush 38, 2), (82, .if_icmp .ne 7, 3), (85, .iconst 0, 1), (86, .goto 9, 3), (89, .aload_n 0, 1), (90, .iload_n 1, 1), (91, .aload_n 2, 1), (92, .invokestatic 33, 3), (95, .ireturn, 1)]
theorem kd3_inValue_ok : ∀ q ∈ kd3_inValue, decode prog_5_method_12_code q.1 = .ok q.2 := by decide +kernel
def kd3_inUrl : List (Nat × Instr × Nat) := [(0, .aload_n 0, 1), (1, .iload_n 1, 1), (2, .invokevirtual 36, 3), (5, .istore_n 3, 1), (6, .iload_n 3, 1), (7, .bipush 38, 2), (9, .if_icmp .ne 11, 3), (12, .aload_n 0, 1), (13, .iload_n 1, 1), (14, .invokestatic 42, 3), (17, .ifCond .eq 17, 3), (20, .iload_n 3, 1), (21, .bipush 37, 2), (23, .if_icmp .ne 13, 3), (26, .aload_n 0, 1), (27, .iload_n 1, 1), (28, .invokestatic 140, 3), (31, .ifCond .ne 5, 3), (34, .iconst 0, 1), (35, .ireturn, 1), (36, .iload_n 3, 1), (37, .bipush 63, 2), (39, .if_icmp .eq 9, 3), (42, .iload_n 3, 1), (43, .bipush 35, 2), (45, .if_icmp .ne 11, 3), (48, .aload_n 2, 1), (49, .iconst 2, 1), (50, .putfield 131, 3), (53, .goto 15, 3), (56, .aload_n 2, 1), (57, .getfield 131, 3), (60, .ifCond .ne 8, 3), (63, .aload_n 2, 1), (64, .iconst 1, 1), (65, .putfield 131, 3), (68, .iconst 1, 1), (69, .ireturn, 1)]
theorem kd3_inUrl_ok : ∀ q ∈ kd3_inUrl, decode prog_5_method_13_code q.1 = .ok q.2 := by decide +kernel
def kd3_inCode : List (Nat × Instr × Nat) := [(0, .aload_n 0, 1), (1, .iload_n 1, 1), (2, .invokevirtual 36, 3), (5, .istore_n 3, 1), (6, .iload_n 3, 1), (7, .bipush 60, 2), (9, .if_icmp .ne 18, 3), (12, .aload_n 2, 1), (13, .getfield 9, 3), (16, .iconst 2, 1), (17, .if_icmp .eq 10, 3), (20, .aload_n 0, 1), (21, .iload_n 1, 1), (22, .aload_n 2, 1), (23, .invokestatic 143, 3), (26, .ireturn, 1), (27, .aload_n 2, 1), (28, .getfield 131, 3), (31, .tableswitch 67 0 4 #[33, 67, 67, 40, 60], 33), (64, .aload_n 0, 1), (65, .iload_n 1, 1), (66, .aload_n 2, 1), (67, .invokestatic 146, 3), (70, .ireturn, 1), (71, .aload_n 2, 1), (72, .iload_n 3, 1), (73, .bipush 10, 2), (75, .if_icmp .ne 7, 3), (78, .iconst 0, 1), (79, .goto 7, 3), (82, .aload_n 2, 1), (83, .getfield 131, 3), (86, .putfield 131, 3), (89, .iconst 1, 1), (90, .ireturn, 1), (91, .aload_n 0, 1), (92, .iload_n 1, 1), (93, .aload_n 2, 1), (94, .invokestatic 149, 3), (97, .ireturn, 1), (98, .aload_n 0, 1), (99, .iload_n 1, 1), (100, .aload_n 2, 1), (101, .invokestatic 152, 3), (104, .ireturn, 1)]
theorem kd3_inCode_ok : ∀ q ∈ kd3_inCode, decode prog_5_method_14_code q.1 = .ok q.2 := by decide +kernel
def kd3_lessThan : List (Nat × Instr × Nat) := [(0, .aload_n 2, 1), (1, .invokevirtual 155, 3), (4, .ifCond .eq 8, 3), (7, .ldc 159, 2), (9, .goto 5, 3), (12, .ldc 161, 2), (14, .astore_n 3, 1), (15, .aload_n 2, 1), (16, .getfield 131, 3), (19, .ifCond .ne 28, 3), (22, .aload_n 0, 1), (23, .iload_n 1, 1), (24, .iload_n 1, 1), (25, .aload_n 3, 1), (26, .invokevirtual 163, 3), (29, .iadd, 1), (30, .aload_n 3, 1), (31, .invokevirtual 48, 3), (34, .ifCond .eq 13, 3), (37, .aload_n 2, 1), (38, .iconst 0, 1), (39, .invokevirtual 52, 3), (42, .aload_n 3, 1), (43, .invokevirtual 163, 3), (46, .ireturn, 1), (47, .aload_n 0, 1), (48, .iload_n 1, 1), (49, .iconst 1, 1), (50, .iadd, 1), (51, .invokevirtual 36, 3), (54, .istore 4, 2), (56, .iload 4, 2), (58, .ifCond .eq 17, 3), (61, .iload 4, 2), (63, .bipush 47, 2), (65, .if_icmp .eq 10, 3), (68, .iload 4, 2), (70, .bipush 33, 2), (72, .if_icmp .ne 7, 3), (75, .iconst 0, 1), (76, .goto 4, 3), (79, .iconst 1, 1), (80, .ireturn, 1)]
theorem kd3_lessThan_ok : ∀ q ∈ kd3_lessThan, decode prog_5_method_15_code q.1 = .ok q.2 := by decide +kernel
def kd3_inBareCode : List (Nat × Instr × Nat) := [(0, .aload_n 0, 1), (1, .iload_n 1, 1), (2, .invokevirtual 36, 3), (5, .istore_n 3, 1), (6, .aload_n 0, 1), (7, .iload_n 1, 1), (8, .iconst 1, 1), (9, .iadd, 1), (10, .invokevirtual 36, 3), (13, .istore 4, 2), (15, .aload_n 2, 1), (16, .invokevirtual 155, 3), (19, .istore 5, 2), (21, .iload_n 3, 1), (22, .bipush 47, 2), (24, .if_icmp .ne 17, 3), (27, .iload 4, 2), (29, .bipush 42, 2), (31, .if_icmp .ne 10, 3), (34, .aload_n 2, 1), (35, .iconst 4, 1), (36, .putfield 131, 3), (39, .iconst 2, 1), (40, .ireturn, 1), (41, .iload_n 3, 1), (42, .bipush 47, 2), (44, .if_icmp .ne 22, 3), (47, .iload 4, 2), (49, .bipush 47, 2), (51, .if_icmp .ne 15, 3), (54, .iload 5, 2), (56, .ifCond .ne 10, 3), (59, .aload_n 2, 1), (60, .iconst 3, 1), (61, .putfield 131, 3), (64, .iconst 2, 1), (65, .ireturn, 1), (66, .iload_n 3, 1), (67, .bipush 47, 2), (69, .if_icmp .ne 19, 3), (72, .iload 5, 2), (74, .ifCond .eq 12, 3), (77, .iload 4, 2), (79, .ifCond .eq 7, 3), (82, .iconst 1, 1), (83, .goto 4, 3), (86, .iconst 0, 1), (87, .ireturn, 1), (88, .iload_n 3, 1), (89, .bipush 96, 2), (91, .if_icmp .ne 10, 3), (94, .iload 5, 2), (96, .ifCond .ne 5, 3), (99, .iconst 0, 1), (100, .ireturn, 1), (101, .iload_n 3, 1), (102, .invokestatic 109, 3), (105, .ifCond .eq 18, 3), (108, .aload_n 2, 1), (109, .iload_n 3, 1), (110, .bipush 39, 2), (112, .if_icmp .ne 7, 3), (115, .iconst 1, 1), (116, .goto 4, 3), (119, .iconst 2, 1), (120, .putfield 131, 3), (123, .iconst 1, 1), (124, .ireturn, 1)]
theorem kd3_inBareCode_ok : ∀ q ∈ kd3_inBareCode, decode prog_5_method_16_code q.1 = .ok q.2 := by decide +kernel
def kd3_inString : List (Nat × Instr × Nat) := [(0, .aload_n 0, 1), (1, .iload_n 1, 1), (2, .invokevirtual 36, 3), (5, .istore_n 3, 1), (6, .iload_n 3, 1), (7, .aload_n 2, 1), (8, .getfield 131, 3), (11, .iconst 1, 1), (12, .if_icmp .ne 8, 3), (15, .bipush 39, 2), (17, .goto 5, 3), (20, .bipush 34, 2), (22, .if_icmp .ne 10, 3), (25, .aload_n 2, 1), (26, .iconst 0, 1), (27, .putfield 131, 3), (30, .iconst 1, 1), (31, .ireturn, 1), (32, .iload_n 3, 1), (33, .bipush 92, 2), (35, .if_icmp .eq 15, 3), (38, .iload_n 3, 1), (39, .bipush 10, 2), (41, .if_icmp .ne 7, 3), (44, .iconst 0, 1), (45, .goto 4, 3), (48, .iconst 1, 1), (49, .ireturn, 1), (50, .aload_n 0, 1), (51, .iload_n 1, 1), (52, .iconst 1, 1), (53, .iadd, 1), (54, .invokevirtual 36, 3), (57, .istore 4, 2), (59, .aload_n 2, 1), (60, .getfield 9, 3), (63, .iconst 2, 1), (64, .if_icmp .ne 16, 3), (67, .iload 4, 2), (69, .aload_n 2, 1), (70, .getfield 127, 3), (73, .if_icmp .ne 7, 3), (76, .iconst 1, 1), (77, .goto 4, 3), (80, .iconst 0, 1), (81, .istore 5, 2), (83, .iload 4, 2), (85, .ifCond .eq 22, 3), (88, .iload 4, 2), (90, .bipush 60, 2), (92, .if_icmp .eq 15, 3), (95, .iload 4, 2), (97, .bipush 38, 2), (99, .if_icmp .eq 8, 3), (102, .iload 5, 2), (104, .ifCond .eq 7, 3), (107, .iconst 0, 1), (108, .goto 4, 3), (111, .iconst 2, 1), (112, .ireturn, 1)]
theorem kd3_inString_ok : ∀ q ∈ kd3_inString, decode prog_5_method_17_code q.1 = .ok q.2 := by decide +kernel
def kd3_inBlockComment : List (Nat × Instr × Nat) := [(0, .aload_n 0, 1), (1, .iload_n 1, 1), (2, .invokevirtual 36, 3), (5, .bipush 42, 2), (7, .if_icmp .eq 5, 3), (10, .iconst 1, 1), (11, .ireturn, 1), (12, .aload_n 0, 1), (13, .iload_n 1, 1), (14, .iconst 1, 1), (15, .iadd, 1), (16, .invokevirtual 36, 3), (19, .istore_n 3, 1), (20, .iload_n 3, 1), (21, .bipush 47, 2), (23, .if_icmp .ne 10, 3), (26, .aload_n 2, 1), (27, .iconst 0, 1), (28, .putfield 131, 3), (31, .iconst 2, 1), (32, .ireturn, 1), (33, .iload_n 3, 1), (34, .ifCond .eq 7, 3), (37, .iconst 1, 1), (38, .goto 4, 3), (41, .iconst 0, 1), (42, .ireturn, 1)]
theorem kd3_inBlockComment_ok : ∀ q ∈ kd3_inBlockComment, decode prog_5_method_18_code q.1 = .ok q.2 := by decide +kernel
def kd3_inTitle : List (Nat × Instr × Nat) := [(0, .aload_n 0, 1), (1, .iload_n 1, 1), (2, .invokevirtual 36, 3), (5, .bipush 38, 2), (7, .if_icmp .ne 9, 3), (10, .aload_n 0, 1), (11, .iload_n 1, 1), (12, .invokestatic 42, 3), (15, .ireturn, 1), (16, .aload_n 0, 1), (17, .iload_n 1, 1), (18, .invokevirtual 36, 3), (21, .bipush 60, 2), (23, .if_icmp .eq 5, 3), (26, .iconst 1, 1), (27, .ireturn, 1), (28, .aload_n 0, 1), (29, .iload_n 1, 1), (30, .iload_n 1, 1), (31, .bipush 8, 2), (33, .iadd, 1), (34, .ldc 169, 2), (36, .invokevirtual 48, 3), (39, .ifCond .ne 5, 3), (42, .iconst 0, 1), (43, .ireturn, 1), (44, .aload_n 2, 1), (45, .iconst 0, 1), (46, .invokevirtual 52, 3), (49, .bipush 8, 2), (51, .ireturn, 1)]
theorem kd3_inTitle_ok : ∀ q ∈ kd3_inTitle, decode prog_5_method_19_code q.1 = .ok q.2 := by decide +kernel
def kd3_inComment : List (Nat × Instr × Nat) := [(0, .aload_n 0, 1), (1, .iload_n 1, 1), (2, .iload_n 1, 1), (3, .iconst 3, 1), (4, .iadd, 1), (5, .ldc 171, 2), (7, .invokevirtual 48, 3), (10, .ifCond .eq 10, 3), (13, .aload_n 2, 1), (14, .iconst 0, 1), (15, .invokevirtual 52, 3), (18, .iconst 3, 1), (19, .ireturn, 1), (20, .aload_n 0, 1), (21, .iload_n 1, 1), (22, .invokevirtual 36, 3), (25, .bipush 45, 2), (27, .if_icmp .ne 11, 3), (30, .aload_n 0, 1), (31, .iload_n 1, 1), (32, .invokestatic 140, 3), (35, .goto 4, 3), (38, .iconst 1, 1), (39, .ireturn, 1)]
theorem kd3_inComment_ok : ∀ q ∈ kd3_inComment, decode prog_5_method_20_code q.1 = .ok q.2 := by decide +kernel
def kd4_isWritable : List (Nat × Instr × Nat) := [(0, .iload_n 0, 1), (1, .bipush 10, 2), (3, .if_icmp .eq 15, 3), (6, .iload_n 0, 1), (7, .bipush 32, 2), (9, .if_icmp .lt 13, 3), (12, .iload_n 0, 1), (13, .bipush 126, 2), (15, .if_icmp .gt 7, 3), (18, .iconst 1, 1), (19, .goto 4, 3), (22, .iconst 0, 1), (23, .ireturn, 1)]
theorem kd4_isWritable_ok : ∀ q ∈ kd4_isWritable, decode prog_6_method_2_code q.1 = .ok q.2 := by decide +kernel
def kd4_isBlank : List (Nat × Instr × Nat) := [(0, .iload_n 0, 1), (1, .bipush 32, 2), (3, .if_icmp .eq 9, 3), (6, .iload_n 0, 1), (7, .bipush 10, 2), (9, .if_icmp .ne 7, 3), (12, .iconst 1, 1), (13, .goto 4, 3), (16, .iconst 0, 1), (17, .ireturn, 1)]
theorem kd4_isBlank_ok : ∀ q ∈ kd4_isBlank, decode prog_6_method_3_code q.1 = .ok q.2 := by decide +kernel
def kd4_isLetter : List (Nat × Instr × Nat) := [(0, .iload_n 0, 1), (1, .bipush 97, 2), (3, .if_icmp .lt 13, 3), (6, .iload_n 0, 1), (7, .bipush 122, 2), (9, .if_icmp .gt 7, 3), (12, .iconst 1, 1), (13, .goto 4, 3), (16, .iconst 0, 1), (17, .ireturn, 1)]
theorem kd4_isLetter_ok : ∀ q ∈ kd4_isLetter, decode prog_6_method_4_code q.1 = .ok q.2 := by decide +kernel
def kd4_isLetterOrDigit : List (Nat × Instr × Nat) := [(0, .iload_n 0, 1), (1, .bipush 97, 2), (3, .if_icmp .lt 9, 3), (6, .iload_n 0, 1), (7, .bipush 122, 2), (9, .if_icmp .le 27, 3), (12, .iload_n 0, 1), (13, .bipush 65, 2), (15, .if_icmp .lt 9, 3), (18, .iload_n 0, 1), (19, .bipush 90, 2), (21, .if_icmp .le 15, 3), (24, .iload_n 0, 1), (25, .bipush 48, 2), (27, .if_icmp .lt 13, 3), (30, .iload_n 0, 1), (31, .bipush 57, 2), (33, .if_icmp .gt 7, 3), (36, .iconst 1, 1), (37, .goto 4, 3), (40, .iconst 0, 1), (41, .ireturn, 1)]
theorem kd4_isLetterOrDigit_ok : ∀ q ∈ kd4_isLetterOrDigit, decode prog_6_method_5_code q.1 = .ok q.2 := by decide +kernel
def kd4_isVariable : List (Nat × Instr × Nat) := [(0, .iload_n 0, 1), (1, .bipush 97, 2), (3, .if_icmp .lt 13, 3), (6, .iload_n 0, 1), (7, .bipush 105, 2), (9, .if_icmp .ge 7, 3), (12, .iconst 1, 1), (13, .goto 4, 3), (16, .iconst 0, 1), (17, .ireturn, 1)]
theorem kd4_isVariable_ok : ∀ q ∈ kd4_isVariable, decode prog_6_method_6_code q.1 = .ok q.2 := by decide +kernel
def kd4_isQuote : List (Nat × Instr × Nat) := [(0, .iload_n 0, 1), (1, .bipush 34, 2), (3, .if_icmp .eq 9, 3), (6, .iload_n 0, 1), (7, .bipush 39, 2), (9, .if_icmp .ne 7, 3), (12, .iconst 1, 1), (13, .goto 4, 3), (16, .iconst 0, 1), (17, .ireturn, 1)]
theorem kd4_isQuote_ok : ∀ q ∈ kd4_isQuote, decode prog_6_method_7_code q.1 = .ok q.2 := by decide +kernel
def kd4_small : List (Nat × Instr × Nat) := [(0, .iload_n 0, 1), (1, .bipush 65, 2), (3, .if_icmp .lt 20, 3), (6, .iload_n 0, 1), (7, .bipush 90, 2), (9, .if_icmp .gt 14, 3), (12, .iload_n 0, 1), (13, .bipush 65, 2), (15, .isub, 1), (16, .bipush 97, 2), (18, .iadd, 1), (19, .i2c, 1), (20, .goto 4, 3), (23, .iload_n 0, 1), (24, .ireturn, 1)]
theorem kd4_small_ok : ∀ q ∈ kd4_small, decode prog_6_method_8_code q.1 = .ok q.2 := by decide +kernel
def kd4_highHex : List (Nat × Instr × Nat) := [(0, .ldc 11, 2), (2, .iload_n 0, 1), (3, .iconst 4, 1), (4, .ishr, 1), (5, .bipush 15, 2), (7, .iand, 1), (8, .invokevirtual 13, 3), (11, .ireturn, 1)]
theorem kd4_highHex_ok : ∀ q ∈ kd4_highHex, decode prog_6_method_9_code q.1 = .ok q.2 := by decide +kernel
def kd4_lowHex : List (Nat × Instr × Nat) := [(0, .ldc 11, 2), (2, .iload_n 0, 1), (3, .bipush 15, 2), (5, .iand, 1), (6, .invokevirtual 13, 3), (9, .ireturn, 1)]
theorem kd4_lowHex_ok : ∀ q ∈ kd4_lowHex, decode prog_6_method_10_code q.1 = .ok q.2 := by decide +kernel
def kd5_init : List (Nat × Instr × Nat) := [(0, .aload_n 0, 1), (1, .invokespecial 3, 3), (4, .aload_n 0, 1), (5, .sipush 240, 3), (8, .newarray .int, 2), (10, .putfield 9, 3), (13, .aload_n 0, 1), (14, .sipush 240, 3), (17, .newarray .char, 2), (19, .putfield 15, 3), (22, .aload_n 0, 1), (23, .sipush 240, 3), (26, .newarray .int, 2), (28, .putfield 19, 3), (31, .aload_n 0, 1), (32, .sipush 240, 3), (35, .newarray .int, 2), (37, .putfield 22, 3), (40, .aload_n 0, 1), (41, .sipush 240, 3), (44, .newarray .int, 2), (46, .putfield 25, 3), (49, .aload_n 0, 1), (50, .sipush 240, 3), (53, .newarray .int, 2), (55, .putfield 28, 3), (58, .aload_n 0, 1), (59, .sipush 240, 3), (62, .newarray .int, 2), (64, .putfield 31, 3), (67, .return_, 1)]
theorem kd5_init_ok : ∀ q ∈ kd5_init, decode prog_7_method_1_code q.1 = .ok q.2 := by decide +kernel
def kd5_cut : List (Nat × Instr × Nat) := [(0, .aload_n 0, 1), (1, .iconst 0, 1), (2, .putfield 34, 3), (5, .aload_n 0, 1), (6, .aload_n 1, 1), (7, .getfield 38, 3), (10, .putfield 43, 3), (13, .iconst 0, 1), (14, .istore_n 2, 1), (15, .iload_n 2, 1), (16, .aload_n 0, 1), (17, .getfield 43, 3), (20, .if_icmp .ge 46, 3), (23, .aload_n 1, 1), (24, .iload_n 2, 1), (25, .invokevirtual 46, 3), (28, .bipush 123, 2), (30, .if_icmp .ne 12, 3), (33, .aload_n 0, 1), (34, .aload_n 1, 1), (35, .iload_n 2, 1), (36, .invokevirtual 50, 3), (39, .goto 15, 3), (42, .aload_n 0, 1), (43, .iconst 1, 1), (44, .aload_n 1, 1), (45, .iload_n 2, 1), (46, .invokevirtual 46, 3), (49, .iload_n 2, 1), (50, .iconst 1, 1), (51, .invokevirtual 54, 3), (54, .istore_n 3, 1), (55, .iload_n 2, 1), (56, .iload_n 3, 1), (57, .iconst 1, 1), (58, .invokestatic 58, 3), (61, .iadd, 1), (62, .istore_n 2, 1), (63, .goto (-48), 3), (66, .return_, 1)]
theorem kd5_cut_ok : ∀ q ∈ kd5_cut, decode prog_7_method_2_code q.1 = .ok q.2 := by decide +kernel
def kd5_cutBrace : List (Nat × Instr × Nat) := [(0, .aload_n 1, 1), (1, .iload_n 2, 1), (2, .iconst 1, 1), (3, .iadd, 1), (4, .invokevirtual 46, 3), (7, .istore_n 3, 1), (8, .aload_n 1, 1), (9, .iload_n 2, 1), (10, .iconst 2, 1), (11, .iadd, 1), (12, .invokevirtual 46, 3), (15, .istore 4, 2), (17, .iload_n 3, 1), (18, .bipush 123, 2), (20, .if_icmp .ne 13, 3), (23, .aload_n 0, 1), (24, .iconst 1, 1), (25, .bipush 123, 2), (27, .iload_n 2, 1), (28, .iconst 2, 1), (29, .invokevirtual 54, 3), (32, .ireturn, 1), (33, .iload 4, 2), (35, .bipush 125, 2), (37, .if_icmp .ne 19, 3), (40, .iload_n 3, 1), (41, .invokestatic 64, 3), (44, .ifCond .eq 12, 3), (47, .aload_n 0, 1), (48, .iconst 2, 1), (49, .iload_n 3, 1), (50, .iload_n 2, 1), (51, .iconst 3, 1), (52, .invokevirtual 54, 3), (55, .ireturn, 1), (56, .iload 4, 2), (58, .bipush 125, 2), (60, .if_icmp .ne 18, 3), (63, .iload_n 3, 1), (64, .bipush 58, 2), (66, .if_icmp .ne 12, 3), (69, .aload_n 0, 1), (70, .iconst 5, 1), (71, .iload_n 3, 1), (72, .iload_n 2, 1), (73, .iconst 3, 1), (74, .invokevirtual 54, 3), (77, .ireturn, 1), (78, .iload 4, 2), (80, .bipush 125, 2), (82, .if_icmp .ne 19, 3), (85, .iload_n 3, 1), (86, .bipush 47, 2), (88, .if_icmp .ne 13, 3), (91, .aload_n 0, 1), (92, .bipush 6, 2), (94, .iload_n 3, 1), (95, .iload_n 2, 1), (96, .iconst 3, 1), (97, .invokevirtual 54, 3), (100, .ireturn, 1), (101, .iload 4, 2), (103, .invokestatic 64, 3), (106, .ifCond .eq 47, 3), (109, .aload_n 1, 1), (110, .iload_n 2, 1), (111, .iconst 3, 1), (112, .iadd, 1), (113, .invokevirtual 46, 3), (116, .bipush 125, 2), (118, .if_icmp .ne 35, 3), (121, .iload_n 3, 1), (122, .bipush 63, 2), (124, .if_icmp .ne 13, 3), (127, .aload_n 0, 1), (128, .iconst 3, 1), (129, .iload 4, 2), (131, .iload_n 2, 1), (132, .iconst 4, 1), (133, .invokevirtual 54, 3), (136, .ireturn, 1), (137, .iload_n 3, 1), (138, .bipush 42, 2), (140, .if_icmp .ne 13, 3), (143, .aload_n 0, 1), (144, .iconst 4, 1), (145, .iload 4, 2), (147, .iload_n 2, 1), (148, .iconst 4, 1), (149, .invokevirtual 54, 3), (152, .ireturn, 1), (153, .aload_n 0, 1), (154, .bipush 7, 2), (156, .iload_n 3, 1), (157, .iload_n 2, 1), (158, .iconst 1, 1), (159, .invokevirtual 54, 3), (162, .ireturn, 1)]
theorem kd5_cutBrace_ok : ∀ q ∈ kd5_cutBrace, decode prog_7_method_3_code q.1 = .ok q.2 := by decide +kernel
def kd5_take : List (Nat × Instr × Nat) := [(0, .aload_n 0, 1), (1, .getfield 34, 3), (4, .sipush 240, 3), (7, .if_icmp .ge 101, 3), (10, .aload_n 0, 1), (11, .getfield 9, 3), (14, .aload_n 0, 1), (15, .getfield 34, 3), (18, .iload_n 1, 1), (19, .iastore, 1), (20, .aload_n 0, 1), (21, .getfield 15, 3), (24, .aload_n 0, 1), (25, .getfield 34, 3), (28, .iload_n 1, 1), (29, .iconst 1, 1), (30, .if_icmp .ne 7, 3), (33, .iload_n 2, 1), (34, .goto 4, 3), (37, .iconst 0, 1), (38, .castore, 1), (39, .aload_n 0, 1), (40, .getfield 19, 3), (43, .aload_n 0, 1), (44, .getfield 34, 3), (47, .iload_n 2, 1), (48, .bipush 97, 2), (50, .isub, 1), (51, .iastore, 1), (52, .aload_n 0, 1), (53, .getfield 22, 3), (56, .aload_n 0, 1), (57, .getfield 34, 3), (60, .iload_n 3, 1), (61, .iastore, 1), (62, .aload_n 0, 1), (63, .getfield 25, 3), (66, .aload_n 0, 1), (67, .getfield 34, 3), (70, .aload_n 0, 1), (71, .getfield 34, 3), (74, .iastore, 1), (75, .aload_n 0, 1), (76, .getfield 28, 3), (79, .aload_n 0, 1), (80, .getfield 34, 3), (83, .aload_n 0, 1), (84, .getfield 34, 3), (87, .iastore, 1), (88, .aload_n 0, 1), (89, .getfield 31, 3), (92, .aload_n 0, 1), (93, .getfield 34, 3), (96, .iconst (-1), 1), (97, .iastore, 1), (98, .aload_n 0, 1), (99, .dup, 1), (100, .getfield 34, 3), (103, .iconst 1, 1), (104, .iadd, 1), (105, .putfield 34, 3), (108, .iload 4, 2), (110, .ireturn, 1)]
theorem kd5_take_ok : ∀ q ∈ kd5_take, decode prog_7_method_4_code q.1 = .ok q.2 := by decide +kernel
def kd5_has : List (Nat × Instr × Nat) := [(0, .iload_n 1, 1), (1, .ifCond .lt 22, 3), (4, .iload_n 1, 1), (5, .aload_n 0, 1), (6, .getfield 34, 3), (9, .if_icmp .ge 14, 3), (12, .iload_n 1, 1), (13, .sipush 240, 3), (16, .if_icmp .ge 7, 3), (19, .iconst 1, 1), (20, .goto 4, 3), (23, .iconst 0, 1), (24, .ireturn, 1)]
theorem kd5_has_ok : ∀ q ∈ kd5_has, decode prog_7_method_5_code q.1 = .ok q.2 := by decide +kernel
def kd5_kind : List (Nat × Instr × Nat) := [(0, .aload_n 0, 1), (1, .iload_n 1, 1), (2, .invokevirtual 70, 3), (5, .ifCond .eq 12, 3), (8, .aload_n 0, 1), (9, .getfield 9, 3), (12, .iload_n 1, 1), (13, .iaload, 1), (14, .goto 4, 3), (17, .iconst 0, 1), (18, .ireturn, 1)]
theorem kd5_kind_ok : ∀ q ∈ kd5_kind, decode prog_7_method_6_code q.1 = .ok q.2 := by decide +kernel
def kd5_sign : List (Nat × Instr × Nat) := [(0, .iload_n 1, 1), (1, .ifCond .lt 27, 3), (4, .iload_n 1, 1), (5, .aload_n 0, 1), (6, .getfield 34, 3), (9, .if_icmp .ge 19, 3), (12, .iload_n 1, 1), (13, .sipush 240, 3), (16, .if_icmp .ge 12, 3), (19, .aload_n 0, 1), (20, .getfield 15, 3), (23, .iload_n 1, 1), (24, .caload, 1), (25, .goto 4, 3), (28, .iconst 0, 1), (29, .ireturn, 1)]
theorem kd5_sign_ok : ∀ q ∈ kd5_sign, decode prog_7_method_7_code q.1 = .ok q.2 := by decide +kernel
def kd5_variable : List (Nat × Instr × Nat) := [(0, .aload_n 0, 1), (1, .iload_n 1, 1), (2, .invokevirtual 70, 3), (5, .ifCond .eq 12, 3), (8, .aload_n 0, 1), (9, .getfield 19, 3), (12, .iload_n 1, 1), (13, .iaload, 1), (14, .goto 4, 3), (17, .iconst (-1), 1), (18, .ireturn, 1)]
theorem kd5_variable_ok : ∀ q ∈ kd5_variable, decode prog_7_method_8_code q.1 = .ok q.2 := by decide +kernel
def kd5_place : List (Nat × Instr × Nat) := [(0, .aload_n 0, 1), (1, .iload_n 1, 1), (2, .invokevirtual 70, 3), (5, .ifCond .eq 12, 3), (8, .aload_n 0, 1), (9, .getfield 22, 3), (12, .iload_n 1, 1), (13, .iaload, 1), (14, .goto 7, 3), (17, .aload_n 0, 1), (18, .getfield 43, 3), (21, .ireturn, 1)]
theorem kd5_place_ok : ∀ q ∈ kd5_place, decode prog_7_method_9_code q.1 = .ok q.2 := by decide +kernel
def kd5_code : List (Nat × Instr × Nat) := [(0, .aload_n 0, 1), (1, .iload_n 1, 1), (2, .invokevirtual 70, 3), (5, .ifCond .eq 12, 3), (8, .aload_n 0, 1), (9, .getfield 31, 3), (12, .iload_n 1, 1), (13, .iaload, 1), (14, .goto 4, 3), (17, .iconst (-1), 1), (18, .ireturn, 1)]
theorem kd5_code_ok : ∀ q ∈ kd5_code, decode prog_7_method_10_code q.1 = .ok q.2 := by decide +kernel
def kd5_turn : List (Nat × Instr × Nat) := [(0, .aload_n 0, 1), (1, .iload_n 1, 1), (2, .invokevirtual 70, 3), (5, .ifCond .eq 12, 3), (8, .aload_n 0, 1), (9, .getfield 25, 3), (12, .iload_n 1, 1), (13, .iaload, 1), (14, .goto 4, 3), (17, .iload_n 1, 1), (18, .ireturn, 1)]
theorem kd5_turn_ok : ∀ q ∈ kd5_turn, decode prog_7_method_11_code q.1 = .ok q.2 := by decide +kernel
def kd5_close : List (Nat × Instr × Nat) := [(0, .aload_n 0, 1), (1, .iload_n 1, 1), (2, .invokevirtual 70, 3), (5, .ifCond .eq 12, 3), (8, .aload_n 0, 1), (9, .getfield 28, 3), (12, .iload_n 1, 1), (13, .iaload, 1), (14, .goto 4, 3), (17, .iload_n 1, 1), (18, .ireturn, 1)]
theorem kd5_close_ok : ∀ q ∈ kd5_close, decode prog_7_method_12_code q.1 = .ok q.2 := by decide +kernel
def kd5_noteCode : List (Nat × Instr × Nat) := [(0, .aload_n 0, 1), (1, .iload_n 1, 1), (2, .invokevirtual 70, 3), (5, .ifCond .eq 10, 3), (8, .aload_n 0, 1), (9, .getfield 31, 3), (12, .iload_n 1, 1), (13, .iload_n 2, 1), (14, .iastore, 1), (15, .return_, 1)]
theorem kd5_noteCode_ok : ∀ q ∈ kd5_noteCode, decode prog_7_method_13_code q.1 = .ok q.2 := by decide +kernel
def kd5_noteTurn : List (Nat × Instr × Nat) := [(0, .aload_n 0, 1), (1, .iload_n 1, 1), (2, .invokevirtual 70, 3), (5, .ifCond .eq 10, 3), (8, .aload_n 0, 1), (9, .getfield 25, 3), (12, .iload_n 1, 1), (13, .iload_n 2, 1), (14, .iastore, 1), (15, .return_, 1)]
theorem kd5_noteTurn_ok : ∀ q ∈ kd5_noteTurn, decode prog_7_method_14_code q.1 = .ok q.2 := by decide +kernel
def kd5_noteClose : List (Nat × Instr × Nat) := [(0, .aload_n 0, 1), (1, .iload_n 1, 1), (2, .invokevirtual 70, 3), (5, .ifCond .eq 10, 3), (8, .aload_n 0, 1), (9, .getfield 28, 3), (12, .iload_n 1, 1), (13, .iload_n 2, 1), (14, .iastore, 1), (15, .return_, 1)]
theorem kd5_noteClose_ok : ∀ q ∈ kd5_noteClose, decode prog_7_method_15_code q.1 = .ok q.2 := by decide +kernel
def kd5_spells : List (Nat × Instr × Nat) := [(0, .iload_n 2, 1), (1, .iload_n 1, 1), (2, .isub, 1), (3, .aload_n 3, 1), (4, .invokevirtual 74, 3), (7, .if_icmp .ne 7, 3), (10, .iconst 1, 1), (11, .goto 4, 3), (14, .iconst 0, 1), (15, .istore 4, 2), (17, .iconst 0, 1), (18, .istore 5, 2), (20, .iload 5, 2), (22, .aload_n 3, 1), (23, .invokevirtual 74, 3), (26, .if_icmp .ge 38, 3), (29, .iload 4, 2), (31, .ifCond .eq 33, 3), (34, .aload_n 0, 1), (35, .iload_n 1, 1), (36, .iload 5, 2), (38, .iadd, 1), (39, .invokevirtual 79, 3), (42, .aload_n 3, 1), (43, .iload 5, 2), (45, .invokevirtual 82, 3), (48, .if_icmp .ne 7, 3), (51, .iconst 1, 1), (52, .goto 4, 3), (55, .iconst 0, 1), (56, .istore 4, 2), (58, .iinc 5 1, 3), (61, .goto (-41), 3), (64, .iload 4, 2), (66, .ireturn, 1)]
theorem kd5_spells_ok : ∀ q ∈ kd5_spells, decode prog_7_method_16_code q.1 = .ok q.2 := by decide +kernel
def kd5_behindLetters : List (Nat × Instr × Nat) := [(0, .iload_n 1, 1), (1, .istore_n 2, 1), (2, .iload_n 2, 1), (3, .aload_n 0, 1), (4, .getfield 34, 3), (7, .if_icmp .ge 20, 3), (10, .aload_n 0, 1), (11, .iload_n 2, 1), (12, .invokevirtual 79, 3), (15, .invokestatic 85, 3), (18, .ifCond .eq 9, 3), (21, .iinc 2 1, 3), (24, .goto (-22), 3), (27, .iload_n 2, 1), (28, .ireturn, 1)]
theorem kd5_behindLetters_ok : ∀ q ∈ kd5_behindLetters, decode prog_7_method_17_code q.1 = .ok q.2 := by decide +kernel
def kd5_behindName : List (Nat × Instr × Nat) := [(0, .iload_n 1, 1), (1, .istore_n 2, 1), (2, .iload_n 2, 1), (3, .aload_n 0, 1), (4, .getfield 34, 3), (7, .if_icmp .ge 30, 3), (10, .aload_n 0, 1), (11, .iload_n 2, 1), (12, .invokevirtual 79, 3), (15, .invokestatic 85, 3), (18, .ifCond .ne 13, 3), (21, .aload_n 0, 1), (22, .iload_n 2, 1), (23, .invokevirtual 79, 3), (26, .bipush 45, 2), (28, .if_icmp .ne 9, 3), (31, .iinc 2 1, 3), (34, .goto (-32), 3), (37, .iload_n 2, 1), (38, .ireturn, 1)]
theorem kd5_behindName_ok : ∀ q ∈ kd5_behindName, decode prog_7_method_18_code q.1 = .ok q.2 := by decide +kernel
def kd5_behindBlanks : List (Nat × Instr × Nat) := [(0, .iload_n 1, 1), (1, .istore_n 2, 1), (2, .iload_n 2, 1), (3, .aload_n 0, 1), (4, .getfield 34, 3), (7, .if_icmp .ge 20, 3), (10, .aload_n 0, 1), (11, .iload_n 2, 1), (12, .invokevirtual 79, 3), (15, .invokestatic 88, 3), (18, .ifCond .eq 9, 3), (21, .iinc 2 1, 3), (24, .goto (-22), 3), (27, .iload_n 2, 1), (28, .ireturn, 1)]
theorem kd5_behindBlanks_ok : ∀ q ∈ kd5_behindBlanks, decode prog_7_method_19_code q.1 = .ok q.2 := by decide +kernel
def kd6_init : List (Nat × Instr × Nat) := [(0, .aload_n 0, 1), (1, .invokespecial 3, 3), (4, .aload_n 0, 1), (5, .iload_n 1, 1), (6, .iconst 0, 1), (7, .invokestatic 9, 3), (10, .newarray .char, 2), (12, .putfield 15, 3), (15, .return_, 1)]
theorem kd6_init_ok : ∀ q ∈ kd6_init, decode prog_8_method_1_code q.1 = .ok q.2 := by decide +kernel
def kd6_put : List (Nat × Instr × Nat) := [(0, .aload_n 0, 1), (1, .getfield 21, 3), (4, .aload_n 0, 1), (5, .getfield 15, 3), (8, .arraylength, 1), (9, .if_icmp .lt 10, 3), (12, .aload_n 0, 1), (13, .iconst 1, 1), (14, .putfield 25, 3), (17, .iconst 0, 1), (18, .ireturn, 1), (19, .aload_n 0, 1), (20, .getfield 15, 3), (23, .aload_n 0, 1), (24, .getfield 21, 3), (27, .iload_n 1, 1), (28, .castore, 1), (29, .aload_n 0, 1), (30, .dup, 1), (31, .getfield 21, 3), (34, .iconst 1, 1), (35, .iadd, 1), (36, .putfield 21, 3), (39, .iconst 1, 1), (40, .ireturn, 1)]
theorem kd6_put_ok : ∀ q ∈ kd6_put, decode prog_8_method_2_code q.1 = .ok q.2 := by decide +kernel
def kd6_putAll : List (Nat × Instr × Nat) := [(0, .iconst 0, 1), (1, .istore_n 2, 1), (2, .iload_n 2, 1), (3, .aload_n 1, 1), (4, .invokevirtual 29, 3), (7, .if_icmp .ge 19, 3), (10, .aload_n 0, 1), (11, .aload_n 1, 1), (12, .iload_n 2, 1), (13, .invokevirtual 34, 3), (16, .invokevirtual 38, 3), (19, .pop, 1), (20, .iinc 2 1, 3), (23, .goto (-21), 3), (26, .return_, 1)]
theorem kd6_putAll_ok : ∀ q ∈ kd6_putAll, decode prog_8_method_3_code q.1 = .ok q.2 := by decide +kernel
def kd6_putHex : List (Nat × Instr × Nat) := [(0, .aload_n 0, 1), (1, .iload_n 1, 1), (2, .invokestatic 42, 3), (5, .invokevirtual 38, 3), (8, .pop, 1), (9, .aload_n 0, 1), (10, .iload_n 1, 1), (11, .invokestatic 48, 3), (14, .invokevirtual 38, 3), (17, .pop, 1), (18, .return_, 1)]
theorem kd6_putHex_ok : ∀ q ∈ kd6_putHex, decode prog_8_method_4_code q.1 = .ok q.2 := by decide +kernel
def kd6_at : List (Nat × Instr × Nat) := [(0, .iload_n 1, 1), (1, .ifCond .lt 29, 3), (4, .iload_n 1, 1), (5, .aload_n 0, 1), (6, .getfield 21, 3), (9, .if_icmp .ge 21, 3), (12, .iload_n 1, 1), (13, .aload_n 0, 1), (14, .getfield 15, 3), (17, .arraylength, 1), (18, .if_icmp .ge 12, 3), (21, .aload_n 0, 1), (22, .getfield 15, 3), (25, .iload_n 1, 1), (26, .caload, 1), (27, .goto 4, 3), (30, .iconst 0, 1), (31, .ireturn, 1)]
theorem kd6_at_ok : ∀ q ∈ kd6_at, decode prog_8_method_5_code q.1 = .ok q.2 := by decide +kernel
def kd6_empty : List (Nat × Instr × Nat) := [(0, .aload_n 0, 1), (1, .getfield 21, 3), (4, .istore_n 1, 1), (5, .aload_n 0, 1), (6, .iconst 0, 1), (7, .putfield 21, 3), (10, .aload_n 0, 1), (11, .iconst 0, 1), (12, .putfield 25, 3), (15, .iload_n 1, 1), (16, .ireturn, 1)]
theorem kd6_empty_ok : ∀ q ∈ kd6_empty, decode prog_8_method_6_code q.1 = .ok q.2 := by decide +kernel
def kd7_put : List (Nat × Instr × Nat) := [(0, .iload_n 3, 1), (1, .iconst 3, 1), (2, .iand, 1), (3, .istore 4, 2), (5, .iload_n 3, 1), (6, .bipush 16, 2), (8, .if_icmp .lt 7, 3), (11, .iconst 1, 1), (12, .goto 4, 3), (15, .iconst 0, 1), (16, .istore 5, 2), (18, .iload_n 3, 1), (19, .iconst 2, 1), (20, .if_icmp .ge 12, 3), (23, .aload_n 0, 1), (24, .aload_n 1, 1), (25, .iload_n 2, 1), (26, .invokestatic 9, 3), (29, .goto 85, 3), (32, .iload_n 3, 1), (33, .iconst 2, 1), (34, .if_icmp .ne 20, 3), (37, .aload_n 1, 1), (38, .iload_n 2, 1), (39, .invokestatic 15, 3), (42, .ifCond .eq 12, 3), (45, .aload_n 0, 1), (46, .ldc 19, 2), (48, .invokevirtual 21, 3), (51, .goto 63, 3), (54, .iload_n 3, 1), (55, .bipush 8, 2), (57, .if_icmp .ge 15, 3), (60, .aload_n 0, 1), (61, .aload_n 1, 1), (62, .iload_n 2, 1), (63, .iload_n 3, 1), (64, .iconst 2, 1), (65, .isub, 1), (66, .invokestatic 27, 3), (69, .goto 45, 3), (72, .iload_n 3, 1), (73, .bipush 12, 2), (75, .iand, 1), (76, .bipush 8, 2), (78, .if_icmp .ne 16, 3), (81, .aload_n 0, 1), (82, .aload_n 1, 1), (83, .iload_n 2, 1), (84, .iload 4, 2), (86, .iload 5, 2), (88, .invokestatic 31, 3), (91, .goto 23, 3), (94, .iload 4, 2), (96, .ifCond .ne 12, 3), (99, .aload_n 0, 1), (100, .aload_n 1, 1), (101, .iload_n 2, 1), (102, .invokestatic 35, 3), (105, .goto 9, 3), (108, .aload_n 0, 1), (109, .aload_n 1, 1), (110, .iload_n 2, 1), (111, .invokestatic 38, 3), (114, .return_, 1)]
theorem kd7_put_ok : ∀ q ∈ kd7_put, decode prog_9_method_2_code q.1 = .ok q.2 := by decide +kernel
def kd7_putMarkup : List (Nat × Instr × Nat) := [(0, .iconst 0, 1), (1, .istore_n 3, 1), (2, .iload_n 3, 1), (3, .aload_n 1, 1), (4, .iload_n 2, 1), (5, .invokevirtual 41, 3), (8, .if_icmp .ge 104, 3), (11, .aload_n 1, 1), (12, .iload_n 2, 1), (13, .iload_n 3, 1), (14, .invokevirtual 47, 3), (17, .istore 4, 2), (19, .iload 4, 2), (21, .bipush 38, 2), (23, .if_icmp .ne 12, 3), (26, .aload_n 0, 1), (27, .ldc 51, 2), (29, .invokevirtual 21, 3), (32, .goto 74, 3), (35, .iload 4, 2), (37, .bipush 60, 2), (39, .if_icmp .ne 12, 3), (42, .aload_n 0, 1), (43, .ldc 53, 2), (45, .invokevirtual 21, 3), (48, .goto 58, 3), (51, .iload 4, 2), (53, .bipush 62, 2), (55, .if_icmp .ne 12, 3), (58, .aload_n 0, 1), (59, .ldc 55, 2), (61, .invokevirtual 21, 3), (64, .goto 42, 3), (67, .iload 4, 2), (69, .bipush 34, 2), (71, .if_icmp .ne 12, 3), (74, .aload_n 0, 1), (75, .ldc 57, 2), (77, .invokevirtual 21, 3), (80, .goto 26, 3), (83, .iload 4, 2), (85, .bipush 39, 2), (87, .if_icmp .ne 12, 3), (90, .aload_n 0, 1), (91, .ldc 59, 2), (93, .invokevirtual 21, 3), (96, .goto 10, 3), (99, .aload_n 0, 1), (100, .iload 4, 2), (102, .invokevirtual 61, 3), (105, .pop, 1), (106, .iinc 3 1, 3), (109, .goto (-107), 3), (112, .return_, 1)]
theorem kd7_putMarkup_ok : ∀ q ∈ kd7_putMarkup, decode prog_9_method_3_code q.1 = .ok q.2 := by decide +kernel
def kd7_putUrl : List (Nat × Instr × Nat) := [(0, .iconst 0, 1), (1, .istore 4, 2), (3, .iload 4, 2), (5, .aload_n 1, 1), (6, .iload_n 2, 1), (7, .invokevirtual 41, 3), (10, .if_icmp .ge 105, 3), (13, .aload_n 1, 1), (14, .iload_n 2, 1), (15, .iload 4, 2), (17, .invokevirtual 47, 3), (20, .istore 5, 2), (22, .iload 5, 2), (24, .invokestatic 65, 3), (27, .ifCond .ne 13, 3), (30, .ldc 70, 2), (32, .iload 5, 2), (34, .invokevirtual 72, 3), (37, .ifCond .lt 13, 3), (40, .aload_n 0, 1), (41, .iload 5, 2), (43, .invokevirtual 61, 3), (46, .pop, 1), (47, .goto 62, 3), (50, .iload_n 3, 1), (51, .iconst 2, 1), (52, .if_icmp .ge 23, 3), (55, .ldc 77, 2), (57, .iload 5, 2), (59, .invokevirtual 72, 3), (62, .ifCond .lt 13, 3), (65, .aload_n 0, 1), (66, .iload 5, 2), (68, .invokevirtual 61, 3), (71, .pop, 1), (72, .goto 37, 3), (75, .iload_n 3, 1), (76, .iconst 2, 1), (77, .if_icmp .ge 19, 3), (80, .iload 5, 2), (82, .bipush 38, 2), (84, .if_icmp .ne 12, 3), (87, .aload_n 0, 1), (88, .ldc 51, 2), (90, .invokevirtual 21, 3), (93, .goto 16, 3), (96, .aload_n 0, 1), (97, .bipush 37, 2), (99, .invokevirtual 61, 3), (102, .pop, 1), (103, .aload_n 0, 1), (104, .iload 5, 2), (106, .invokevirtual 79, 3), (109, .iinc 4 1, 3), (112, .goto (-109), 3), (115, .return_, 1)]
theorem kd7_putUrl_ok : ∀ q ∈ kd7_putUrl, decode prog_9_method_4_code q.1 = .ok q.2 := by decide +kernel
def kd7_hasForeignScheme : List (Nat × Instr × Nat) := [(0, .iconst 0, 1), (1, .istore_n 2, 1), (2, .iload_n 2, 1), (3, .aload_n 0, 1), (4, .iload_n 1, 1), (5, .invokevirtual 41, 3), (8, .if_icmp .ge 23, 3), (11, .ldc 83, 2), (13, .aload_n 0, 1), (14, .iload_n 1, 1), (15, .iload_n 2, 1), (16, .invokevirtual 47, 3), (19, .invokevirtual 72, 3), (22, .ifCond .ge 9, 3), (25, .iinc 2 1, 3), (28, .goto (-26), 3), (31, .aload_n 0, 1), (32, .iload_n 1, 1), (33, .iload_n 2, 1), (34, .invokevirtual 47, 3), (37, .bipush 58, 2), (39, .if_icmp .eq 5, 3), (42, .iconst 0, 1), (43, .ireturn, 1), (44, .aload_n 0, 1), (45, .iload_n 1, 1), (46, .iload_n 2, 1), (47, .ldc 85, 2), (49, .invokevirtual 87, 3), (52, .ifCond .ne 25, 3), (55, .aload_n 0, 1), (56, .iload_n 1, 1), (57, .iload_n 2, 1), (58, .ldc 91, 2), (60, .invokevirtual 87, 3), (63, .ifCond .ne 14, 3), (66, .aload_n 0, 1), (67, .iload_n 1, 1), (68, .iload_n 2, 1), (69, .ldc 93, 2), (71, .invokevirtual 87, 3), (74, .ifCond .eq 7, 3), (77, .iconst 1, 1), (78, .goto 4, 3), (81, .iconst 0, 1), (82, .istore_n 3, 1), (83, .iload_n 3, 1), (84, .ifCond .ne 7, 3), (87, .iconst 1, 1), (88, .goto 4, 3), (91, .iconst 0, 1), (92, .ireturn, 1)]
theorem kd7_hasForeignScheme_ok : ∀ q ∈ kd7_hasForeignScheme, decode prog_9_method_5_code q.1 = .ok q.2 := by decide +kernel
def kd7_staysInCode : List (Nat × Instr × Nat) := [(0, .iload_n 0, 1), (1, .invokestatic 65, 3), (4, .ifCond .ne 12, 3), (7, .ldc 95, 2), (9, .iload_n 0, 1), (10, .invokevirtual 72, 3), (13, .ifCond .lt 7, 3), (16, .iconst 1, 1), (17, .goto 4, 3), (20, .iconst 0, 1), (21, .ireturn, 1)]
theorem kd7_staysInCode_ok : ∀ q ∈ kd7_staysInCode, decode prog_9_method_6_code q.1 = .ok q.2 := by decide +kernel
def kd7_putScript : List (Nat × Instr × Nat) := [(0, .iload_n 3, 1), (1, .ifCond .eq 8, 3), (4, .ldc 97, 2), (6, .goto 15, 3), (9, .iload 4, 2), (11, .ifCond .eq 8, 3), (14, .ldc 57, 2), (16, .goto 5, 3), (19, .ldc 99, 2), (21, .astore 5, 2), (23, .aload_n 0, 1), (24, .aload 5, 2), (26, .invokevirtual 21, 3), (29, .iconst 0, 1), (30, .istore 6, 2), (32, .iload 6, 2), (34, .aload_n 1, 1), (35, .iload_n 2, 1), (36, .invokevirtual 41, 3), (39, .if_icmp .ge 48, 3), (42, .aload_n 1, 1), (43, .iload_n 2, 1), (44, .iload 6, 2), (46, .invokevirtual 47, 3), (49, .istore 7, 2), (51, .iload 7, 2), (53, .invokestatic 101, 3), (56, .ifCond .eq 13, 3), (59, .aload_n 0, 1), (60, .iload 7, 2), (62, .invokevirtual 61, 3), (65, .pop, 1), (66, .goto 15, 3), (69, .aload_n 0, 1), (70, .ldc 104, 2), (72, .invokevirtual 21, 3), (75, .aload_n 0, 1), (76, .iload 7, 2), (78, .invokevirtual 79, 3), (81, .iinc 6 1, 3), (84, .goto (-52), 3), (87, .aload_n 0, 1), (88, .aload 5, 2), (90, .invokevirtual 21, 3), (93, .return_, 1)]
theorem kd7_putScript_ok : ∀ q ∈ kd7_putScript, decode prog_9_method_7_code q.1 = .ok q.2 := by decide +kernel
def kd7_putStyleString : List (Nat × Instr × Nat) := [(0, .iconst 0, 1), (1, .istore_n 3, 1), (2, .iload_n 3, 1), (3, .aload_n 1, 1), (4, .iload_n 2, 1), (5, .invokevirtual 41, 3), (8, .if_icmp .ge 55, 3), (11, .aload_n 1, 1), (12, .iload_n 2, 1), (13, .iload_n 3, 1), (14, .invokevirtual 47, 3), (17, .istore 4, 2), (19, .iload 4, 2), (21, .invokestatic 101, 3), (24, .ifCond .eq 13, 3), (27, .aload_n 0, 1), (28, .iload 4, 2), (30, .invokevirtual 61, 3), (33, .pop, 1), (34, .goto 23, 3), (37, .aload_n 0, 1), (38, .bipush 92, 2), (40, .invokevirtual 61, 3), (43, .pop, 1), (44, .aload_n 0, 1), (45, .iload 4, 2), (47, .invokevirtual 79, 3), (50, .aload_n 0, 1), (51, .bipush 32, 2), (53, .invokevirtual 61, 3), (56, .pop, 1), (57, .iinc 3 1, 3), (60, .goto (-58), 3), (63, .return_, 1)]
theorem kd7_putStyleString_ok : ∀ q ∈ kd7_putStyleString, decode prog_9_method_8_code q.1 = .ok q.2 := by decide +kernel
def kd7_putBareStyle : List (Nat × Instr × Nat) := [(0, .aload_n 1, 1), (1, .iload_n 2, 1), (2, .invokestatic 106, 3), (5, .ifCond .ne 10, 3), (8, .aload_n 0, 1), (9, .ldc 109, 2), (11, .invokevirtual 21, 3), (14, .return_, 1), (15, .iconst 0, 1), (16, .istore_n 3, 1), (17, .iload_n 3, 1), (18, .aload_n 1, 1), (19, .iload_n 2, 1), (20, .invokevirtual 41, 3), (23, .if_icmp .ge 20, 3), (26, .aload_n 0, 1), (27, .aload_n 1, 1), (28, .iload_n 2, 1), (29, .iload_n 3, 1), (30, .invokevirtual 47, 3), (33, .invokevirtual 61, 3), (36, .pop, 1), (37, .iinc 3 1, 3), (40, .goto (-23), 3), (43, .return_, 1)]
theorem kd7_putBareStyle_ok : ∀ q ∈ kd7_putBareStyle, decode prog_9_method_9_code q.1 = .ok q.2 := by decide +kernel
def kd7_isStyleWord : List (Nat × Instr × Nat) := [(0, .aload_n 0, 1), (1, .iload_n 1, 1), (2, .invokevirtual 41, 3), (5, .ifCond .le 7, 3), (8, .iconst 1, 1), (9, .goto 4, 3), (12, .iconst 0, 1), (13, .istore_n 2, 1), (14, .iconst 0, 1), (15, .istore_n 3, 1), (16, .iload_n 3, 1), (17, .aload_n 0, 1), (18, .iload_n 1, 1), (19, .invokevirtual 41, 3), (22, .if_icmp .ge 45, 3), (25, .iload_n 2, 1), (26, .ifCond .eq 41, 3), (29, .aload_n 0, 1), (30, .iload_n 1, 1), (31, .iload_n 3, 1), (32, .invokevirtual 47, 3), (35, .istore 4, 2), (37, .iload 4, 2), (39, .invokestatic 65, 3), (42, .ifCond .ne 13, 3), (45, .ldc 111, 2), (47, .iload 4, 2), (49, .invokevirtual 72, 3), (52, .ifCond .lt 7, 3), (55, .iconst 1, 1), (56, .goto 4, 3), (59, .iconst 0, 1), (60, .istore_n 2, 1), (61, .iinc 3 1, 3), (64, .goto (-48), 3), (67, .iload_n 2, 1), (68, .ireturn, 1)]
theorem kd7_isStyleWord_ok : ∀ q ∈ kd7_isStyleWord, decode prog_9_method_10_code q.1 = .ok q.2 := by decide +kernel
def kd8_init : List (Nat × Instr × Nat) := [(0, .aload_n 0, 1), (1, .invokespecial 3, 3), (4, .aload_n 0, 1), (5, .new 9, 3), (8, .dup, 1), (9, .sipush 1000, 3), (12, .invokespecial 11, 3), (15, .putfield 14, 3), (18, .return_, 1)]
theorem kd8_init_ok : ∀ q ∈ kd8_init, decode prog_10_method_1_code q.1 = .ok q.2 := by decide +kernel
def kd8_fill : List (Nat × Instr × Nat) := [(0, .aload_n 0, 1), (1, .getfield 14, 3), (4, .invokevirtual 20, 3), (7, .pop, 1), (8, .aload_n 0, 1), (9, .aload_n 1, 1), (10, .aload_n 2, 1), (11, .iconst 0, 1), (12, .aload_n 1, 1), (13, .getfield 24, 3), (16, .iconst 0, 1), (17, .invokevirtual 30, 3), (20, .aload_n 0, 1), (21, .getfield 14, 3), (24, .getfield 34, 3), (27, .ifCond .eq 13, 3), (30, .aload_n 0, 1), (31, .getfield 14, 3), (34, .invokevirtual 20, 3), (37, .pop, 1), (38, .iconst 0, 1), (39, .ireturn, 1), (40, .iconst 1, 1), (41, .ireturn, 1)]
theorem kd8_fill_ok : ∀ q ∈ kd8_fill, decode prog_10_method_2_code q.1 = .ok q.2 := by decide +kernel
def kd8_span : List (Nat × Instr × Nat) := [(0, .iload 5, 2), (2, .bipush 6, 2), (4, .if_icmp .le 4, 3), (7, .return_, 1), (8, .iload_n 3, 1), (9, .istore 6, 2), (11, .iload 6, 2), (13, .iload 4, 2), (15, .if_icmp .ge 137, 3), (18, .aload_n 0, 1), (19, .getfield 14, 3), (22, .getfield 34, 3), (25, .ifCond .ne 127, 3), (28, .aload_n 1, 1), (29, .iload 6, 2), (31, .invokevirtual 38, 3), (34, .tableswitch 100 1 4 #[30, 47, 74, 87], 30), (64, .aload_n 0, 1), (65, .getfield 14, 3), (68, .aload_n 1, 1), (69, .iload 6, 2), (71, .invokevirtual 42, 3), (74, .invokevirtual 46, 3), (77, .pop, 1), (78, .goto 56, 3), (81, .aload_n 0, 1), (82, .getfield 14, 3), (85, .aload_n 2, 1), (86, .aload_n 2, 1), (87, .aload_n 1, 1), (88, .iload 6, 2), (90, .invokevirtual 50, 3), (93, .invokevirtual 53, 3), (96, .aload_n 1, 1), (97, .iload 6, 2), (99, .invokevirtual 58, 3), (102, .invokestatic 61, 3), (105, .goto 29, 3), (108, .aload_n 0, 1), (109, .aload_n 1, 1), (110, .aload_n 2, 1), (111, .iload 6, 2), (113, .iload 5, 2), (115, .invokevirtual 66, 3), (118, .goto 16, 3), (121, .aload_n 0, 1), (122, .aload_n 1, 1), (123, .aload_n 2, 1), (124, .iload 6, 2), (126, .iload 5, 2), (128, .invokevirtual 70, 3), (131, .goto 3, 3), (134, .aload_n 1, 1), (135, .iload 6, 2), (137, .invokevirtual 73, 3), (140, .iload 6, 2), (142, .invokestatic 76, 3), (145, .iconst 1, 1), (146, .iadd, 1), (147, .istore 6, 2), (149, .goto (-138), 3), (152, .return_, 1)]
theorem kd8_span_ok : ∀ q ∈ kd8_span, decode prog_10_method_3_code q.1 = .ok q.2 := by decide +kernel
def kd8_choice : List (Nat × Instr × Nat) := [(0, .aload_n 2, 1), (1, .aload_n 2, 1), (2, .aload_n 1, 1), (3, .iload_n 3, 1), (4, .invokevirtual 50, 3), (7, .invokevirtual 53, 3), (10, .invokevirtual 82, 3), (13, .ifCond .le 24, 3), (16, .aload_n 0, 1), (17, .aload_n 1, 1), (18, .aload_n 2, 1), (19, .iload_n 3, 1), (20, .iconst 1, 1), (21, .iadd, 1), (22, .aload_n 1, 1), (23, .iload_n 3, 1), (24, .invokevirtual 85, 3), (27, .iload 4, 2), (29, .iconst 1, 1), (30, .iadd, 1), (31, .invokevirtual 30, 3), (34, .goto 25, 3), (37, .aload_n 0, 1), (38, .aload_n 1, 1), (39, .aload_n 2, 1), (40, .aload_n 1, 1), (41, .iload_n 3, 1), (42, .invokevirtual 85, 3), (45, .iconst 1, 1), (46, .iadd, 1), (47, .aload_n 1, 1), (48, .iload_n 3, 1), (49, .invokevirtual 73, 3), (52, .iload 4, 2), (54, .iconst 1, 1), (55, .iadd, 1), (56, .invokevirtual 30, 3), (59, .return_, 1)]
theorem kd8_choice_ok : ∀ q ∈ kd8_choice, decode prog_10_method_4_code q.1 = .ok q.2 := by decide +kernel
def kd8_loop : List (Nat × Instr × Nat) := [(0, .aload_n 1, 1), (1, .iload_n 3, 1), (2, .invokevirtual 50, 3), (5, .istore 5, 2), (7, .aload_n 2, 1), (8, .iload 5, 2), (10, .invokevirtual 88, 3), (13, .istore 6, 2), (15, .aload_n 2, 1), (16, .iload 5, 2), (18, .invokevirtual 91, 3), (21, .istore 7, 2), (23, .aload_n 2, 1), (24, .iload 5, 2), (26, .invokevirtual 94, 3), (29, .istore 8, 2), (31, .iload 8, 2), (33, .iload 7, 2), (35, .if_icmp .ge 35, 3), (38, .aload_n 2, 1), (39, .iload 5, 2), (41, .iload 8, 2), (43, .invokevirtual 97, 3), (46, .aload_n 0, 1), (47, .aload_n 1, 1), (48, .aload_n 2, 1), (49, .iload_n 3, 1), (50, .iconst 1, 1), (51, .iadd, 1), (52, .aload_n 1, 1), (53, .iload_n 3, 1), (54, .invokevirtual 73, 3), (57, .iload 4, 2), (59, .iconst 1, 1), (60, .iadd, 1), (61, .invokevirtual 30, 3), (64, .iinc 8 1, 3), (67, .goto (-36), 3), (70, .aload_n 2, 1), (71, .iload 5, 2), (73, .iload 6, 2), (75, .invokevirtual 97, 3), (78, .return_, 1)]
theorem kd8_loop_ok : ∀ q ∈ kd8_loop, decode prog_10_method_5_code q.1 = .ok q.2 := by decide +kernel
def kd9_init : List (Nat × Instr × Nat) := [(0, .aload_n 0, 1), (1, .invokespecial 1, 3), (4, .aload_n 0, 1), (5, .new 7, 3), (8, .dup, 1), (9, .bipush 40, 2), (11, .invokespecial 11, 3), (14, .putfield 14, 3), (17, .aload_n 0, 1), (18, .new 7, 3), (21, .dup, 1), (22, .sipush 240, 3), (25, .invokespecial 11, 3), (28, .putfield 18, 3), (31, .aload_n 0, 1), (32, .new 21, 3), (35, .dup, 1), (36, .invokespecial 23, 3), (39, .putfield 24, 3), (42, .aload_n 0, 1), (43, .new 28, 3), (46, .dup, 1), (47, .invokespecial 30, 3), (50, .putfield 31, 3), (53, .aload_n 0, 1), (54, .new 35, 3), (57, .dup, 1), (58, .invokespecial 37, 3), (61, .putfield 38, 3), (64, .return_, 1)]
theorem kd9_init_ok : ∀ q ∈ kd9_init, decode prog_1_method_1_code q.1 = .ok q.2 := by decide +kernel
def kd9_type : List (Nat × Instr × Nat) := [(0, .iload_n 1, 1), (1, .invokestatic 42, 3), (4, .ifCond .eq 18, 3), (7, .aload_n 0, 1), (8, .getfield 14, 3), (11, .iload_n 1, 1), (12, .invokevirtual 48, 3), (15, .ifCond .eq 7, 3), (18, .iconst 1, 1), (19, .goto 4, 3), (22, .iconst 0, 1), (23, .ireturn, 1)]
theorem kd9_type_ok : ∀ q ∈ kd9_type, decode prog_1_method_2_code q.1 = .ok q.2 := by decide +kernel
def kd9_wipe : List (Nat × Instr × Nat) := [(0, .aload_n 0, 1), (1, .getfield 14, 3), (4, .invokevirtual 51, 3), (7, .ireturn, 1)]
theorem kd9_wipe_ok : ∀ q ∈ kd9_wipe, decode prog_1_method_3_code q.1 = .ok q.2 := by decide +kernel
def kd9_add : List (Nat × Instr × Nat) := [(0, .aload_n 0, 1), (1, .getfield 18, 3), (4, .getfield 55, 3), (7, .aload_n 0, 1), (8, .getfield 14, 3), (11, .getfield 55, 3), (14, .iadd, 1), (15, .sipush 240, 3), (18, .if_icmp .le 13, 3), (21, .new 59, 3), (24, .dup, 1), (25, .ldc 61, 2), (27, .invokespecial 63, 3), (30, .athrow, 1), (31, .iconst 0, 1), (32, .istore_n 1, 1), (33, .iload_n 1, 1), (34, .aload_n 0, 1), (35, .getfield 14, 3), (38, .getfield 55, 3), (41, .if_icmp .ge 25, 3), (44, .aload_n 0, 1), (45, .getfield 18, 3), (48, .aload_n 0, 1), (49, .getfield 14, 3), (52, .iload_n 1, 1), (53, .invokevirtual 66, 3), (56, .invokevirtual 48, 3), (59, .pop, 1), (60, .iinc 1 1, 3), (63, .goto (-30), 3), (66, .aload_n 0, 1), (67, .getfield 14, 3), (70, .invokevirtual 51, 3), (73, .pop, 1), (74, .aload_n 0, 1), (75, .getfield 31, 3), (78, .iconst 0, 1), (79, .putfield 70, 3), (82, .aload_n 0, 1), (83, .getfield 18, 3), (86, .getfield 55, 3), (89, .ireturn, 1)]
theorem kd9_add_ok : ∀ q ∈ kd9_add, decode prog_1_method_4_code q.1 = .ok q.2 := by decide +kernel
def kd9_clear : List (Nat × Instr × Nat) := [(0, .aload_n 0, 1), (1, .getfield 31, 3), (4, .iconst 0, 1), (5, .putfield 70, 3), (8, .aload_n 0, 1), (9, .getfield 18, 3), (12, .invokevirtual 51, 3), (15, .ireturn, 1)]
theorem kd9_clear_ok : ∀ q ∈ kd9_clear, decode prog_1_method_5_code q.1 = .ok q.2 := by decide +kernel
def kd9_compile : List (Nat × Instr × Nat) := [(0, .aload_n 0, 1), (1, .getfield 31, 3), (4, .aload_n 0, 1), (5, .getfield 18, 3), (8, .invokevirtual 74, 3), (11, .ifCond .ne 13, 3), (14, .new 78, 3), (17, .dup, 1), (18, .ldc 80, 2), (20, .invokespecial 82, 3), (23, .athrow, 1), (24, .aload_n 0, 1), (25, .getfield 31, 3), (28, .getfield 83, 3), (31, .ireturn, 1)]
theorem kd9_compile_ok : ∀ q ∈ kd9_compile, decode prog_1_method_6_code q.1 = .ok q.2 := by decide +kernel
def kd9_accepts : List (Nat × Instr × Nat) := [(0, .aload_n 0, 1), (1, .getfield 31, 3), (4, .aload_n 0, 1), (5, .getfield 18, 3), (8, .invokevirtual 74, 3), (11, .ireturn, 1)]
theorem kd9_accepts_ok : ∀ q ∈ kd9_accepts, decode prog_1_method_7_code q.1 = .ok q.2 := by decide +kernel
def kd9_fault : List (Nat × Instr × Nat) := [(0, .aload_n 0, 1), (1, .getfield 31, 3), (4, .getfield 86, 3), (7, .ireturn, 1)]
theorem kd9_fault_ok : ∀ q ∈ kd9_fault, decode prog_1_method_8_code q.1 = .ok q.2 := by decide +kernel
def kd9_hole : List (Nat × Instr × Nat) := [(0, .aload_n 0, 1), (1, .getfield 31, 3), (4, .iload_n 1, 1), (5, .invokevirtual 89, 3), (8, .ireturn, 1)]
theorem kd9_hole_ok : ∀ q ∈ kd9_hole, decode prog_1_method_9_code q.1 = .ok q.2 := by decide +kernel
def kd9_item : List (Nat × Instr × Nat) := [(0, .aload_n 0, 1), (1, .getfield 24, 3), (4, .iload_n 1, 1), (5, .invokevirtual 93, 3), (8, .ifCond .ne 13, 3), (11, .new 97, 3), (14, .dup, 1), (15, .ldc 99, 2), (17, .invokespecial 101, 3), (20, .athrow, 1), (21, .aload_n 0, 1), (22, .getfield 24, 3), (25, .iload_n 1, 1), (26, .aload_n 0, 1), (27, .getfield 14, 3), (30, .invokevirtual 102, 3), (33, .ifCond .ne 13, 3), (36, .new 59, 3), (39, .dup, 1), (40, .ldc 106, 2), (42, .invokespecial 63, 3), (45, .athrow, 1), (46, .aload_n 0, 1), (47, .getfield 14, 3), (50, .invokevirtual 51, 3), (53, .pop, 1), (54, .aload_n 0, 1), (55, .getfield 24, 3), (58, .iload_n 1, 1), (59, .invokevirtual 108, 3), (62, .ireturn, 1)]
theorem kd9_item_ok : ∀ q ∈ kd9_item, decode prog_1_method_10_code q.1 = .ok q.2 := by decide +kernel
def kd9_forget : List (Nat × Instr × Nat) := [(0, .aload_n 0, 1), (1, .getfield 24, 3), (4, .iload_n 1, 1), (5, .invokevirtual 93, 3), (8, .ifCond .ne 13, 3), (11, .new 97, 3), (14, .dup, 1), (15, .ldc 99, 2), (17, .invokespecial 101, 3), (20, .athrow, 1), (21, .aload_n 0, 1), (22, .getfield 24, 3), (25, .iload_n 1, 1), (26, .invokevirtual 111, 3), (29, .ireturn, 1)]
theorem kd9_forget_ok : ∀ q ∈ kd9_forget, decode prog_1_method_11_code q.1 = .ok q.2 := by decide +kernel
def kd9_write : List (Nat × Instr × Nat) := [(0, .aload_n 0, 1), (1, .getfield 31, 3), (4, .getfield 70, 3), (7, .ifCond .ne 13, 3), (10, .new 114, 3), (13, .dup, 1), (14, .ldc 116, 2), (16, .invokespecial 118, 3), (19, .athrow, 1), (20, .aload_n 0, 1), (21, .getfield 38, 3), (24, .aload_n 0, 1), (25, .getfield 31, 3), (28, .getfield 119, 3), (31, .aload_n 0, 1), (32, .getfield 24, 3), (35, .invokevirtual 123, 3), (38, .ifCond .ne 13, 3), (41, .new 59, 3), (44, .dup, 1), (45, .ldc 127, 2), (47, .invokespecial 63, 3), (50, .athrow, 1), (51, .aload_n 0, 1), (52, .getfield 38, 3), (55, .getfield 129, 3), (58, .getfield 55, 3), (61, .ireturn, 1)]
theorem kd9_write_ok : ∀ q ∈ kd9_write, decode prog_1_method_12_code q.1 = .ok q.2 := by decide +kernel
def kd9_written : List (Nat × Instr × Nat) := [(0, .aload_n 0, 1), (1, .getfield 38, 3), (4, .getfield 129, 3), (7, .getfield 55, 3), (10, .ireturn, 1)]
theorem kd9_written_ok : ∀ q ∈ kd9_written, decode prog_1_method_13_code q.1 = .ok q.2 := by decide +kernel
def kd9_letter : List (Nat × Instr × Nat) := [(0, .aload_n 0, 1), (1, .getfield 38, 3), (4, .getfield 129, 3), (7, .iload_n 1, 1), (8, .invokevirtual 66, 3), (11, .ireturn, 1)]
theorem kd9_letter_ok : ∀ q ∈ kd9_letter, decode prog_1_method_14_code q.1 = .ok q.2 := by decide +kernel
end
section
/-! AN ABSTRACT MACHINE. Its values are ints, places of the world, and things outside it (0 null, k + 1 the k-th constant). Its world is a list of cells: arrays of ints (type, length, contents) and objects (class number, fields). A method is run on it by evaluation; what it does there, the JVM does. -/
abbrev am_V : Type := Int32 ⊕ (Nat ⊕ Nat)
abbrev am_C : Type := (Nat × Nat × (Nat → Int32)) ⊕ (Nat × List am_V)
/-- pc, local variables, operand stack, world, cells made, slots made -/
abbrev am_S : Type := Nat × List (Option am_V) × List am_V × List am_C × Nat × Nat
/-- an end: the answer, the world -/
abbrev am_Z : Type := Option am_V × List am_C
/-- a method's meaning: arguments and world, to answer, world, cells made, slots made -/
abbrev am_M : Type := List am_V → List am_C → Option am_V × List am_C × Nat × Nat
def am_v (ad ou : Nat → Nat) (v : am_V) : Value := match v with
  | .inl x => .int x
  | .inr (.inl k) => .ref (ad k)
  | .inr (.inr 0) => .null
  | .inr (.inr (k + 1)) => .ref (ou k)
/-- an array's contents: of type 4 (long) those that ints give -/
def am_c (t : Nat) (f : Nat → Int32) : (Nat → Int32) ⊕ (Nat → Int64) ⊕ (Nat → UInt32) ⊕ (Nat → UInt64) ⊕ (Nat → Option Nat) := match t with
  | 4 => .inr (.inl (fun i => (f i).toInt64))
  | _ => .inl f
def am_e (ad ou : Nat → Nat) (ca : Nat → ClassId) (x : am_C) : va_E := match x with
  | .inl (t, n, f) => .inl (ca t, n, am_c t f)
  | .inr (c, fs) => .inr (c, fs.map (am_v ad ou))
def am_w (ad ou : Nat → Nat) (ca : Nat → ClassId) (w : List am_C) : va_W := w.mapIdx (fun k x => (ad k, am_e ad ou ca x))
def am_l (ad ou : Nat → Nat) (L : List (Option am_V)) : List (Nat × Value) := L.zipIdx.filterMap (fun q => q.1.map (fun v => (q.2, am_v ad ou v)))
theorem am_cat (ad ou : Nat → Nat) (v : am_V) : (am_v ad ou v).category = 1 := by
  rcases v with x | k | k
  · rfl
  · rfl
  · cases k <;> rfl
theorem am_w_get {ad ou : Nat → Nat} {ca : Nat → ClassId} {w : List am_C} {k : Nat} {x : am_C} (h : w[k]? = some x) : (am_w ad ou ca w)[k]? = some (ad k, am_e ad ou ca x) := by
  simp [am_w, List.getElem?_mapIdx, h]
theorem am_w_inv {ad ou : Nat → Nat} {ca : Nat → ClassId} {w : List am_C} {k : Nat} {q : Nat × va_E} (h : (am_w ad ou ca w)[k]? = some q) : ∃ x, w[k]? = some x ∧ q = (ad k, am_e ad ou ca x) := by
  simp only [am_w, List.getElem?_mapIdx, Option.map_eq_some_iff] at h
  obtain ⟨x, h1, h2⟩ := h
  exact ⟨x, h1, h2.symm⟩
theorem am_w_len (ad ou : Nat → Nat) (ca : Nat → ClassId) (w : List am_C) : (am_w ad ou ca w).length = w.length := by simp [am_w]
theorem am_w_set (ad ou : Nat → Nat) (ca : Nat → ClassId) (w : List am_C) (k : Nat) (x : am_C) : am_w ad ou ca (w.set k x) = (am_w ad ou ca w).set k (ad k, am_e ad ou ca x) := by
  apply List.ext_getElem?
  intro i
  by_cases h : k = i
  · subst h
    by_cases h2 : k < w.length
    · simp [am_w, List.getElem?_mapIdx, List.getElem?_set, h2]
    · simp [am_w, List.getElem?_mapIdx, List.getElem?_set, h2]
  · simp [am_w, List.getElem?_mapIdx, List.getElem?_set, h]
theorem am_w_push (ad ou : Nat → Nat) (ca : Nat → ClassId) (w : List am_C) (x : am_C) : am_w ad ou ca (w ++ [x]) = am_w ad ou ca w ++ [(ad w.length, am_e ad ou ca x)] := by
  simp [am_w, List.mapIdx_append]
theorem am_l_mem {ad ou : Nat → Nat} {L : List (Option am_V)} {i : Nat} {v : Value} : (i, v) ∈ am_l ad ou L ↔ ∃ u, L[i]? = some (some u) ∧ am_v ad ou u = v := by
  simp only [am_l, List.mem_filterMap]
  constructor
  · rintro ⟨⟨o, j⟩, h1, h2⟩
    have h3 := List.mk_mem_zipIdx_iff_getElem?.mp h1
    cases o with
    | none => cases h2
    | some u =>
      have h4 : (j, am_v ad ou u) = (i, v) := Option.some.inj h2
      cases h4
      exact ⟨u, h3, rfl⟩
  · rintro ⟨u, h1, rfl⟩
    exact ⟨(some u, i), List.mk_mem_zipIdx_iff_getElem?.mpr h1, rfl⟩
theorem am_l_at {ad ou : Nat → Nat} {L : List (Option am_V)} {ls : Array Slot} {nL i : Nat} {u : am_V} (h : lv_has ls nL (am_l ad ou L)) (hu : L[i]? = some (some u)) : ls[i]? = some (.val (am_v ad ou u)) := h.2.2 (i, _) (am_l_mem.mpr ⟨u, hu, rfl⟩)
theorem am_l_set {ad ou : Nat → Nat} {L : List (Option am_V)} {ls : Array Slot} {nL i : Nat} {u : am_V} (h : lv_has ls nL ((i, am_v ad ou u) :: (am_l ad ou L).filter (fun q => !(q.1 == i) && !(q.1 + 1 == i && q.2.category == 2)))) : lv_has ls nL (am_l ad ou (L.set i (some u))) := by
  refine ⟨h.1, h.2.1, ?_⟩
  rintro ⟨j, v⟩ hq
  obtain ⟨u', h1, rfl⟩ := am_l_mem.mp hq
  apply h.2.2 (j, _)
  by_cases hj : i = j
  · subst hj
    rw [List.getElem?_set] at h1
    simp only [if_true] at h1
    split at h1
    · have h2 : u = u' := Option.some.inj (Option.some.inj h1)
      subst h2
      exact List.mem_cons_self
    · cases h1
  · rw [List.getElem?_set_ne hj] at h1
    refine List.mem_cons_of_mem _ (List.mem_filter.mpr ⟨am_l_mem.mpr ⟨u', h1, rfl⟩, ?_⟩)
    have h2 : ¬ j = i := fun q => hj q.symm
    simp [am_cat, h2]
/-- array types -/
def am_ty (t : Nat) : FieldType := match t with
  | 0 => .int
  | 1 => .char
  | 2 => .boolean
  | 3 => .byte
  | _ => .long
/-- what a field, or an answer, of this type takes as it is -/
def am_fit (ty : FieldType) (v : am_V) : Bool := match ty, v with
  | .int, .inl _ => true
  | .boolean, .inl x => x == 0 || x == 1
  | .byte, .inl x => x == 0
  | .char, .inl x => 0 ≤ x && x ≤ 65535
  | .object _, .inr _ => true
  | .array _, .inr _ => true
  | _, _ => false
theorem am_fit_ok {ty : FieldType} {v : am_V} (ad ou : Nat → Nat) (h : am_fit ty v = true) : narrow ty (am_v ad ou v) = am_v ad ou v ∧ fits ty (am_v ad ou v) = true := by
  rcases v with x | r
  · cases ty with
    | int => exact ⟨rfl, rfl⟩
    | boolean =>
      have h1 : x = 0 ∨ x = 1 := by simpa [am_fit] using h
      rcases h1 with rfl | rfl
      · exact ⟨rfl, rfl⟩
      · exact ⟨rfl, rfl⟩
    | byte =>
      have h1 : x = 0 := by simpa [am_fit] using h
      subst h1
      exact ⟨rfl, rfl⟩
    | char =>
      have h1 : 0 ≤ x ∧ x ≤ 65535 := by simpa [am_fit] using h
      obtain ⟨q, hq, rfl⟩ := nI_of2 (x := x) (M := 65535) (n := 65535) (by decide) (Int32.not_lt.mpr h1.1) h1.2
      exact pk_charN (by omega)
    | _ => simp [am_fit] at h
  · cases ty with
    | object n =>
      rcases r with k | k
      · exact ⟨rfl, rfl⟩
      · cases k <;> exact ⟨rfl, rfl⟩
    | array n =>
      rcases r with k | k
      · exact ⟨rfl, rfl⟩
      · cases k <;> exact ⟨rfl, rfl⟩
    | _ => simp [am_fit] at h
/-! the machine's tables of one method: code; fields by pool index (class number, field, 0 own or visible / 1 a nest mate's / 2 final in a constructor); the field types; classes by pool index (class number, first values); constants by pool index; calls by pc (the places that go to the callee, or none: all, as they are; how many arguments, the receiver counted; what the callee asks; its meaning); arrays outside (type, length, contents); how many array types there are; local variables; the cells, slots that may be made; the world's length at the start; the answer's type -/
abbrev am_T : Type := List (Nat × Instr × Nat) × (Nat → Option (Nat × Nat × Nat)) × (Nat → Nat → FieldType) × (Nat → Option (Nat × List am_V)) × (Nat → Option am_V) × (Nat → Option (Option (List Nat) × Nat × (List am_V → List am_C → Prop) × am_M)) × (Nat → Option (Nat × Nat × (Nat → Int32))) × Nat × Nat × Nat × Nat × Nat × Option FieldType
def am_at (code : List (Nat × Instr × Nat)) (pc : Nat) : Option (Instr × Nat) := match code with
  | [] => none
  | q :: r => bif q.1 == pc then some q.2 else am_at r pc
theorem am_at_mem {code : List (Nat × Instr × Nat)} {pc : Nat} {x : Instr × Nat} (h : am_at code pc = some x) : (pc, x) ∈ code := by
  induction code with
  | nil => cases h
  | cons q r ih =>
    unfold am_at at h
    cases hq : q.1 == pc with
    | true =>
      rw [hq] at h
      have h1 : q.2 = x := Option.some.inj h
      have h2 : q.1 = pc := by simpa using hq
      rw [← h1, ← h2]
      exact List.mem_cons_self
    | false =>
      rw [hq] at h
      exact List.mem_cons_of_mem _ (ih h)
/-- the target of a jump -/
def am_tg (pc : Nat) (off : Int) : Nat := ((pc : Int) + off).toNat
def am_ok0 (pc : Nat) (off : Int) : Bool := decide (0 ≤ (pc : Int) + off)
theorem am_tg_ok {pc : Nat} {off : Int} (h : am_ok0 pc off = true) : (pc : Int) + off = (am_tg pc off : Int) := by
  have h1 : 0 ≤ (pc : Int) + off := of_decide_eq_true h
  exact (Int.toNat_of_nonneg h1).symm
def am_g (L : List (Option am_V)) (i : Nat) : Option am_V := match L[i]? with
  | some (some v) => some v
  | _ => none
theorem am_g_ok {L : List (Option am_V)} {i : Nat} {v : am_V} (h : am_g L i = some v) : L[i]? = some (some v) := by
  unfold am_g at h
  split at h
  · rename_i u hu
    rw [hu, Option.some.inj h]
  · cases h
end
section
/-! the machine's step, in the style of what comes behind it: kt -/
/-- a test that evaluation alone does not decide -/
def am_chk (b : Bool) (x : Option am_Z) : Option am_Z := if b = true then x else none
/-- the same, of a test that is to be met by a row of its own -/
noncomputable def am_chq (b : Bool) (x : Option am_Z) : Option am_Z := @ite _ (b = true) (Classical.propDecidable _) x none
def am_fic (ty : FieldType) (v : am_V) (x : Option am_Z) : Option am_Z := match ty with
  | .boolean => am_chk (am_fit .boolean v) x
  | .char => am_chk (am_fit .char v) x
  | ty => bif am_fit ty v then x else none
section AMDO
variable (T : am_T) (len pc : Nat) (L : List (Option am_V)) (S : List am_V) (w : List am_C) (k j : Nat) (kt : am_S → Option am_Z)
def am_nx (want : Nat) (L : List (Option am_V)) (S : List am_V) (w : List am_C) (k j : Nat) : Option am_Z := bif len == want then kt (pc + want, L, S, w, k, j) else none
/-- a world is handed on: a place to halt at -/
noncomputable def am_sx (want : Nat) (L : List (Option am_V)) (S : List am_V) (w : List am_C) (k j : Nat) : Option am_Z := @ite _ (w = w) (Classical.propDecidable _) (am_nx len pc kt want L S w k j) none
def am_jp (off : Int) (S : List am_V) : Option am_Z := bif len == 3 && am_ok0 pc off then kt (am_tg pc off, L, S, w, k, j) else none
def am_ild (want i : Nat) : Option am_Z := match am_g L i with
  | some (.inl v) => am_nx len pc kt want L (.inl v :: S) w k j
  | _ => none
def am_ald (want i : Nat) : Option am_Z := match am_g L i with
  | some (.inr v) => am_nx len pc kt want L (.inr v :: S) w k j
  | _ => none
def am_nl (T : am_T) : Nat := T.2.2.2.2.2.2.2.2.1
def am_ist (want i : Nat) : Option am_Z := match S with
  | .inl v :: S => bif Nat.blt i (am_nl T) then am_nx len pc kt want (L.set i (some (.inl v))) S w k j else none
  | _ => none
def am_ast (want i : Nat) : Option am_Z := match S with
  | .inr v :: S => bif Nat.blt i (am_nl T) then am_nx len pc kt want (L.set i (some (.inr v))) S w k j else none
  | _ => none
def am_inc (i : Nat) (n : Int) : Option am_Z := match am_g L i with
  | some (.inl v) => bif Nat.blt i (am_nl T) then am_nx len pc kt 3 (L.set i (some (.inl (v + Int32.ofInt n)))) S w k j else none
  | _ => none
def am_psh (want : Nat) (v : am_V) : Option am_Z := am_nx len pc kt want L (v :: S) w k j
def am_bin (f : Int32 → Int32 → Int32) : Option am_Z := match S with
  | .inl y :: .inl x :: S => am_nx len pc kt 1 L (.inl (f x y) :: S) w k j
  | _ => none
def am_div (f : Int32 → Int32 → Int32) : Option am_Z := match S with
  | .inl y :: .inl x :: S => if y = 0 then none else am_nx len pc kt 1 L (.inl (f x y) :: S) w k j
  | _ => none
def am_un (f : Int32 → Int32) : Option am_Z := match S with
  | .inl x :: S => am_nx len pc kt 1 L (.inl (f x) :: S) w k j
  | _ => none
def am_stk (f : List am_V → Option (List am_V)) : Option am_Z := match f S with
  | some S => am_nx len pc kt 1 L S w k j
  | none => none
def am_ifz (c : ClassFile.Cond) (off : Int) : Option am_Z := match S with
  | .inl x :: S => bif am_ok0 pc off && len == 3 then (match c with
    | .eq => if x = 0 then am_jp len pc L w k j kt off S else am_nx len pc kt 3 L S w k j
    | .ne => if x = 0 then am_nx len pc kt 3 L S w k j else am_jp len pc L w k j kt off S
    | .lt => if x < 0 then am_jp len pc L w k j kt off S else am_nx len pc kt 3 L S w k j
    | .ge => if 0 ≤ x then am_jp len pc L w k j kt off S else am_nx len pc kt 3 L S w k j
    | .gt => if 0 < x then am_jp len pc L w k j kt off S else am_nx len pc kt 3 L S w k j
    | .le => if x ≤ 0 then am_jp len pc L w k j kt off S else am_nx len pc kt 3 L S w k j) else none
  | _ => none
def am_icm (c : ClassFile.Cond) (off : Int) : Option am_Z := match S with
  | .inl y :: .inl x :: S => bif am_ok0 pc off && len == 3 then (match c with
    | .eq => if x = y then am_jp len pc L w k j kt off S else am_nx len pc kt 3 L S w k j
    | .ne => if x = y then am_nx len pc kt 3 L S w k j else am_jp len pc L w k j kt off S
    | .lt => if x < y then am_jp len pc L w k j kt off S else am_nx len pc kt 3 L S w k j
    | .ge => if y ≤ x then am_jp len pc L w k j kt off S else am_nx len pc kt 3 L S w k j
    | .gt => if y < x then am_jp len pc L w k j kt off S else am_nx len pc kt 3 L S w k j
    | .le => if x ≤ y then am_jp len pc L w k j kt off S else am_nx len pc kt 3 L S w k j) else none
  | _ => none
/-- a switch, as a row of tests -/
def am_sw (x : Int32) (ps : List (Int × Int)) (d : Int) (f : Int → Option am_Z) : Option am_Z := match ps with
  | [] => f d
  | q :: r => if x = Int32.ofInt q.1 then f q.2 else am_sw x r d f
def am_jw (off : Int) (S : List am_V) : Option am_Z := bif am_ok0 pc off then kt (am_tg pc off, L, S, w, k, j) else none
def am_tps (lo : Int) (l : List Int) : List (Int × Int) := match l with
  | [] => []
  | o :: r => (lo, o) :: am_tps (lo + 1) r
def am_r31 (x : Int) : Bool := decide (-2147483648 ≤ x) && decide (x ≤ 2147483647)
def am_tsw (d lo hi : Int) (offs : List Int) : Option am_Z := match S with
  | .inl x :: S => bif am_r31 lo && am_r31 hi && (lo + offs.length == hi + 1) then am_sw x (am_tps lo offs) d (fun o => am_jw pc L w k j kt o S) else none
  | _ => none
def am_lsw (d : Int) (ps : List (Int × Int)) : Option am_Z := match S with
  | .inl x :: S => bif ps.all (fun q => am_r31 q.1) && (ps.zip (ps.drop 1)).all (fun (a, next) => decide (a.1 < next.1)) then am_sw x ps d (fun o => am_jw pc L w k j kt o S) else none
  | _ => none
def am_gtf (index : Nat) : Option am_Z := match S with
  | .inr (.inl q) :: S => match w[q]?, T.2.1 index with
    | some (.inr (ci, fs)), some (cj, fi, mode) => bif ci == cj && Nat.ble mode 4 then (match fs[fi]? with
      | some v => am_nx len pc kt 3 L (v :: S) w k j
      | none => none) else none
    | _, _ => none
  | _ => none
noncomputable def am_ptf (index : Nat) : Option am_Z := match S with
  | v :: .inr (.inl q) :: S => match w[q]?, T.2.1 index with
    | some (.inr (ci, fs)), some (cj, fi, mode) => bif ci == cj && Nat.ble mode 2 && Nat.blt fi fs.length then am_fic (T.2.2.1 ci fi) v (am_sx len pc kt 3 L S (w.set q (.inr (ci, fs.set fi v))) k j) else none
    | _, _ => none
  | _ => none
def am_inb (i : Int32) (n : Nat) : Bool := !(decide (i < 0) || Nat.ble n i.toNatClampNeg)
def am_nt (T : am_T) : Nat := T.2.2.2.2.2.2.2.1
/-- a load out of an array of type ty: of the world, or (ints) outside -/
def am_arl (ty : Nat) : Option am_Z := match S with
  | .inl i :: .inr (.inl q) :: S => (match w[q]? with
    | some (.inl (t, n, f)) => bif t == ty && Nat.blt t (am_nt T) then am_chk (am_inb i n) (am_nx len pc kt 1 L (.inl (f i.toNatClampNeg) :: S) w k j) else none
    | _ => none)
  | .inl i :: .inr (.inr (o + 1)) :: S => (match T.2.2.2.2.2.2.1 o with
    | some (t, n, f) => bif t == ty || (t == 3 && ty == 2) then am_chk (am_inb i n) (am_nx len pc kt 1 L (.inl (f i.toNatClampNeg) :: S) w k j) else none
    | none => none)
  | _ => none
def am_nar (ty : Nat) (x : Int32) : Int32 := match ty with
  | 0 => x
  | t + 1 => vp_nar (am_ty (t + 1)) x
noncomputable def am_ars (ty : Nat) : Option am_Z := match S with
  | .inl x :: .inl i :: .inr (.inl q) :: S => (match w[q]? with
    | some (.inl (t, n, f)) => bif t == ty && Nat.blt t (am_nt T) then am_chk (am_inb i n) (am_sx len pc kt 1 L S (w.set q (.inl (t, n, upd f i.toNatClampNeg (am_nar ty x)))) k j) else none
    | _ => none)
  | _ => none
def am_aln : Option am_Z := match S with
  | .inr (.inl q) :: S => (match w[q]? with
    | some (.inl (t, n, _)) => bif Nat.blt t (am_nt T) then am_nx len pc kt 1 L (.inl (Int32.ofNat n) :: S) w k j else none
    | _ => none)
  | .inr (.inr (o + 1)) :: S => (match T.2.2.2.2.2.2.1 o with
    | some (_, n, _) => am_nx len pc kt 1 L (.inl (Int32.ofNat n) :: S) w k j
    | none => none)
  | _ => none
def am_mc (T : am_T) : Nat := T.2.2.2.2.2.2.2.2.2.1
def am_ms (T : am_T) : Nat := T.2.2.2.2.2.2.2.2.2.2.1
def am_n0 (T : am_T) : Nat := T.2.2.2.2.2.2.2.2.2.2.2.1
def am_rt (T : am_T) : Option FieldType := T.2.2.2.2.2.2.2.2.2.2.2.2
/-- refers to places under n alone -/
def am_lo (n : Nat) (v : am_V) : Bool := match v with
  | .inr (.inl q) => Nat.blt q n
  | _ => true
def am_loC (n : Nat) (x : am_C) : Bool := match x with
  | .inl _ => true
  | .inr (_, fs) => fs.all (am_lo n)
def am_loO (n : Nat) (o : Option am_V) : Bool := match o with
  | some v => am_lo n v
  | none => true
def am_low (n : Nat) (L : List (Option am_V)) (S : List am_V) (w : List am_C) : Bool := L.all (am_loO n) && S.all (am_lo n) && w.all (am_loC n)
def am_new (index : Nat) : Option am_Z := match T.2.2.2.1 index with
  | some (ci, fs) => bif am_low w.length L S w && fs.all (am_lo w.length) && Nat.ble (am_n0 T) w.length && Nat.ble (k + 1) (am_mc T) && Nat.ble (j + fs.length) (am_ms T)
      then am_nx len pc kt 3 L (.inr (.inl w.length) :: S) (w ++ [.inr (ci, fs)]) (k + 1) (j + fs.length) else none
  | none => none
def am_tyn (a : ArrayType) : Option Nat := match a with
  | .int => some 0
  | .char => some 1
  | .boolean => some 2
  | .byte => some 3
  | .long => some 4
  | _ => none
def am_nwa (a : ArrayType) : Option am_Z := match am_tyn a, S with
  | some t, .inl n :: S => bif !(decide (n < 0)) && (Nat.ble (n.toNatClampNeg * 8) 536870912 && (Nat.blt t (am_nt T) && (am_low w.length L S w && (Nat.ble (am_n0 T) w.length && (Nat.ble (k + 1) (am_mc T) && Nat.ble (j + n.toNatClampNeg) (am_ms T))))))
      then am_nx len pc kt 2 L (.inr (.inl w.length) :: S) (w ++ [.inl (t, n.toNatClampNeg, fun _ => 0)]) (k + 1) (j + n.toNatClampNeg) else none
  | _, _ => none
end AMDO
/-! a call: the cells that the arguments reach go to the callee, under places of its own -/
/-- a value, under the callee's places -/
def am_dn (sel : List Nat) (v : am_V) : am_V := match v with
  | .inr (.inl q) => .inr (.inl (sel.idxOf q))
  | v => v
def am_dnC (sel : List Nat) (x : am_C) : am_C := match x with
  | .inl a => .inl a
  | .inr (c, fs) => .inr (c, fs.map (am_dn sel))
def am_sub (w : List am_C) (sel : List Nat) : List am_C := sel.filterMap (fun q => (w[q]?).map (am_dnC sel))
/-- a value of the callee's, under the caller's places; n: how many the caller had -/
def am_up (sel : List Nat) (n : Nat) (v : am_V) : am_V := match v with
  | .inr (.inl q) => .inr (.inl (bif Nat.blt q sel.length then sel.getD q 0 else n + (q - sel.length)))
  | v => v
def am_upC (sel : List Nat) (n : Nat) (x : am_C) : am_C := match x with
  | .inl a => .inl a
  | .inr (c, fs) => .inr (c, fs.map (am_up sel n))
def am_mxc (sel : List Nat) (w1 : List am_C) (n q : Nat) (x : am_C) : am_C := bif sel.contains q then am_upC sel n (w1.getD (sel.idxOf q) x) else x
def am_mx (sel : List Nat) (w1 : List am_C) (n : Nat) : Nat → List am_C → List am_C
  | _, [] => []
  | q, x :: r => am_mxc sel w1 n q x :: am_mx sel w1 n (q + 1) r
def am_mix (w : List am_C) (sel : List Nat) (w1 : List am_C) : List am_C := match sel, w1 with
  | [], [] => w
  | sel, w1 => am_mx sel w1 w.length 0 w ++ (w1.drop sel.length).map (am_upC sel w.length)
def am_hin (sel : List Nat) (v : am_V) : Bool := match v with
  | .inr (.inl q) => sel.contains q
  | _ => true
def am_hinC (sel : List Nat) (x : am_C) : Bool := match x with
  | .inl _ => true
  | .inr (_, fs) => fs.all (am_hin sel)
/-- the selection is what a call may be made with -/
def am_sow (w : List am_C) (sel : List Nat) : Bool := sel.all (fun q => Nat.blt q w.length) && (va_nd sel && sel.all (fun q => match w[q]? with
  | some x => am_hinC sel x
  | none => false))
/-- the world is of n cells, and refers to them alone -/
def am_wl (w1 : List am_C) (n : Nat) : Bool := w1.length == n && w1.all (am_loC n)
def am_ans (sel : List Nat) (n : Nat) (r : Option am_V) : List am_V := match r with
  | some v => [am_up sel n v]
  | none => []
section AMCALL
variable (T : am_T) (len pc : Nat) (L : List (Option am_V)) (w : List am_C) (k j : Nat) (kt : am_S → Option am_Z)
/-- behind the call -/
noncomputable def am_aft (S : List am_V) (sel : List Nat) (r : Option am_V × List am_C × Nat × Nat) : Option am_Z :=
  am_chq (Nat.ble sel.length r.2.1.length && ((r.2.1.length == sel.length && (r.2.1.all (am_loC sel.length) && am_loO sel.length r.1)) || (am_low w.length L S w && Nat.ble (am_n0 T) w.length)))
    (bif Nat.ble (k + r.2.2.1) (am_mc T) && (Nat.ble (j + r.2.2.2) (am_ms T) && Nat.ble S.length 8) then am_sx len pc kt 3 L (am_ans sel w.length r.1 ++ S) (am_mix w sel r.2.1) (k + r.2.2.1) (j + r.2.2.2) else none)
noncomputable def am_cal (a rest : List am_V) (sel : List Nat) (pre : List am_V → List am_C → Prop) (f : am_M) : Option am_Z :=
  am_chq (am_sow w sel) (bif a.all (am_hin sel) then @ite _ (pre (a.map (am_dn sel)) (am_sub w sel)) (Classical.propDecidable _) (am_aft T len pc L w k j kt rest sel (f (a.map (am_dn sel)) (am_sub w sel))) none else none)
/-- a call that takes the whole world along -/
noncomputable def am_afx (S : List am_V) (r : Option am_V × List am_C × Nat × Nat) : Option am_Z :=
  bif Nat.ble w.length r.2.1.length && (Nat.ble (k + r.2.2.1) (am_mc T) && (Nat.ble (j + r.2.2.2) (am_ms T) && (Nat.ble S.length 8 && (S.all (am_lo w.length) && Nat.ble (am_n0 T) w.length))))
    then am_nx len pc kt 3 L (r.1.toList ++ S) r.2.1 (k + r.2.2.1) (j + r.2.2.2) else none
noncomputable def am_afw (S : List am_V) (r : Option am_V × List am_C × Nat × Nat) : Option am_Z := am_chk (L.all (am_loO w.length)) (am_afx T len pc L w k j kt S r)
noncomputable def am_caw (a rest : List am_V) (pre : List am_V → List am_C → Prop) (f : am_M) : Option am_Z :=
  @ite _ (pre a w) (Classical.propDecidable _) (am_afw T len pc L w k j kt rest (f a w)) none
noncomputable def am_inv (S : List am_V) : Option am_Z := match T.2.2.2.2.2.1 pc with
  | some (some sel, n, pre, f) => bif Nat.ble n S.length then am_cal T len pc L w k j kt (S.take n).reverse (S.drop n) sel pre f else none
  | some (none, n, pre, f) => bif Nat.ble n S.length then am_caw T len pc L w k j kt (S.take n).reverse (S.drop n) pre f else none
  | none => none
end AMCALL
/-- an answer -/
def am_end (T : am_T) (len k j : Nat) : Bool := len == 1 && (Nat.ble k (am_mc T) && Nat.ble j (am_ms T))
def am_ret (T : am_T) (i : Instr) (len : Nat) (S : List am_V) (w : List am_C) (k j : Nat) : Option am_Z := match i with
  | .return_ => bif am_end T len k j then (match am_rt T, S with
    | none, [] => some (none, w)
    | _, _ => none) else none
  | .ireturn => bif am_end T len k j then (match am_rt T, S with
    | some ty, [.inl v] => am_fic ty (.inl v) (some (some (.inl v), w))
    | _, _ => none) else none
  | .areturn => bif am_end T len k j then (match am_rt T, S with
    | some ty, [.inr v] => am_fic ty (.inr v) (some (some (.inr v), w))
    | _, _ => none) else none
  | _ => none
noncomputable def am_do (T : am_T) (i : Instr) (len pc : Nat) (L : List (Option am_V)) (S : List am_V) (w : List am_C) (k j : Nat) (kt : am_S → Option am_Z) : Option am_Z := match i with
  | .iload_n x => am_ild len pc L S w k j kt 1 x.val
  | .iload x => am_ild len pc L S w k j kt 2 x
  | .aload_n x => am_ald len pc L S w k j kt 1 x.val
  | .aload x => am_ald len pc L S w k j kt 2 x
  | .istore_n x => am_ist T len pc L S w k j kt 1 x.val
  | .istore x => am_ist T len pc L S w k j kt 2 x
  | .astore_n x => am_ast T len pc L S w k j kt 1 x.val
  | .astore x => am_ast T len pc L S w k j kt 2 x
  | .iinc x n => am_inc T len pc L S w k j kt x n
  | .iconst n => am_psh len pc L S w k j kt 1 (.inl (Int32.ofInt n))
  | .bipush n => am_psh len pc L S w k j kt 2 (.inl (Int8.ofInt n).toInt32)
  | .sipush n => am_psh len pc L S w k j kt 3 (.inl (Int16.ofInt n).toInt32)
  | .ldc x => (match T.2.2.2.2.1 x with
    | some v => am_psh len pc L S w k j kt 2 v
    | none => none)
  | .aconst_null => am_psh len pc L S w k j kt 1 (.inr (.inr 0))
  | .iadd => am_bin len pc L S w k j kt (fun x y => x + y)
  | .isub => am_bin len pc L S w k j kt (fun x y => x - y)
  | .imul => am_bin len pc L S w k j kt (fun x y => x * y)
  | .iand => am_bin len pc L S w k j kt (fun x y => x &&& y)
  | .ior => am_bin len pc L S w k j kt (fun x y => x ||| y)
  | .ixor => am_bin len pc L S w k j kt (fun x y => x ^^^ y)
  | .ishl => am_bin len pc L S w k j kt (fun x y => x <<< (y &&& 31))
  | .ishr => am_bin len pc L S w k j kt (fun x y => x >>> (y &&& 31))
  | .iushr => am_bin len pc L S w k j kt (fun x y => (x.toUInt32 >>> (y.toUInt32 &&& Int32.toUInt32 31)).toInt32)
  | .idiv => am_div len pc L S w k j kt (fun x y => x / y)
  | .irem => am_div len pc L S w k j kt (fun x y => x - x / y * y)
  | .ineg => am_un len pc L S w k j kt (fun x => -x)
  | .i2c => am_un len pc L S w k j kt (fun x => (x.toUInt32 % 65536).toInt32)
  | .i2b => am_un len pc L S w k j kt (fun x => x.toInt8.toInt32)
  | .dup => (match S with
    | v :: S => am_nx len pc kt 1 L (v :: v :: S) w k j
    | _ => none)
  | .pop => (match S with
    | _ :: S => am_nx len pc kt 1 L S w k j
    | _ => none)
  | .dup2 => (match S with
    | v :: u :: S => am_nx len pc kt 1 L (v :: u :: v :: u :: S) w k j
    | _ => none)
  | .dup_x1 => (match S with
    | v :: u :: S => am_nx len pc kt 1 L (v :: u :: v :: S) w k j
    | _ => none)
  | .dup_x2 => (match S with
    | v :: u :: z :: S => am_nx len pc kt 1 L (v :: u :: z :: v :: S) w k j
    | _ => none)
  | .ifCond c off => am_ifz len pc L S w k j kt c off
  | .if_icmp c off => am_icm len pc L S w k j kt c off
  | .goto off => am_jp len pc L w k j kt off S
  | .tableswitch d lo hi offs => am_tsw pc L S w k j kt d lo hi offs.toList
  | .lookupswitch d ps => am_lsw pc L S w k j kt d ps.toList
  | .getfield x => (match S with
    | .inr (.inr (_ + 1)) :: _ => am_inv T len pc L w k j kt S
    | _ => am_gtf T len pc L S w k j kt x)
  | .getstatic _ => am_inv T len pc L w k j kt S
  | .putfield x => am_ptf T len pc L S w k j kt x
  | .iaload => am_arl T len pc L S w k j kt 0
  | .caload => am_arl T len pc L S w k j kt 1
  | .baload => am_arl T len pc L S w k j kt 2
  | .iastore => am_ars T len pc L S w k j kt 0
  | .castore => am_ars T len pc L S w k j kt 1
  | .bastore => am_ars T len pc L S w k j kt 2
  | .arraylength => am_aln T len pc L S w k j kt
  | .new x => am_new T len pc L S w k j kt x
  | .newarray a => am_nwa T len pc L S w k j kt a
  | .invokevirtual _ => am_inv T len pc L w k j kt S
  | .invokestatic _ => am_inv T len pc L w k j kt S
  | .invokespecial _ => am_inv T len pc L w k j kt S
  | i => am_ret T i len S w k j
/-- on and on, until a cut (a loop's head) or the end -/
noncomputable def am_go (T : am_T) (cuts : List Nat) (n : Nat) (st : am_S) (kt : am_S → Option am_Z) : Option am_Z := match n with
  | 0 => none
  | n + 1 => match st with
    | (pc, L, S, w, k, j) => match am_at T.1 pc with
      | some (i, len) => am_do T i len pc L S w k j (fun st' => bif cuts.contains st'.1 then kt st' else am_go T cuts n st' kt)
      | none => none
noncomputable def am_ev (T : am_T) (cuts : List Nat) (n : Nat) (st : am_S) : Option am_Z := match n with
  | 0 => none
  | n + 1 => am_go T cuts 400 st (am_ev T cuts n)
theorem am_ci {c : Prop} {d : Decidable c} {x y z : Option am_Z} (h : c) (k : x = z) : @ite _ c d x y = z := by
  rw [if_pos h]
  exact k
theorem am_cn {c : Prop} {d : Decidable c} {x y z : Option am_Z} (h : ¬ c) (k : y = z) : @ite _ c d x y = z := by
  rw [if_neg h]
  exact k
theorem am_if {c : Prop} {d : Decidable c} {a b z : Option am_Z} (ht : c → a = z) (hf : ¬ c → b = z) : @ite _ c d a b = z := by
  by_cases h : c
  · rw [if_pos h]; exact ht h
  · rw [if_neg h]; exact hf h
theorem am_sp {len pc want k j : Nat} {kt : am_S → Option am_Z} {L : List (Option am_V)} {S : List am_V} {w w' : List am_C} {d : Decidable (w = w)} {z : Option am_Z} (e : w = w') (h : am_nx len pc kt want L S w' k j = z) : @ite _ (w = w) d (am_nx len pc kt want L S w k j) none = z := by
  subst e
  exact am_ci rfl h
end
section
/-! WHAT THE MACHINE DOES THE JVM DOES: step by step -/
section AMW
variable {p : Program} {l : Launch} {e : Env} {R : Room} {s : State} {m : MethodId} {args : Array Value} {below : List Frame} {meth : Method} {c : Code} {Q : State → Prop} {cc : ByteArray} {D : va_G} {cl : List vw_C} {tys : List (ClassId × FieldType)} {A : Nat → Prop} {Ts : List Jvm.Cond} {own : String} {nL nt : Nat} {ou : Nat → Nat} {ca : Nat → ClassId}
def am_W (p : Program) (l : Launch) (e : Env) (R : Room) (s : State) (m : MethodId) (args : Array Value) (below : List Frame) (meth : Method) (c : Code) (Q : State → Prop) (D : va_G) (cl : List vw_C) (A : Nat → Prop) (ou : Nat → Nat) (ca : Nat → ClassId) (nL : Nat) (ad : Nat → Nat) (st : am_S) : Prop :=
  ∀ (H : Heap) (locs : List Loc) (ls : Array Slot), va_P D cl (am_w ad ou ca st.2.2.2.1) H → va_D A (am_w ad ou ca st.2.2.2.1) → va_S A s.heap H locs → lv_has ls nL (am_l ad ou st.2.1) → W p l e R s m args below meth c H locs st.2.2.2.2.1 st.2.2.2.2.2 Q (F0 m st.1 ls (st.2.2.1.map (am_v ad ou)))
def am_X (p : Program) (s : State) (m : MethodId) (args : Array Value) (c : Code) (cc : ByteArray) (own : String) (Ts : List Jvm.Cond) (D : va_G) (cl : List vw_C) (tys : List (ClassId × FieldType)) (A : Nat → Prop) (nL : Nat) (ca : Nat → ClassId) (nt : Nat) : Prop :=
  p.tables.exec = Jvm.exec ∧ c.code = cc ∧ c.maxLocals = nL ∧ s.vm.findClass own = some m.cls ∧ (∀ w ∈ Ts, w.before args s = true) ∧ va_K D cl tys s ∧ (∀ q, s.heap.size ≤ q → A q) ∧ (∀ t, t < nt → tys[t]? = some (ca t, am_ty t)) ∧ (∀ t, t < nt → (Jvm.Cond.arrayClass (am_ty t)).before args s = true) ∧ nt ≤ 5
theorem am_bt {α : Type} {b : Bool} {x : Option α} {z : α} (h : (bif b then x else none) = some z) : b = true ∧ x = some z := by
  cases b
  · cases h
  · exact ⟨rfl, h⟩
theorem am_chk_inv {b : Bool} {x : Option am_Z} {z : am_Z} (h : am_chk b x = some z) : b = true ∧ x = some z := by
  cases b
  · cases h
  · exact ⟨rfl, h⟩
theorem am_fic_inv {ty : FieldType} {v : am_V} {x : Option am_Z} {z : am_Z} (h : am_fic ty v x = some z) : am_fit ty v = true ∧ x = some z := by
  cases ty <;> first | exact am_bt h | exact am_chk_inv h
theorem am_chq_inv {b : Bool} {x : Option am_Z} {z : am_Z} (h : am_chq b x = some z) : b = true ∧ x = some z := by
  unfold am_chq at h
  by_cases hb : b = true
  · rw [if_pos hb] at h
    exact ⟨hb, h⟩
  · rw [if_neg hb] at h
    cases h
theorem am_nx_inv {len pc want k j : Nat} {kt : am_S → Option am_Z} {L : List (Option am_V)} {S : List am_V} {w : List am_C} {z : am_Z} (h : am_nx len pc kt want L S w k j = some z) : len = want ∧ kt (pc + want, L, S, w, k, j) = some z := by
  obtain ⟨h1, h2⟩ := am_bt h
  exact ⟨by simpa using h1, h2⟩
theorem am_jp_inv {len pc k j : Nat} {off : Int} {kt : am_S → Option am_Z} {L : List (Option am_V)} {S : List am_V} {w : List am_C} {z : am_Z} (h : am_jp len pc L w k j kt off S = some z) : len = 3 ∧ (pc : Int) + off = (am_tg pc off : Int) ∧ kt (am_tg pc off, L, S, w, k, j) = some z := by
  obtain ⟨h1, h2⟩ := am_bt h
  rw [Bool.and_eq_true] at h1
  exact ⟨by simpa using h1.1, am_tg_ok h1.2, h2⟩
theorem am_inb_ok {i : Int32} {n : Nat} (h : am_inb i n = true) : vp_in i n := by
  intro hc
  rcases hc with hc | hc
  · simp [am_inb, hc] at h
  · have h1 : Nat.ble n i.toNatClampNeg = true := Nat.ble_eq_true_of_le hc
    simp [am_inb, h1] at h
theorem am_o_iload_n {len pc k j : Nat} {ad : Nat → Nat} {kt : am_S → Option am_Z} {L : List (Option am_V)} {S : List am_V} {w : List am_C} {z : am_Z} {x : Fin 4} (X : am_X p s m args c cc own Ts D cl tys A nL ca nt) (hd : decode cc pc = .ok (.iload_n x, len)) (h : am_ild len pc L S w k j kt 1 x.val = some z) (K : ∀ st' : am_S, kt st' = some z → am_W p l e R s m args below meth c Q D cl A ou ca nL ad st') : am_W p l e R s m args below meth c Q D cl A ou ca nL ad (pc, L, S, w, k, j) := by
  unfold am_ild at h
  split at h
  · rename_i v hg
    obtain ⟨rfl, hk⟩ := am_nx_inv h
    exact fun H locs ls hP hD hS hl => lv_iload_n X.1 X.2.1 hd rfl (am_l_at hl (am_g_ok hg)) (K _ hk H locs ls hP hD hS hl)
  · cases h
theorem am_o_iload {len pc k j : Nat} {ad : Nat → Nat} {kt : am_S → Option am_Z} {L : List (Option am_V)} {S : List am_V} {w : List am_C} {z : am_Z} {x : Nat} (X : am_X p s m args c cc own Ts D cl tys A nL ca nt) (hd : decode cc pc = .ok (.iload x, len)) (h : am_ild len pc L S w k j kt 2 x = some z) (K : ∀ st' : am_S, kt st' = some z → am_W p l e R s m args below meth c Q D cl A ou ca nL ad st') : am_W p l e R s m args below meth c Q D cl A ou ca nL ad (pc, L, S, w, k, j) := by
  unfold am_ild at h
  split at h
  · rename_i v hg
    obtain ⟨rfl, hk⟩ := am_nx_inv h
    exact fun H locs ls hP hD hS hl => lv_iload X.1 X.2.1 hd (am_l_at hl (am_g_ok hg)) (K _ hk H locs ls hP hD hS hl)
  · cases h
theorem am_o_aload_n {len pc k j : Nat} {ad : Nat → Nat} {kt : am_S → Option am_Z} {L : List (Option am_V)} {S : List am_V} {w : List am_C} {z : am_Z} {x : Fin 4} (X : am_X p s m args c cc own Ts D cl tys A nL ca nt) (hd : decode cc pc = .ok (.aload_n x, len)) (h : am_ald len pc L S w k j kt 1 x.val = some z) (K : ∀ st' : am_S, kt st' = some z → am_W p l e R s m args below meth c Q D cl A ou ca nL ad st') : am_W p l e R s m args below meth c Q D cl A ou ca nL ad (pc, L, S, w, k, j) := by
  unfold am_ald at h
  split at h
  · rename_i v hg
    obtain ⟨rfl, hk⟩ := am_nx_inv h
    have hg := am_g_ok hg
    rcases v with q | q
    · exact fun H locs ls hP hD hS hl => lv_aload_n X.1 X.2.1 hd rfl (am_l_at hl hg) (K _ hk H locs ls hP hD hS hl)
    · cases q with
      | zero => exact fun H locs ls hP hD hS hl => lv_aload_nN X.1 X.2.1 hd rfl (am_l_at hl hg) (K _ hk H locs ls hP hD hS hl)
      | succ q => exact fun H locs ls hP hD hS hl => lv_aload_n X.1 X.2.1 hd rfl (am_l_at hl hg) (K _ hk H locs ls hP hD hS hl)
  · cases h
theorem am_o_aload {len pc k j : Nat} {ad : Nat → Nat} {kt : am_S → Option am_Z} {L : List (Option am_V)} {S : List am_V} {w : List am_C} {z : am_Z} {x : Nat} (X : am_X p s m args c cc own Ts D cl tys A nL ca nt) (hd : decode cc pc = .ok (.aload x, len)) (h : am_ald len pc L S w k j kt 2 x = some z) (K : ∀ st' : am_S, kt st' = some z → am_W p l e R s m args below meth c Q D cl A ou ca nL ad st') : am_W p l e R s m args below meth c Q D cl A ou ca nL ad (pc, L, S, w, k, j) := by
  unfold am_ald at h
  split at h
  · rename_i v hg
    obtain ⟨rfl, hk⟩ := am_nx_inv h
    have hg := am_g_ok hg
    rcases v with q | q
    · exact fun H locs ls hP hD hS hl => lv_aload X.1 X.2.1 hd (am_l_at hl hg) (K _ hk H locs ls hP hD hS hl)
    · cases q with
      | zero => exact fun H locs ls hP hD hS hl => lv_aloadN X.1 X.2.1 hd (am_l_at hl hg) (K _ hk H locs ls hP hD hS hl)
      | succ q => exact fun H locs ls hP hD hS hl => lv_aload X.1 X.2.1 hd (am_l_at hl hg) (K _ hk H locs ls hP hD hS hl)
  · cases h
theorem am_o_istore_n {len pc k j : Nat} {ad : Nat → Nat} {kt : am_S → Option am_Z} {L : List (Option am_V)} {S : List am_V} {w : List am_C} {z : am_Z} {x : Fin 4} {T : am_T} (X : am_X p s m args c cc own Ts D cl tys A nL ca nt) (hT : am_nl T = nL) (hd : decode cc pc = .ok (.istore_n x, len)) (h : am_ist T len pc L S w k j kt 1 x.val = some z) (K : ∀ st' : am_S, kt st' = some z → am_W p l e R s m args below meth c Q D cl A ou ca nL ad st') : am_W p l e R s m args below meth c Q D cl A ou ca nL ad (pc, L, S, w, k, j) := by
  unfold am_ist at h
  split at h
  · rename_i v S'
    have hh := am_bt h
    clear h
    obtain ⟨hi, h⟩ := hh
    obtain ⟨rfl, hk⟩ := am_nx_inv h
    rw [hT] at hi
    exact fun H locs ls hP hD hS hl => lv_istore_n X.1 X.2.1 hd rfl hl (Nat.le_of_ble_eq_true hi) rfl (fun ls' hl' => K _ hk H locs ls' hP hD hS (am_l_set (u := .inl v) hl'))
  · cases h
theorem am_o_istore {len pc k j : Nat} {ad : Nat → Nat} {kt : am_S → Option am_Z} {L : List (Option am_V)} {S : List am_V} {w : List am_C} {z : am_Z} {x : Nat} {T : am_T} (X : am_X p s m args c cc own Ts D cl tys A nL ca nt) (hT : am_nl T = nL) (hd : decode cc pc = .ok (.istore x, len)) (h : am_ist T len pc L S w k j kt 2 x = some z) (K : ∀ st' : am_S, kt st' = some z → am_W p l e R s m args below meth c Q D cl A ou ca nL ad st') : am_W p l e R s m args below meth c Q D cl A ou ca nL ad (pc, L, S, w, k, j) := by
  unfold am_ist at h
  split at h
  · rename_i v S'
    have hh := am_bt h
    clear h
    obtain ⟨hi, h⟩ := hh
    obtain ⟨rfl, hk⟩ := am_nx_inv h
    rw [hT] at hi
    exact fun H locs ls hP hD hS hl => lv_istore X.1 X.2.1 hd hl (Nat.le_of_ble_eq_true hi) rfl (fun ls' hl' => K _ hk H locs ls' hP hD hS (am_l_set (u := .inl v) hl'))
  · cases h
theorem am_o_astore_n {len pc k j : Nat} {ad : Nat → Nat} {kt : am_S → Option am_Z} {L : List (Option am_V)} {S : List am_V} {w : List am_C} {z : am_Z} {x : Fin 4} {T : am_T} (X : am_X p s m args c cc own Ts D cl tys A nL ca nt) (hT : am_nl T = nL) (hd : decode cc pc = .ok (.astore_n x, len)) (h : am_ast T len pc L S w k j kt 1 x.val = some z) (K : ∀ st' : am_S, kt st' = some z → am_W p l e R s m args below meth c Q D cl A ou ca nL ad st') : am_W p l e R s m args below meth c Q D cl A ou ca nL ad (pc, L, S, w, k, j) := by
  unfold am_ast at h
  split at h
  · rename_i v S'
    have hh := am_bt h
    clear h
    obtain ⟨hi, h⟩ := hh
    obtain ⟨rfl, hk⟩ := am_nx_inv h
    rw [hT] at hi
    rcases v with q | q
    · exact fun H locs ls hP hD hS hl => lv_astore_n X.1 X.2.1 hd rfl hl (Nat.le_of_ble_eq_true hi) rfl (fun ls' hl' => K _ hk H locs ls' hP hD hS (am_l_set (u := .inr (.inl q)) hl'))
    · cases q with
      | zero => exact fun H locs ls hP hD hS hl => lv_astore_nN X.1 X.2.1 hd rfl hl (Nat.le_of_ble_eq_true hi) rfl (fun ls' hl' => K _ hk H locs ls' hP hD hS (am_l_set (u := .inr (.inr 0)) hl'))
      | succ q => exact fun H locs ls hP hD hS hl => lv_astore_n X.1 X.2.1 hd rfl hl (Nat.le_of_ble_eq_true hi) rfl (fun ls' hl' => K _ hk H locs ls' hP hD hS (am_l_set (u := .inr (.inr (q + 1))) hl'))
  · cases h
theorem am_o_astore {len pc k j : Nat} {ad : Nat → Nat} {kt : am_S → Option am_Z} {L : List (Option am_V)} {S : List am_V} {w : List am_C} {z : am_Z} {x : Nat} {T : am_T} (X : am_X p s m args c cc own Ts D cl tys A nL ca nt) (hT : am_nl T = nL) (hd : decode cc pc = .ok (.astore x, len)) (h : am_ast T len pc L S w k j kt 2 x = some z) (K : ∀ st' : am_S, kt st' = some z → am_W p l e R s m args below meth c Q D cl A ou ca nL ad st') : am_W p l e R s m args below meth c Q D cl A ou ca nL ad (pc, L, S, w, k, j) := by
  unfold am_ast at h
  split at h
  · rename_i v S'
    have hh := am_bt h
    clear h
    obtain ⟨hi, h⟩ := hh
    obtain ⟨rfl, hk⟩ := am_nx_inv h
    rw [hT] at hi
    rcases v with q | q
    · exact fun H locs ls hP hD hS hl => lv_astore X.1 X.2.1 hd hl (Nat.le_of_ble_eq_true hi) rfl (fun ls' hl' => K _ hk H locs ls' hP hD hS (am_l_set (u := .inr (.inl q)) hl'))
    · cases q with
      | zero => exact fun H locs ls hP hD hS hl => lv_astoreN X.1 X.2.1 hd hl (Nat.le_of_ble_eq_true hi) rfl (fun ls' hl' => K _ hk H locs ls' hP hD hS (am_l_set (u := .inr (.inr 0)) hl'))
      | succ q => exact fun H locs ls hP hD hS hl => lv_astore X.1 X.2.1 hd hl (Nat.le_of_ble_eq_true hi) rfl (fun ls' hl' => K _ hk H locs ls' hP hD hS (am_l_set (u := .inr (.inr (q + 1))) hl'))
  · cases h
theorem am_o_iinc {len pc k j : Nat} {ad : Nat → Nat} {kt : am_S → Option am_Z} {L : List (Option am_V)} {S : List am_V} {w : List am_C} {z : am_Z} {x : Nat} {n : Int} {T : am_T} (X : am_X p s m args c cc own Ts D cl tys A nL ca nt) (hT : am_nl T = nL) (hd : decode cc pc = .ok (.iinc x n, len)) (h : am_inc T len pc L S w k j kt x n = some z) (K : ∀ st' : am_S, kt st' = some z → am_W p l e R s m args below meth c Q D cl A ou ca nL ad st') : am_W p l e R s m args below meth c Q D cl A ou ca nL ad (pc, L, S, w, k, j) := by
  unfold am_inc at h
  split at h
  · rename_i v hg
    have hh := am_bt h
    clear h
    obtain ⟨hi, h⟩ := hh
    obtain ⟨rfl, hk⟩ := am_nx_inv h
    rw [hT] at hi
    have hm : (x, am_v ad ou (.inl v)) ∈ am_l ad ou L := am_l_mem.mpr ⟨_, am_g_ok hg, rfl⟩
    obtain ⟨k0, hk0⟩ := List.getElem?_of_mem hm
    exact fun H locs ls hP hD hS hl => lv_iinc (k := k0) (v := v + Int32.ofInt n) X.1 X.2.1 hd hl hk0 rfl (Nat.le_of_ble_eq_true hi) rfl (fun ls' hl' => K _ hk H locs ls' hP hD hS (am_l_set (u := .inl (v + Int32.ofInt n)) hl'))
  · cases h
theorem am_o_iconst {len pc k j : Nat} {ad : Nat → Nat} {kt : am_S → Option am_Z} {L : List (Option am_V)} {S : List am_V} {w : List am_C} {z : am_Z} {n : Int} (X : am_X p s m args c cc own Ts D cl tys A nL ca nt) (hd : decode cc pc = .ok (.iconst n, len)) (h : am_psh len pc L S w k j kt 1 (.inl (Int32.ofInt n)) = some z) (K : ∀ st' : am_S, kt st' = some z → am_W p l e R s m args below meth c Q D cl A ou ca nL ad st') : am_W p l e R s m args below meth c Q D cl A ou ca nL ad (pc, L, S, w, k, j) := by
  obtain ⟨rfl, hk⟩ := am_nx_inv h
  exact fun H locs ls hP hD hS hl => lv_iconst X.1 X.2.1 hd rfl (K _ hk H locs ls hP hD hS hl)
theorem am_o_bipush {len pc k j : Nat} {ad : Nat → Nat} {kt : am_S → Option am_Z} {L : List (Option am_V)} {S : List am_V} {w : List am_C} {z : am_Z} {n : Int} (X : am_X p s m args c cc own Ts D cl tys A nL ca nt) (hd : decode cc pc = .ok (.bipush n, len)) (h : am_psh len pc L S w k j kt 2 (.inl (Int8.ofInt n).toInt32) = some z) (K : ∀ st' : am_S, kt st' = some z → am_W p l e R s m args below meth c Q D cl A ou ca nL ad st') : am_W p l e R s m args below meth c Q D cl A ou ca nL ad (pc, L, S, w, k, j) := by
  obtain ⟨rfl, hk⟩ := am_nx_inv h
  exact fun H locs ls hP hD hS hl => lv_bipush X.1 X.2.1 hd rfl (K _ hk H locs ls hP hD hS hl)
theorem am_o_sipush {len pc k j : Nat} {ad : Nat → Nat} {kt : am_S → Option am_Z} {L : List (Option am_V)} {S : List am_V} {w : List am_C} {z : am_Z} {n : Int} (X : am_X p s m args c cc own Ts D cl tys A nL ca nt) (hd : decode cc pc = .ok (.sipush n, len)) (h : am_psh len pc L S w k j kt 3 (.inl (Int16.ofInt n).toInt32) = some z) (K : ∀ st' : am_S, kt st' = some z → am_W p l e R s m args below meth c Q D cl A ou ca nL ad st') : am_W p l e R s m args below meth c Q D cl A ou ca nL ad (pc, L, S, w, k, j) := by
  obtain ⟨rfl, hk⟩ := am_nx_inv h
  exact fun H locs ls hP hD hS hl => lv_sipush X.1 X.2.1 hd rfl (K _ hk H locs ls hP hD hS hl)
theorem am_o_null {len pc k j : Nat} {ad : Nat → Nat} {kt : am_S → Option am_Z} {L : List (Option am_V)} {S : List am_V} {w : List am_C} {z : am_Z}  (X : am_X p s m args c cc own Ts D cl tys A nL ca nt) (hd : decode cc pc = .ok (.aconst_null, len)) (h : am_psh len pc L S w k j kt 1 (.inr (.inr 0)) = some z) (K : ∀ st' : am_S, kt st' = some z → am_W p l e R s m args below meth c Q D cl A ou ca nL ad st') : am_W p l e R s m args below meth c Q D cl A ou ca nL ad (pc, L, S, w, k, j) := by
  obtain ⟨rfl, hk⟩ := am_nx_inv h
  exact fun H locs ls hP hD hS hl => lv_null X.1 X.2.1 hd (K _ hk H locs ls hP hD hS hl)
theorem am_o_iadd {len pc k j : Nat} {ad : Nat → Nat} {kt : am_S → Option am_Z} {L : List (Option am_V)} {S : List am_V} {w : List am_C} {z : am_Z}  (X : am_X p s m args c cc own Ts D cl tys A nL ca nt) (hd : decode cc pc = .ok (.iadd, len)) (h : am_bin len pc L S w k j kt (fun x y => x + y) = some z) (K : ∀ st' : am_S, kt st' = some z → am_W p l e R s m args below meth c Q D cl A ou ca nL ad st') : am_W p l e R s m args below meth c Q D cl A ou ca nL ad (pc, L, S, w, k, j) := by
  unfold am_bin at h
  split at h
  · obtain ⟨rfl, hk⟩ := am_nx_inv h
    exact fun H locs ls hP hD hS hl => lv_iadd X.1 X.2.1 hd (K _ hk H locs ls hP hD hS hl)
  · cases h
theorem am_o_isub {len pc k j : Nat} {ad : Nat → Nat} {kt : am_S → Option am_Z} {L : List (Option am_V)} {S : List am_V} {w : List am_C} {z : am_Z}  (X : am_X p s m args c cc own Ts D cl tys A nL ca nt) (hd : decode cc pc = .ok (.isub, len)) (h : am_bin len pc L S w k j kt (fun x y => x - y) = some z) (K : ∀ st' : am_S, kt st' = some z → am_W p l e R s m args below meth c Q D cl A ou ca nL ad st') : am_W p l e R s m args below meth c Q D cl A ou ca nL ad (pc, L, S, w, k, j) := by
  unfold am_bin at h
  split at h
  · obtain ⟨rfl, hk⟩ := am_nx_inv h
    exact fun H locs ls hP hD hS hl => lv_isub X.1 X.2.1 hd (K _ hk H locs ls hP hD hS hl)
  · cases h
theorem am_o_imul {len pc k j : Nat} {ad : Nat → Nat} {kt : am_S → Option am_Z} {L : List (Option am_V)} {S : List am_V} {w : List am_C} {z : am_Z}  (X : am_X p s m args c cc own Ts D cl tys A nL ca nt) (hd : decode cc pc = .ok (.imul, len)) (h : am_bin len pc L S w k j kt (fun x y => x * y) = some z) (K : ∀ st' : am_S, kt st' = some z → am_W p l e R s m args below meth c Q D cl A ou ca nL ad st') : am_W p l e R s m args below meth c Q D cl A ou ca nL ad (pc, L, S, w, k, j) := by
  unfold am_bin at h
  split at h
  · obtain ⟨rfl, hk⟩ := am_nx_inv h
    exact fun H locs ls hP hD hS hl => lv_imul X.1 X.2.1 hd (K _ hk H locs ls hP hD hS hl)
  · cases h
theorem am_o_iand {len pc k j : Nat} {ad : Nat → Nat} {kt : am_S → Option am_Z} {L : List (Option am_V)} {S : List am_V} {w : List am_C} {z : am_Z}  (X : am_X p s m args c cc own Ts D cl tys A nL ca nt) (hd : decode cc pc = .ok (.iand, len)) (h : am_bin len pc L S w k j kt (fun x y => x &&& y) = some z) (K : ∀ st' : am_S, kt st' = some z → am_W p l e R s m args below meth c Q D cl A ou ca nL ad st') : am_W p l e R s m args below meth c Q D cl A ou ca nL ad (pc, L, S, w, k, j) := by
  unfold am_bin at h
  split at h
  · obtain ⟨rfl, hk⟩ := am_nx_inv h
    exact fun H locs ls hP hD hS hl => lv_iand X.1 X.2.1 hd (K _ hk H locs ls hP hD hS hl)
  · cases h
theorem am_o_ior {len pc k j : Nat} {ad : Nat → Nat} {kt : am_S → Option am_Z} {L : List (Option am_V)} {S : List am_V} {w : List am_C} {z : am_Z}  (X : am_X p s m args c cc own Ts D cl tys A nL ca nt) (hd : decode cc pc = .ok (.ior, len)) (h : am_bin len pc L S w k j kt (fun x y => x ||| y) = some z) (K : ∀ st' : am_S, kt st' = some z → am_W p l e R s m args below meth c Q D cl A ou ca nL ad st') : am_W p l e R s m args below meth c Q D cl A ou ca nL ad (pc, L, S, w, k, j) := by
  unfold am_bin at h
  split at h
  · obtain ⟨rfl, hk⟩ := am_nx_inv h
    exact fun H locs ls hP hD hS hl => lv_ior X.1 X.2.1 hd (K _ hk H locs ls hP hD hS hl)
  · cases h
theorem am_o_ixor {len pc k j : Nat} {ad : Nat → Nat} {kt : am_S → Option am_Z} {L : List (Option am_V)} {S : List am_V} {w : List am_C} {z : am_Z}  (X : am_X p s m args c cc own Ts D cl tys A nL ca nt) (hd : decode cc pc = .ok (.ixor, len)) (h : am_bin len pc L S w k j kt (fun x y => x ^^^ y) = some z) (K : ∀ st' : am_S, kt st' = some z → am_W p l e R s m args below meth c Q D cl A ou ca nL ad st') : am_W p l e R s m args below meth c Q D cl A ou ca nL ad (pc, L, S, w, k, j) := by
  unfold am_bin at h
  split at h
  · obtain ⟨rfl, hk⟩ := am_nx_inv h
    exact fun H locs ls hP hD hS hl => lv_ixor X.1 X.2.1 hd (K _ hk H locs ls hP hD hS hl)
  · cases h
theorem am_o_ishl {len pc k j : Nat} {ad : Nat → Nat} {kt : am_S → Option am_Z} {L : List (Option am_V)} {S : List am_V} {w : List am_C} {z : am_Z}  (X : am_X p s m args c cc own Ts D cl tys A nL ca nt) (hd : decode cc pc = .ok (.ishl, len)) (h : am_bin len pc L S w k j kt (fun x y => x <<< (y &&& 31)) = some z) (K : ∀ st' : am_S, kt st' = some z → am_W p l e R s m args below meth c Q D cl A ou ca nL ad st') : am_W p l e R s m args below meth c Q D cl A ou ca nL ad (pc, L, S, w, k, j) := by
  unfold am_bin at h
  split at h
  · obtain ⟨rfl, hk⟩ := am_nx_inv h
    exact fun H locs ls hP hD hS hl => lv_ishl X.1 X.2.1 hd (K _ hk H locs ls hP hD hS hl)
  · cases h
theorem am_o_ishr {len pc k j : Nat} {ad : Nat → Nat} {kt : am_S → Option am_Z} {L : List (Option am_V)} {S : List am_V} {w : List am_C} {z : am_Z}  (X : am_X p s m args c cc own Ts D cl tys A nL ca nt) (hd : decode cc pc = .ok (.ishr, len)) (h : am_bin len pc L S w k j kt (fun x y => x >>> (y &&& 31)) = some z) (K : ∀ st' : am_S, kt st' = some z → am_W p l e R s m args below meth c Q D cl A ou ca nL ad st') : am_W p l e R s m args below meth c Q D cl A ou ca nL ad (pc, L, S, w, k, j) := by
  unfold am_bin at h
  split at h
  · obtain ⟨rfl, hk⟩ := am_nx_inv h
    exact fun H locs ls hP hD hS hl => lv_ishr X.1 X.2.1 hd (K _ hk H locs ls hP hD hS hl)
  · cases h
theorem am_o_iushr {len pc k j : Nat} {ad : Nat → Nat} {kt : am_S → Option am_Z} {L : List (Option am_V)} {S : List am_V} {w : List am_C} {z : am_Z}  (X : am_X p s m args c cc own Ts D cl tys A nL ca nt) (hd : decode cc pc = .ok (.iushr, len)) (h : am_bin len pc L S w k j kt (fun x y => (x.toUInt32 >>> (y.toUInt32 &&& Int32.toUInt32 31)).toInt32) = some z) (K : ∀ st' : am_S, kt st' = some z → am_W p l e R s m args below meth c Q D cl A ou ca nL ad st') : am_W p l e R s m args below meth c Q D cl A ou ca nL ad (pc, L, S, w, k, j) := by
  unfold am_bin at h
  split at h
  · obtain ⟨rfl, hk⟩ := am_nx_inv h
    exact fun H locs ls hP hD hS hl => lv_iushr X.1 X.2.1 hd rfl (K _ hk H locs ls hP hD hS hl)
  · cases h
theorem am_o_idiv {len pc k j : Nat} {ad : Nat → Nat} {kt : am_S → Option am_Z} {L : List (Option am_V)} {S : List am_V} {w : List am_C} {z : am_Z}  (X : am_X p s m args c cc own Ts D cl tys A nL ca nt) (hd : decode cc pc = .ok (.idiv, len)) (h : am_div len pc L S w k j kt (fun x y => x / y) = some z) (K : ∀ st' : am_S, kt st' = some z → am_W p l e R s m args below meth c Q D cl A ou ca nL ad st') : am_W p l e R s m args below meth c Q D cl A ou ca nL ad (pc, L, S, w, k, j) := by
  unfold am_div at h
  split at h
  · split at h
    · cases h
    · rename_i hy
      obtain ⟨rfl, hk⟩ := am_nx_inv h
      exact fun H locs ls hP hD hS hl => lv_idiv X.1 X.2.1 hd hy (K _ hk H locs ls hP hD hS hl)
  · cases h
theorem am_o_irem {len pc k j : Nat} {ad : Nat → Nat} {kt : am_S → Option am_Z} {L : List (Option am_V)} {S : List am_V} {w : List am_C} {z : am_Z}  (X : am_X p s m args c cc own Ts D cl tys A nL ca nt) (hd : decode cc pc = .ok (.irem, len)) (h : am_div len pc L S w k j kt (fun x y => x - x / y * y) = some z) (K : ∀ st' : am_S, kt st' = some z → am_W p l e R s m args below meth c Q D cl A ou ca nL ad st') : am_W p l e R s m args below meth c Q D cl A ou ca nL ad (pc, L, S, w, k, j) := by
  unfold am_div at h
  split at h
  · split at h
    · cases h
    · rename_i hy
      obtain ⟨rfl, hk⟩ := am_nx_inv h
      exact fun H locs ls hP hD hS hl => lv_irem X.1 X.2.1 hd hy (K _ hk H locs ls hP hD hS hl)
  · cases h
theorem am_o_ineg {len pc k j : Nat} {ad : Nat → Nat} {kt : am_S → Option am_Z} {L : List (Option am_V)} {S : List am_V} {w : List am_C} {z : am_Z}  (X : am_X p s m args c cc own Ts D cl tys A nL ca nt) (hd : decode cc pc = .ok (.ineg, len)) (h : am_un len pc L S w k j kt (fun x => -x) = some z) (K : ∀ st' : am_S, kt st' = some z → am_W p l e R s m args below meth c Q D cl A ou ca nL ad st') : am_W p l e R s m args below meth c Q D cl A ou ca nL ad (pc, L, S, w, k, j) := by
  unfold am_un at h
  split at h
  · obtain ⟨rfl, hk⟩ := am_nx_inv h
    exact fun H locs ls hP hD hS hl => lv_ineg X.1 X.2.1 hd (K _ hk H locs ls hP hD hS hl)
  · cases h
theorem am_o_i2c {len pc k j : Nat} {ad : Nat → Nat} {kt : am_S → Option am_Z} {L : List (Option am_V)} {S : List am_V} {w : List am_C} {z : am_Z}  (X : am_X p s m args c cc own Ts D cl tys A nL ca nt) (hd : decode cc pc = .ok (.i2c, len)) (h : am_un len pc L S w k j kt (fun x => (x.toUInt32 % 65536).toInt32) = some z) (K : ∀ st' : am_S, kt st' = some z → am_W p l e R s m args below meth c Q D cl A ou ca nL ad st') : am_W p l e R s m args below meth c Q D cl A ou ca nL ad (pc, L, S, w, k, j) := by
  unfold am_un at h
  split at h
  · obtain ⟨rfl, hk⟩ := am_nx_inv h
    exact fun H locs ls hP hD hS hl => lv_i2c X.1 X.2.1 hd rfl (K _ hk H locs ls hP hD hS hl)
  · cases h
theorem am_o_i2b {len pc k j : Nat} {ad : Nat → Nat} {kt : am_S → Option am_Z} {L : List (Option am_V)} {S : List am_V} {w : List am_C} {z : am_Z}  (X : am_X p s m args c cc own Ts D cl tys A nL ca nt) (hd : decode cc pc = .ok (.i2b, len)) (h : am_un len pc L S w k j kt (fun x => x.toInt8.toInt32) = some z) (K : ∀ st' : am_S, kt st' = some z → am_W p l e R s m args below meth c Q D cl A ou ca nL ad st') : am_W p l e R s m args below meth c Q D cl A ou ca nL ad (pc, L, S, w, k, j) := by
  unfold am_un at h
  split at h
  · obtain ⟨rfl, hk⟩ := am_nx_inv h
    exact fun H locs ls hP hD hS hl => lv_i2b X.1 X.2.1 hd rfl (K _ hk H locs ls hP hD hS hl)
  · cases h
theorem am_o_ifz {len pc k j : Nat} {ad : Nat → Nat} {kt : am_S → Option am_Z} {L : List (Option am_V)} {S : List am_V} {w : List am_C} {z : am_Z} {cd : ClassFile.Cond} {off : Int} (X : am_X p s m args c cc own Ts D cl tys A nL ca nt) (hd : decode cc pc = .ok (.ifCond cd off, len)) (h : am_ifz len pc L S w k j kt cd off = some z) (K : ∀ st' : am_S, kt st' = some z → am_W p l e R s m args below meth c Q D cl A ou ca nL ad st') : am_W p l e R s m args below meth c Q D cl A ou ca nL ad (pc, L, S, w, k, j) := by
  unfold am_ifz at h
  split at h
  · have hh := am_bt h
    clear h
    obtain ⟨h0, h⟩ := hh
    rw [Bool.and_eq_true] at h0
    have h3 : len = 3 := by simpa using h0.2
    have ht := am_tg_ok h0.1
    subst h3
    intro H locs ls hP hD hS hl
    cases cd with
    | eq =>
      dsimp only at h
      split at h
      · rename_i hc
        obtain ⟨-, -, hk⟩ := am_jp_inv h
        exact lv_if_eq X.1 X.2.1 hd ht (fun _ => K _ hk H locs ls hP hD hS hl) (fun q => absurd hc q)
      · rename_i hc
        obtain ⟨-, hk⟩ := am_nx_inv h
        exact lv_if_eq X.1 X.2.1 hd ht (fun q => absurd q hc) (fun _ => K _ hk H locs ls hP hD hS hl)
    | ne =>
      dsimp only at h
      split at h
      · rename_i hc
        obtain ⟨-, hk⟩ := am_nx_inv h
        exact lv_if_ne X.1 X.2.1 hd ht (fun q => absurd hc q) (fun _ => K _ hk H locs ls hP hD hS hl)
      · rename_i hc
        obtain ⟨-, -, hk⟩ := am_jp_inv h
        exact lv_if_ne X.1 X.2.1 hd ht (fun _ => K _ hk H locs ls hP hD hS hl) (fun q => absurd q hc)
    | lt =>
      dsimp only at h
      split at h
      · rename_i hc
        obtain ⟨-, -, hk⟩ := am_jp_inv h
        exact lv_if_lt X.1 X.2.1 hd ht (fun _ => K _ hk H locs ls hP hD hS hl) (fun q => absurd hc q)
      · rename_i hc
        obtain ⟨-, hk⟩ := am_nx_inv h
        exact lv_if_lt X.1 X.2.1 hd ht (fun q => absurd q hc) (fun _ => K _ hk H locs ls hP hD hS hl)
    | ge =>
      dsimp only at h
      split at h
      · rename_i hc
        obtain ⟨-, -, hk⟩ := am_jp_inv h
        exact lv_if_ge X.1 X.2.1 hd ht (fun _ => K _ hk H locs ls hP hD hS hl) (fun q => absurd hc q)
      · rename_i hc
        obtain ⟨-, hk⟩ := am_nx_inv h
        exact lv_if_ge X.1 X.2.1 hd ht (fun q => absurd q hc) (fun _ => K _ hk H locs ls hP hD hS hl)
    | gt =>
      dsimp only at h
      split at h
      · rename_i hc
        obtain ⟨-, -, hk⟩ := am_jp_inv h
        exact lv_if_gt X.1 X.2.1 hd ht (fun _ => K _ hk H locs ls hP hD hS hl) (fun q => absurd hc q)
      · rename_i hc
        obtain ⟨-, hk⟩ := am_nx_inv h
        exact lv_if_gt X.1 X.2.1 hd ht (fun q => absurd q hc) (fun _ => K _ hk H locs ls hP hD hS hl)
    | le =>
      dsimp only at h
      split at h
      · rename_i hc
        obtain ⟨-, -, hk⟩ := am_jp_inv h
        exact lv_if_le X.1 X.2.1 hd ht (fun _ => K _ hk H locs ls hP hD hS hl) (fun q => absurd hc q)
      · rename_i hc
        obtain ⟨-, hk⟩ := am_nx_inv h
        exact lv_if_le X.1 X.2.1 hd ht (fun q => absurd q hc) (fun _ => K _ hk H locs ls hP hD hS hl)
  · cases h
theorem am_o_icm {len pc k j : Nat} {ad : Nat → Nat} {kt : am_S → Option am_Z} {L : List (Option am_V)} {S : List am_V} {w : List am_C} {z : am_Z} {cd : ClassFile.Cond} {off : Int} (X : am_X p s m args c cc own Ts D cl tys A nL ca nt) (hd : decode cc pc = .ok (.if_icmp cd off, len)) (h : am_icm len pc L S w k j kt cd off = some z) (K : ∀ st' : am_S, kt st' = some z → am_W p l e R s m args below meth c Q D cl A ou ca nL ad st') : am_W p l e R s m args below meth c Q D cl A ou ca nL ad (pc, L, S, w, k, j) := by
  unfold am_icm at h
  split at h
  · have hh := am_bt h
    clear h
    obtain ⟨h0, h⟩ := hh
    rw [Bool.and_eq_true] at h0
    have h3 : len = 3 := by simpa using h0.2
    have ht := am_tg_ok h0.1
    subst h3
    intro H locs ls hP hD hS hl
    cases cd with
    | eq =>
      dsimp only at h
      split at h
      · rename_i hc
        obtain ⟨-, -, hk⟩ := am_jp_inv h
        exact lv_icmp_eq X.1 X.2.1 hd ht (fun _ => K _ hk H locs ls hP hD hS hl) (fun q => absurd hc q)
      · rename_i hc
        obtain ⟨-, hk⟩ := am_nx_inv h
        exact lv_icmp_eq X.1 X.2.1 hd ht (fun q => absurd q hc) (fun _ => K _ hk H locs ls hP hD hS hl)
    | ne =>
      dsimp only at h
      split at h
      · rename_i hc
        obtain ⟨-, hk⟩ := am_nx_inv h
        exact lv_icmp_ne X.1 X.2.1 hd ht (fun q => absurd hc q) (fun _ => K _ hk H locs ls hP hD hS hl)
      · rename_i hc
        obtain ⟨-, -, hk⟩ := am_jp_inv h
        exact lv_icmp_ne X.1 X.2.1 hd ht (fun _ => K _ hk H locs ls hP hD hS hl) (fun q => absurd q hc)
    | lt =>
      dsimp only at h
      split at h
      · rename_i hc
        obtain ⟨-, -, hk⟩ := am_jp_inv h
        exact lv_icmp_lt X.1 X.2.1 hd ht (fun _ => K _ hk H locs ls hP hD hS hl) (fun q => absurd hc q)
      · rename_i hc
        obtain ⟨-, hk⟩ := am_nx_inv h
        exact lv_icmp_lt X.1 X.2.1 hd ht (fun q => absurd q hc) (fun _ => K _ hk H locs ls hP hD hS hl)
    | ge =>
      dsimp only at h
      split at h
      · rename_i hc
        obtain ⟨-, -, hk⟩ := am_jp_inv h
        exact lv_icmp_ge X.1 X.2.1 hd ht (fun _ => K _ hk H locs ls hP hD hS hl) (fun q => absurd hc q)
      · rename_i hc
        obtain ⟨-, hk⟩ := am_nx_inv h
        exact lv_icmp_ge X.1 X.2.1 hd ht (fun q => absurd q hc) (fun _ => K _ hk H locs ls hP hD hS hl)
    | gt =>
      dsimp only at h
      split at h
      · rename_i hc
        obtain ⟨-, -, hk⟩ := am_jp_inv h
        exact lv_icmp_gt X.1 X.2.1 hd ht (fun _ => K _ hk H locs ls hP hD hS hl) (fun q => absurd hc q)
      · rename_i hc
        obtain ⟨-, hk⟩ := am_nx_inv h
        exact lv_icmp_gt X.1 X.2.1 hd ht (fun q => absurd q hc) (fun _ => K _ hk H locs ls hP hD hS hl)
    | le =>
      dsimp only at h
      split at h
      · rename_i hc
        obtain ⟨-, -, hk⟩ := am_jp_inv h
        exact lv_icmp_le X.1 X.2.1 hd ht (fun _ => K _ hk H locs ls hP hD hS hl) (fun q => absurd hc q)
      · rename_i hc
        obtain ⟨-, hk⟩ := am_nx_inv h
        exact lv_icmp_le X.1 X.2.1 hd ht (fun q => absurd q hc) (fun _ => K _ hk H locs ls hP hD hS hl)
  · cases h
theorem am_o_goto {len pc k j : Nat} {ad : Nat → Nat} {kt : am_S → Option am_Z} {L : List (Option am_V)} {S : List am_V} {w : List am_C} {z : am_Z} {off : Int} (X : am_X p s m args c cc own Ts D cl tys A nL ca nt) (hd : decode cc pc = .ok (.goto off, len)) (h : am_jp len pc L w k j kt off S = some z) (K : ∀ st' : am_S, kt st' = some z → am_W p l e R s m args below meth c Q D cl A ou ca nL ad st') : am_W p l e R s m args below meth c Q D cl A ou ca nL ad (pc, L, S, w, k, j) := by
  obtain ⟨rfl, ht, hk⟩ := am_jp_inv h
  exact fun H locs ls hP hD hS hl => lv_goto X.1 X.2.1 hd ht (K _ hk H locs ls hP hD hS hl)
theorem am_sw_inv {x : Int32} {ps : List (Int × Int)} {d : Int} {f : Int → Option am_Z} {z : am_Z} (h : am_sw x ps d f = some z) : (∃ q ∈ ps, x = Int32.ofInt q.1 ∧ f q.2 = some z ∧ ∃ pre suf, ps = pre ++ q :: suf ∧ ∀ r ∈ pre, ¬ x = Int32.ofInt r.1) ∨ ((∀ q ∈ ps, ¬ x = Int32.ofInt q.1) ∧ f d = some z) := by
  induction ps with
  | nil => exact Or.inr ⟨fun q hq => absurd hq List.not_mem_nil, h⟩
  | cons q r ih =>
    unfold am_sw at h
    split at h
    · rename_i hc
      exact Or.inl ⟨q, List.mem_cons_self, hc, h, [], r, rfl, fun r hr => absurd hr List.not_mem_nil⟩
    · rename_i hc
      rcases ih h with ⟨q', hm, h1, h2, pre, suf, he, hn⟩ | ⟨h1, h2⟩
      · refine Or.inl ⟨q', List.mem_cons_of_mem _ hm, h1, h2, q :: pre, suf, by rw [he]; rfl, fun r' hr' => ?_⟩
        rcases List.mem_cons.mp hr' with h3 | h3
        · rw [h3]; exact hc
        · exact hn r' h3
      · refine Or.inr ⟨fun q' hq' => ?_, h2⟩
        rcases List.mem_cons.mp hq' with h3 | h3
        · rw [h3]; exact hc
        · exact h1 q' h3
theorem am_r31_ok {x : Int} (h : am_r31 x = true) : (Int32.ofInt x).toInt = x := by
  simp only [am_r31, Bool.and_eq_true, decide_eq_true_eq] at h
  rw [Int32.toInt_ofInt]
  have hs : Int32.size = 4294967296 := rfl
  exact Int.bmod_eq_of_le (by omega) (by omega)
theorem am_tps_mem {lo : Int} {l : List Int} {q : Int × Int} (h : q ∈ am_tps lo l) : ∃ i : Nat, i < l.length ∧ q.1 = lo + i ∧ l[i]? = some q.2 := by
  induction l generalizing lo with
  | nil => cases h
  | cons o r ih =>
    rcases List.mem_cons.mp h with h1 | h1
    · subst h1
      exact ⟨0, by simp, by simp, rfl⟩
    · obtain ⟨i, h2, h3, h4⟩ := ih h1
      exact ⟨i + 1, by simpa using h2, by rw [h3]; omega, by simpa using h4⟩
theorem am_tps_all {lo : Int} {l : List Int} {i : Nat} {o : Int} (h : l[i]? = some o) : (lo + i, o) ∈ am_tps lo l := by
  induction l generalizing lo i with
  | nil => cases h
  | cons a r ih =>
    cases i with
    | zero =>
      have h1 : a = o := Option.some.inj h
      subst h1
      have h2 : lo + ((0 : Nat) : Int) = lo := by omega
      rw [h2]
      exact List.mem_cons_self
    | succ i =>
      have h1 := ih (lo := lo + 1) (i := i) (by simpa using h)
      have h2 : lo + 1 + (i : Int) = lo + ((i + 1 : Nat) : Int) := by omega
      rw [h2] at h1
      exact List.mem_cons_of_mem _ h1
theorem am_jw_inv {pc k j : Nat} {off : Int} {kt : am_S → Option am_Z} {L : List (Option am_V)} {S : List am_V} {w : List am_C} {z : am_Z} (h : am_jw pc L w k j kt off S = some z) : (pc : Int) + off = (am_tg pc off : Int) ∧ kt (am_tg pc off, L, S, w, k, j) = some z := by
  obtain ⟨h1, h2⟩ := am_bt h
  exact ⟨am_tg_ok h1, h2⟩
theorem am_o_tsw {len pc k j : Nat} {ad : Nat → Nat} {kt : am_S → Option am_Z} {L : List (Option am_V)} {S : List am_V} {w : List am_C} {z : am_Z} {d lo hi : Int} {offs : Array Int} (X : am_X p s m args c cc own Ts D cl tys A nL ca nt) (hd : decode cc pc = .ok (.tableswitch d lo hi offs, len)) (h : am_tsw pc L S w k j kt d lo hi offs.toList = some z) (K : ∀ st' : am_S, kt st' = some z → am_W p l e R s m args below meth c Q D cl A ou ca nL ad st') : am_W p l e R s m args below meth c Q D cl A ou ca nL ad (pc, L, S, w, k, j) := by
  unfold am_tsw at h
  split at h
  · rename_i x S'
    have hh := am_bt h
    clear h
    obtain ⟨h0, h⟩ := hh
    simp only [Bool.and_eq_true, beq_iff_eq] at h0
    obtain ⟨⟨h1, h2⟩, h3⟩ := h0
    have r1 := h1
    have r2 := h2
    simp only [am_r31, Bool.and_eq_true, decide_eq_true_eq] at r1 r2
    intro H locs ls hP hD hS hl
    rcases am_sw_inv h with ⟨q, hm, hx, hf, -⟩ | ⟨hn, hf⟩
    · obtain ⟨ht, hk⟩ := am_jw_inv hf
      obtain ⟨i, hi, e1, e2⟩ := am_tps_mem hm
      have hi2 : (i : Int) < offs.toList.length := by omega
      have e3 : x.toInt = lo + i := by
        rw [hx, e1]
        exact am_r31_ok (by simp only [am_r31, Bool.and_eq_true, decide_eq_true_eq]; omega)
      refine lv_tableIn X.1 X.2.1 hd (by omega) (by omega) ?_ ht (K _ hk H locs ls hP hD hS hl)
      rw [show (x.toInt - lo).toNat = i by omega, ← Array.getElem?_toList]
      exact e2
    · obtain ⟨ht, hk⟩ := am_jw_inv hf
      refine lv_tableOut X.1 X.2.1 hd ?_ ht (K _ hk H locs ls hP hD hS hl)
      by_cases hq : x.toInt < lo ∨ hi < x.toInt
      · exact hq
      · exfalso
        have hlt : (x.toInt - lo).toNat < offs.toList.length := by omega
        have hg := List.getElem?_eq_getElem hlt
        refine hn _ (am_tps_all (lo := lo) hg) ?_
        apply Int32.toInt_inj.mp
        rw [am_r31_ok (by simp only [am_r31, Bool.and_eq_true, decide_eq_true_eq]; omega)]
        omega
  · cases h
theorem am_lo_off {x : Int32} {ps : List (Int × Int)} {d : Int} (hr : ∀ q ∈ ps, am_r31 q.1 = true) : (∀ {q : Int × Int} {pre suf : List (Int × Int)}, ps = pre ++ q :: suf → (∀ r ∈ pre, ¬ x = Int32.ofInt r.1) → x = Int32.ofInt q.1 → Op.lookupswitch.offset ps d x.toInt = q.2) ∧ ((∀ q ∈ ps, ¬ x = Int32.ofInt q.1) → Op.lookupswitch.offset ps d x.toInt = d) := by
  induction ps with
  | nil =>
    refine ⟨fun {q pre suf} he => ?_, fun _ => by simp [Op.lookupswitch.offset]⟩
    simp at he
  | cons a r ih =>
    have ih := ih (fun q hq => hr q (List.mem_cons_of_mem _ hq))
    have ha := am_r31_ok (hr a List.mem_cons_self)
    constructor
    · intro q pre suf he hn hx
      cases pre with
      | nil =>
        simp only [List.nil_append, List.cons.injEq] at he
        obtain ⟨rfl, rfl⟩ := he
        rw [hx, ha]
        simp [Op.lookupswitch.offset]
      | cons b pre =>
        simp only [List.cons_append, List.cons.injEq] at he
        obtain ⟨rfl, he⟩ := he
        have hne : ¬ x = Int32.ofInt a.1 := hn a List.mem_cons_self
        have h1 := lv_osw (x := x) (k := Int32.ofInt a.1) (a := a.1) (o := a.2) (d := d) (r := r) hne ha
        rw [show a = (a.1, a.2) from rfl, h1]
        exact ih.1 he (fun r hr => hn r (List.mem_cons_of_mem _ hr)) hx
    · intro hn
      have hne : ¬ x = Int32.ofInt a.1 := hn a List.mem_cons_self
      have h1 := lv_osw (x := x) (k := Int32.ofInt a.1) (a := a.1) (o := a.2) (d := d) (r := r) hne ha
      rw [show a = (a.1, a.2) from rfl, h1]
      exact ih.2 (fun q hq => hn q (List.mem_cons_of_mem _ hq))
theorem am_o_lsw {len pc k j : Nat} {ad : Nat → Nat} {kt : am_S → Option am_Z} {L : List (Option am_V)} {S : List am_V} {w : List am_C} {z : am_Z} {d : Int} {ps : Array (Int × Int)} (X : am_X p s m args c cc own Ts D cl tys A nL ca nt) (hd : decode cc pc = .ok (.lookupswitch d ps, len)) (h : am_lsw pc L S w k j kt d ps.toList = some z) (K : ∀ st' : am_S, kt st' = some z → am_W p l e R s m args below meth c Q D cl A ou ca nL ad st') : am_W p l e R s m args below meth c Q D cl A ou ca nL ad (pc, L, S, w, k, j) := by
  unfold am_lsw at h
  split at h
  · rename_i x S'
    have hh := am_bt h
    clear h
    obtain ⟨h0, h⟩ := hh
    rw [Bool.and_eq_true] at h0
    have hr : ∀ q ∈ ps.toList, am_r31 q.1 = true := List.all_eq_true.mp h0.1
    intro H locs ls hP hD hS hl
    rcases am_sw_inv h with ⟨q, hm, hx, hf, pre, suf, he, hn⟩ | ⟨hn, hf⟩
    · obtain ⟨ht, hk⟩ := am_jw_inv hf
      exact lv_lookup X.1 X.2.1 hd h0.2 ((am_lo_off hr).1 he hn hx) ht (K _ hk H locs ls hP hD hS hl)
    · obtain ⟨ht, hk⟩ := am_jw_inv hf
      exact lv_lookup X.1 X.2.1 hd h0.2 ((am_lo_off hr).2 hn) ht (K _ hk H locs ls hP hD hS hl)
  · cases h
/-- what a field's pool entry is -/
def am_FK (s : State) (args : Array Value) (meth : Method) (own : String) (Ts : List Jvm.Cond) (cl : List vw_C) (fty : Nat → Nat → FieldType) (index ci fi mode : Nat) : Prop :=
  ∃ (C : String) (F : u_T) (N : Nat) (ty0 : Nat → FieldType), cl[ci]? = some (C, F, N) ∧ fi < N ∧ (∀ w ∈ u_ws C F N, w ∈ Ts) ∧ (∀ k, k < N → parseFieldDescriptor (F k).2.2.1 = some (ty0 k)) ∧ (∀ a, a < N → ∀ b, b < N → a ≠ b → (F a).2.1 ≠ (F b).2.1) ∧ ty0 fi = fty ci fi ∧
    (¬ (mode = 1 ∨ mode = 4) → (Jvm.Cond.fieldLink own index (F fi).1 (F fi).2.1 (F fi).2.2.1).before args s = true) ∧ (mode = 1 ∨ mode = 4 → ∃ host, (Jvm.Cond.fieldLinkNest own index (F fi).1 (F fi).2.1 (F fi).2.2.1 host).before args s = true) ∧
    (mode = 0 ∨ mode = 1 → (F fi).2.2.2 = false) ∧ (mode = 2 → (F fi).2.2.2 = true ∧ meth.name = "<init>" ∧ (F fi).1 = own)
theorem am_o_gtf {len pc k j : Nat} {ad : Nat → Nat} {kt : am_S → Option am_Z} {L : List (Option am_V)} {S : List am_V} {w : List am_C} {z : am_Z} {x : Nat} {T : am_T} (X : am_X p s m args c cc own Ts D cl tys A nL ca nt) (hF : ∀ index ci fi mode, T.2.1 index = some (ci, fi, mode) → am_FK s args meth own Ts cl T.2.2.1 index ci fi mode) (hd : decode cc pc = .ok (.getfield x, len)) (h : am_gtf T len pc L S w k j kt x = some z) (K : ∀ st' : am_S, kt st' = some z → am_W p l e R s m args below meth c Q D cl A ou ca nL ad st') : am_W p l e R s m args below meth c Q D cl A ou ca nL ad (pc, L, S, w, k, j) := by
  unfold am_gtf at h
  split at h
  · rename_i q S'
    cases hw : w[q]? with
    | none => rw [hw] at h; cases h
    | some y =>
      cases hT : T.2.1 x with
      | none => rw [hw, hT] at h; rcases y with y | y <;> cases h
      | some u =>
        obtain ⟨cj, fi, mode⟩ := u
        rw [hw, hT] at h
        rcases y with y | ⟨ci, fs⟩
        · cases h
        · dsimp only at h
          have hh := am_bt h
          clear h
          obtain ⟨h0, h⟩ := hh
          rw [Bool.and_eq_true] at h0
          have hci : ci = cj := by simpa using h0.1
          subst hci
          cases hv : fs[fi]? with
          | none => rw [hv] at h; cases h
          | some v =>
            rw [hv] at h
            obtain ⟨rfl, hk⟩ := am_nx_inv h
            obtain ⟨C, F, N, ty0, hc, hfi, hin, hty, hnm, -, hl0, hl1, -, -⟩ := hF x ci fi mode hT
            have hv' : (fs.map (am_v ad ou))[fi]? = some (am_v ad ou v) := by rw [List.getElem?_map, hv]; rfl
            intro H locs ls hP hD hS hl
            by_cases hm : mode = 1 ∨ mode = 4
            · obtain ⟨host, hlk⟩ := hl1 hm
              exact va_getN X.1 X.2.1 X.2.2.2.2.1 hin X.2.2.2.1 X.2.2.2.2.2.1 hP q (am_w_get hw) hc fi hfi hlk (fun _ h9 => h9) hv' hd (K _ hk H locs ls hP hD hS hl)
            · exact va_get X.1 X.2.1 X.2.2.2.2.1 hin X.2.2.2.1 X.2.2.2.2.2.1 hP q (am_w_get hw) hc fi hfi (hl0 hm) (fun _ h9 => h9) hv' hd (K _ hk H locs ls hP hD hS hl)
  · cases h
theorem am_o_ptf {len pc k j : Nat} {ad : Nat → Nat} {kt : am_S → Option am_Z} {L : List (Option am_V)} {S : List am_V} {w : List am_C} {z : am_Z} {x : Nat} {T : am_T} (X : am_X p s m args c cc own Ts D cl tys A nL ca nt) (hF : ∀ index ci fi mode, T.2.1 index = some (ci, fi, mode) → am_FK s args meth own Ts cl T.2.2.1 index ci fi mode) (hd : decode cc pc = .ok (.putfield x, len)) (h : am_ptf T len pc L S w k j kt x = some z) (K : ∀ st' : am_S, kt st' = some z → am_W p l e R s m args below meth c Q D cl A ou ca nL ad st') : am_W p l e R s m args below meth c Q D cl A ou ca nL ad (pc, L, S, w, k, j) := by
  unfold am_ptf at h
  split at h
  · rename_i v q S'
    cases hw : w[q]? with
    | none => rw [hw] at h; cases h
    | some y =>
      cases hT : T.2.1 x with
      | none => rw [hw, hT] at h; rcases y with y | y <;> cases h
      | some u =>
        obtain ⟨cj, fi, mode⟩ := u
        rw [hw, hT] at h
        rcases y with y | ⟨ci, fs⟩
        · cases h
        · dsimp only at h
          have hh := am_bt h
          clear h
          obtain ⟨h0, h⟩ := hh
          simp only [Bool.and_eq_true] at h0
          obtain ⟨⟨h1, h2⟩, h3⟩ := h0
          have hh := am_fic_inv h
          clear h
          obtain ⟨h4, h⟩ := hh
          have hci : ci = cj := by simpa using h1
          subst hci
          have hlt : fi < fs.length := Nat.le_of_ble_eq_true h3
          unfold am_sx at h
          rw [if_pos rfl] at h
          obtain ⟨rfl, hk⟩ := am_nx_inv h
          obtain ⟨C, F, N, ty0, hc, hfi, hin, hty, hnm, hft, hl0, hl1, hm0, hm2⟩ := hF x ci fi mode hT
          obtain ⟨f1, f2⟩ := am_fit_ok ad ou h4
          have hlt' : fi < (fs.map (am_v ad ou)).length := by rw [List.length_map]; exact hlt
          have hset : am_w ad ou ca (w.set q (.inr (ci, fs.set fi v))) = (am_w ad ou ca w).set q (ad q, .inr (ci, (fs.map (am_v ad ou)).set fi (am_v ad ou v))) := by
            rw [am_w_set]
            simp only [am_e, List.map_set]
          have hpd : parseFieldDescriptor (F fi).2.2.1 = some (T.2.2.1 ci fi) := by rw [← hft]; exact hty fi hfi
          intro H locs ls hP hD hS hl
          have hmode : mode = 0 ∨ mode = 1 ∨ mode = 2 := by
            have := Nat.le_of_ble_eq_true h2
            omega
          rcases hmode with rfl | rfl | rfl
          · exact va_put X.1 X.2.1 X.2.2.2.2.1 hin ty0 hty hnm X.2.2.2.1 X.2.2.2.2.2.1 hP hD hS q (am_w_get hw) hc fi hfi (hl0 (by decide)) (fun _ h9 => h9) (hm0 (Or.inl rfl)) hpd f1 f2 hlt' hd (fun H1 locs1 hP1 hD1 hS1 => K _ hk H1 locs1 ls (by rw [hset]; exact hP1) (by rw [hset]; exact hD1) hS1 hl)
          · obtain ⟨host, hlk⟩ := hl1 (Or.inl rfl)
            exact va_putN X.1 X.2.1 X.2.2.2.2.1 hin ty0 hty hnm X.2.2.2.1 X.2.2.2.2.2.1 hP hD hS q (am_w_get hw) hc fi hfi hlk (fun _ h9 => h9) (hm0 (Or.inr rfl)) hpd f1 f2 hlt' hd (fun H1 locs1 hP1 hD1 hS1 => K _ hk H1 locs1 ls (by rw [hset]; exact hP1) (by rw [hset]; exact hD1) hS1 hl)
          · obtain ⟨g1, g2, g3⟩ := hm2 rfl
            exact va_putF X.1 X.2.1 X.2.2.2.2.1 hin ty0 hty hnm X.2.2.2.1 X.2.2.2.2.2.1 hP hD hS q (am_w_get hw) hc fi hfi (hl0 (by decide)) (fun _ h9 => h9) g1 g2 g3 hpd f1 f2 hlt' hd (fun H1 locs1 hP1 hD1 hS1 => K _ hk H1 locs1 ls (by rw [hset]; exact hP1) (by rw [hset]; exact hD1) hS1 hl)
  · cases h
theorem am_o_arli {len pc k j : Nat} {ad : Nat → Nat} {kt : am_S → Option am_Z} {L : List (Option am_V)} {S : List am_V} {w : List am_C} {z : am_Z} {T : am_T} (X : am_X p s m args c cc own Ts D cl tys A nL ca nt) (hnt : am_nt T = nt) (hO : ∀ o t n f, T.2.2.2.2.2.2.1 o = some (t, n, f) → va_T (am_ty t) (ou o) n (fun j => .int (f j)) A s s.heap) (hd : decode cc pc = .ok (.iaload, len)) (h : am_arl T len pc L S w k j kt 0 = some z) (K : ∀ st' : am_S, kt st' = some z → am_W p l e R s m args below meth c Q D cl A ou ca nL ad st') : am_W p l e R s m args below meth c Q D cl A ou ca nL ad (pc, L, S, w, k, j) := by
  unfold am_arl at h
  split at h
  · rename_i i q S'
    cases hw : w[q]? with
    | none => rw [hw] at h; cases h
    | some y =>
      rw [hw] at h
      rcases y with ⟨t, n, f⟩ | y
      · dsimp only at h
        have hh := am_bt h
        clear h
        obtain ⟨h0, h⟩ := hh
        rw [Bool.and_eq_true, hnt] at h0
        have ht : t = 0 := by simpa using h0.1
        subst ht
        have hh := am_chk_inv h
        clear h
        obtain ⟨h1, h⟩ := hh
        obtain ⟨rfl, hk⟩ := am_nx_inv h
        exact fun H locs ls hP hD hS hl => va_iald X.1 X.2.1 X.2.2.2.2.2.1 hP q 0 (am_w_get hw) (X.2.2.2.2.2.2.2.1 0 (Nat.le_of_ble_eq_true h0.2)) (am_inb_ok h1) hd (K _ hk H locs ls hP hD hS hl)
      · cases h
  · rename_i i o S'
    cases hT : T.2.2.2.2.2.2.1 o with
    | none => rw [hT] at h; cases h
    | some y =>
      rw [hT] at h
      obtain ⟨t, n, f⟩ := y
      dsimp only at h
      have hh := am_bt h
      clear h
      obtain ⟨h0, h⟩ := hh
      have hh := am_chk_inv h
      clear h
      obtain ⟨h1, h⟩ := hh
      obtain ⟨rfl, hk⟩ := am_nx_inv h
      have g1 := hO o t n f hT
      have ht : t = 0 := by simpa using h0
      subst ht
      exact fun H locs ls hP hD hS hl => va_ti X.1 X.2.1 g1 hS (am_inb_ok h1) rfl hd (K _ hk H locs ls hP hD hS hl)
  · cases h
theorem am_o_arlc {len pc k j : Nat} {ad : Nat → Nat} {kt : am_S → Option am_Z} {L : List (Option am_V)} {S : List am_V} {w : List am_C} {z : am_Z} {T : am_T} (X : am_X p s m args c cc own Ts D cl tys A nL ca nt) (hnt : am_nt T = nt) (hO : ∀ o t n f, T.2.2.2.2.2.2.1 o = some (t, n, f) → va_T (am_ty t) (ou o) n (fun j => .int (f j)) A s s.heap) (hd : decode cc pc = .ok (.caload, len)) (h : am_arl T len pc L S w k j kt 1 = some z) (K : ∀ st' : am_S, kt st' = some z → am_W p l e R s m args below meth c Q D cl A ou ca nL ad st') : am_W p l e R s m args below meth c Q D cl A ou ca nL ad (pc, L, S, w, k, j) := by
  unfold am_arl at h
  split at h
  · rename_i i q S'
    cases hw : w[q]? with
    | none => rw [hw] at h; cases h
    | some y =>
      rw [hw] at h
      rcases y with ⟨t, n, f⟩ | y
      · dsimp only at h
        have hh := am_bt h
        clear h
        obtain ⟨h0, h⟩ := hh
        rw [Bool.and_eq_true, hnt] at h0
        have ht : t = 1 := by simpa using h0.1
        subst ht
        have hh := am_chk_inv h
        clear h
        obtain ⟨h1, h⟩ := hh
        obtain ⟨rfl, hk⟩ := am_nx_inv h
        exact fun H locs ls hP hD hS hl => va_cald X.1 X.2.1 X.2.2.2.2.2.1 hP q 1 (am_w_get hw) (X.2.2.2.2.2.2.2.1 1 (Nat.le_of_ble_eq_true h0.2)) (am_inb_ok h1) hd (K _ hk H locs ls hP hD hS hl)
      · cases h
  · rename_i i o S'
    cases hT : T.2.2.2.2.2.2.1 o with
    | none => rw [hT] at h; cases h
    | some y =>
      rw [hT] at h
      obtain ⟨t, n, f⟩ := y
      dsimp only at h
      have hh := am_bt h
      clear h
      obtain ⟨h0, h⟩ := hh
      have hh := am_chk_inv h
      clear h
      obtain ⟨h1, h⟩ := hh
      obtain ⟨rfl, hk⟩ := am_nx_inv h
      have g1 := hO o t n f hT
      have ht : t = 1 := by simpa using h0
      subst ht
      exact fun H locs ls hP hD hS hl => va_tc X.1 X.2.1 g1 hS (am_inb_ok h1) rfl hd (K _ hk H locs ls hP hD hS hl)
  · cases h
theorem am_o_arlz {len pc k j : Nat} {ad : Nat → Nat} {kt : am_S → Option am_Z} {L : List (Option am_V)} {S : List am_V} {w : List am_C} {z : am_Z} {T : am_T} (X : am_X p s m args c cc own Ts D cl tys A nL ca nt) (hnt : am_nt T = nt) (hO : ∀ o t n f, T.2.2.2.2.2.2.1 o = some (t, n, f) → va_T (am_ty t) (ou o) n (fun j => .int (f j)) A s s.heap) (hd : decode cc pc = .ok (.baload, len)) (h : am_arl T len pc L S w k j kt 2 = some z) (K : ∀ st' : am_S, kt st' = some z → am_W p l e R s m args below meth c Q D cl A ou ca nL ad st') : am_W p l e R s m args below meth c Q D cl A ou ca nL ad (pc, L, S, w, k, j) := by
  unfold am_arl at h
  split at h
  · rename_i i q S'
    cases hw : w[q]? with
    | none => rw [hw] at h; cases h
    | some y =>
      rw [hw] at h
      rcases y with ⟨t, n, f⟩ | y
      · dsimp only at h
        have hh := am_bt h
        clear h
        obtain ⟨h0, h⟩ := hh
        rw [Bool.and_eq_true, hnt] at h0
        have ht : t = 2 := by simpa using h0.1
        subst ht
        have hh := am_chk_inv h
        clear h
        obtain ⟨h1, h⟩ := hh
        obtain ⟨rfl, hk⟩ := am_nx_inv h
        exact fun H locs ls hP hD hS hl => va_zald X.1 X.2.1 X.2.2.2.2.2.1 hP q 2 (am_w_get hw) (X.2.2.2.2.2.2.2.1 2 (Nat.le_of_ble_eq_true h0.2)) (am_inb_ok h1) hd (K _ hk H locs ls hP hD hS hl)
      · cases h
  · rename_i i o S'
    cases hT : T.2.2.2.2.2.2.1 o with
    | none => rw [hT] at h; cases h
    | some y =>
      rw [hT] at h
      obtain ⟨t, n, f⟩ := y
      dsimp only at h
      have hh := am_bt h
      clear h
      obtain ⟨h0, h⟩ := hh
      have hh := am_chk_inv h
      clear h
      obtain ⟨h1, h⟩ := hh
      obtain ⟨rfl, hk⟩ := am_nx_inv h
      have g1 := hO o t n f hT
      have ht : t = 2 ∨ t = 3 := by simpa using h0
      rcases ht with rfl | rfl
      · exact fun H locs ls hP hD hS hl => va_tz X.1 X.2.1 g1 hS (am_inb_ok h1) rfl hd (K _ hk H locs ls hP hD hS hl)
      · exact fun H locs ls hP hD hS hl => va_tb X.1 X.2.1 g1 hS (am_inb_ok h1) rfl hd (K _ hk H locs ls hP hD hS hl)
  · cases h
theorem am_o_arsi {len pc k j : Nat} {ad : Nat → Nat} {kt : am_S → Option am_Z} {L : List (Option am_V)} {S : List am_V} {w : List am_C} {z : am_Z} {T : am_T} (X : am_X p s m args c cc own Ts D cl tys A nL ca nt) (hnt : am_nt T = nt) (hd : decode cc pc = .ok (.iastore, len)) (h : am_ars T len pc L S w k j kt 0 = some z) (K : ∀ st' : am_S, kt st' = some z → am_W p l e R s m args below meth c Q D cl A ou ca nL ad st') : am_W p l e R s m args below meth c Q D cl A ou ca nL ad (pc, L, S, w, k, j) := by
  unfold am_ars at h
  split at h
  · rename_i x i q S'
    cases hw : w[q]? with
    | none => rw [hw] at h; cases h
    | some y =>
      rw [hw] at h
      rcases y with ⟨t, n, f⟩ | y
      · dsimp only at h
        have hh := am_bt h
        clear h
        obtain ⟨h0, h⟩ := hh
        rw [Bool.and_eq_true, hnt] at h0
        have ht : t = 0 := by simpa using h0.1
        subst ht
        have hh := am_chk_inv h
        clear h
        obtain ⟨h1, h⟩ := hh
        unfold am_sx at h
        rw [if_pos rfl] at h
        obtain ⟨rfl, hk⟩ := am_nx_inv h
        exact fun H locs ls hP hD hS hl => va_iast X.1 X.2.1 X.2.2.2.2.2.1 hP hD hS q 0 (am_w_get hw) (X.2.2.2.2.2.2.2.1 0 (Nat.le_of_ble_eq_true h0.2)) (am_inb_ok h1) hd (fun H1 locs1 hP1 hD1 hS1 => K _ hk H1 locs1 ls (by dsimp only; rw [am_w_set]; exact hP1) (by dsimp only; rw [am_w_set]; exact hD1) hS1 hl)
      · cases h
  · cases h
theorem am_o_arsc {len pc k j : Nat} {ad : Nat → Nat} {kt : am_S → Option am_Z} {L : List (Option am_V)} {S : List am_V} {w : List am_C} {z : am_Z} {T : am_T} (X : am_X p s m args c cc own Ts D cl tys A nL ca nt) (hnt : am_nt T = nt) (hd : decode cc pc = .ok (.castore, len)) (h : am_ars T len pc L S w k j kt 1 = some z) (K : ∀ st' : am_S, kt st' = some z → am_W p l e R s m args below meth c Q D cl A ou ca nL ad st') : am_W p l e R s m args below meth c Q D cl A ou ca nL ad (pc, L, S, w, k, j) := by
  unfold am_ars at h
  split at h
  · rename_i x i q S'
    cases hw : w[q]? with
    | none => rw [hw] at h; cases h
    | some y =>
      rw [hw] at h
      rcases y with ⟨t, n, f⟩ | y
      · dsimp only at h
        have hh := am_bt h
        clear h
        obtain ⟨h0, h⟩ := hh
        rw [Bool.and_eq_true, hnt] at h0
        have ht : t = 1 := by simpa using h0.1
        subst ht
        have hh := am_chk_inv h
        clear h
        obtain ⟨h1, h⟩ := hh
        unfold am_sx at h
        rw [if_pos rfl] at h
        obtain ⟨rfl, hk⟩ := am_nx_inv h
        exact fun H locs ls hP hD hS hl => va_cast X.1 X.2.1 X.2.2.2.2.2.1 hP hD hS q 1 (am_w_get hw) (X.2.2.2.2.2.2.2.1 1 (Nat.le_of_ble_eq_true h0.2)) (am_inb_ok h1) hd (fun H1 locs1 hP1 hD1 hS1 => K _ hk H1 locs1 ls (by dsimp only; rw [am_w_set]; exact hP1) (by dsimp only; rw [am_w_set]; exact hD1) hS1 hl)
      · cases h
  · cases h
theorem am_o_arsz {len pc k j : Nat} {ad : Nat → Nat} {kt : am_S → Option am_Z} {L : List (Option am_V)} {S : List am_V} {w : List am_C} {z : am_Z} {T : am_T} (X : am_X p s m args c cc own Ts D cl tys A nL ca nt) (hnt : am_nt T = nt) (hd : decode cc pc = .ok (.bastore, len)) (h : am_ars T len pc L S w k j kt 2 = some z) (K : ∀ st' : am_S, kt st' = some z → am_W p l e R s m args below meth c Q D cl A ou ca nL ad st') : am_W p l e R s m args below meth c Q D cl A ou ca nL ad (pc, L, S, w, k, j) := by
  unfold am_ars at h
  split at h
  · rename_i x i q S'
    cases hw : w[q]? with
    | none => rw [hw] at h; cases h
    | some y =>
      rw [hw] at h
      rcases y with ⟨t, n, f⟩ | y
      · dsimp only at h
        have hh := am_bt h
        clear h
        obtain ⟨h0, h⟩ := hh
        rw [Bool.and_eq_true, hnt] at h0
        have ht : t = 2 := by simpa using h0.1
        subst ht
        have hh := am_chk_inv h
        clear h
        obtain ⟨h1, h⟩ := hh
        unfold am_sx at h
        rw [if_pos rfl] at h
        obtain ⟨rfl, hk⟩ := am_nx_inv h
        exact fun H locs ls hP hD hS hl => va_zast X.1 X.2.1 X.2.2.2.2.2.1 hP hD hS q 2 (am_w_get hw) (X.2.2.2.2.2.2.2.1 2 (Nat.le_of_ble_eq_true h0.2)) (am_inb_ok h1) hd (fun H1 locs1 hP1 hD1 hS1 => K _ hk H1 locs1 ls (by dsimp only; rw [am_w_set]; exact hP1) (by dsimp only; rw [am_w_set]; exact hD1) hS1 hl)
      · cases h
  · cases h
theorem am_o_aln {len pc k j : Nat} {ad : Nat → Nat} {kt : am_S → Option am_Z} {L : List (Option am_V)} {S : List am_V} {w : List am_C} {z : am_Z} {T : am_T} (X : am_X p s m args c cc own Ts D cl tys A nL ca nt) (hnt : am_nt T = nt) (hO : ∀ o t n f, T.2.2.2.2.2.2.1 o = some (t, n, f) → va_T (am_ty t) (ou o) n (fun j => .int (f j)) A s s.heap) (hd : decode cc pc = .ok (.arraylength, len)) (h : am_aln T len pc L S w k j kt = some z) (K : ∀ st' : am_S, kt st' = some z → am_W p l e R s m args below meth c Q D cl A ou ca nL ad st') : am_W p l e R s m args below meth c Q D cl A ou ca nL ad (pc, L, S, w, k, j) := by
  unfold am_aln at h
  split at h
  · rename_i q S'
    cases hw : w[q]? with
    | none => rw [hw] at h; cases h
    | some y =>
      rw [hw] at h
      rcases y with ⟨t, n, f⟩ | y
      · dsimp only at h
        have hh := am_bt h
        clear h
        obtain ⟨h0, h⟩ := hh
        rw [hnt] at h0
        obtain ⟨rfl, hk⟩ := am_nx_inv h
        exact fun H locs ls hP hD hS hl => va_alen X.1 X.2.1 X.2.2.2.2.2.1 hP q t (am_w_get hw) (X.2.2.2.2.2.2.2.1 t (Nat.le_of_ble_eq_true h0)) rfl hd (K _ hk H locs ls hP hD hS hl)
      · cases h
  · rename_i o S'
    cases hT : T.2.2.2.2.2.2.1 o with
    | none => rw [hT] at h; cases h
    | some y =>
      rw [hT] at h
      obtain ⟨t, n, f⟩ := y
      obtain ⟨rfl, hk⟩ := am_nx_inv h
      exact fun H locs ls hP hD hS hl => va_tlen X.1 X.2.1 (hO o t n f hT) hS rfl hd (K _ hk H locs ls hP hD hS hl)
  · cases h
/-! other addresses for new places -/
theorem am_v_ag {n : Nat} {ad ad' ou : Nat → Nat} {v : am_V} (h : ∀ i, i < n → ad' i = ad i) (hv : am_lo n v = true) : am_v ad' ou v = am_v ad ou v := by
  rcases v with x | q | q
  · rfl
  · have h1 : q < n := Nat.le_of_ble_eq_true hv
    show Value.ref (ad' q) = Value.ref (ad q)
    rw [h q h1]
  · cases q <;> rfl
theorem am_e_ag {n : Nat} {ad ad' ou : Nat → Nat} {ca : Nat → ClassId} {x : am_C} (h : ∀ i, i < n → ad' i = ad i) (hx : am_loC n x = true) : am_e ad' ou ca x = am_e ad ou ca x := by
  rcases x with ⟨t, m, f⟩ | ⟨c, fs⟩
  · rfl
  · have h1 : fs.map (am_v ad' ou) = fs.map (am_v ad ou) := List.map_congr_left (fun v hv => am_v_ag h (List.all_eq_true.mp hx v hv))
    simp only [am_e, h1]
theorem am_w_ag {n : Nat} {ad ad' ou : Nat → Nat} {ca : Nat → ClassId} {w : List am_C} (h : ∀ i, i < n → ad' i = ad i) (hn : w.length ≤ n) (hw : w.all (am_loC n) = true) : am_w ad' ou ca w = am_w ad ou ca w := by
  apply List.ext_getElem?
  intro i
  cases hi : w[i]? with
  | none => simp [am_w, List.getElem?_mapIdx, hi]
  | some x =>
    rw [am_w_get hi, am_w_get hi]
    have h1 : i < w.length := (List.getElem?_eq_some_iff.mp hi).1
    rw [h i (by omega), am_e_ag h (List.all_eq_true.mp hw x (List.mem_of_getElem? hi))]
theorem am_s_ag {n : Nat} {ad ad' ou : Nat → Nat} {S : List am_V} (h : ∀ i, i < n → ad' i = ad i) (hS : S.all (am_lo n) = true) : S.map (am_v ad' ou) = S.map (am_v ad ou) := List.map_congr_left (fun v hv => am_v_ag h (List.all_eq_true.mp hS v hv))
theorem am_l_ag {n : Nat} {ad ad' ou : Nat → Nat} {L : List (Option am_V)} {ls : Array Slot} {nL : Nat} (h : ∀ i, i < n → ad' i = ad i) (hL : L.all (am_loO n) = true) (hl : lv_has ls nL (am_l ad ou L)) : lv_has ls nL (am_l ad' ou L) := by
  refine ⟨hl.1, hl.2.1, ?_⟩
  rintro ⟨j, v⟩ hq
  obtain ⟨u, h1, rfl⟩ := am_l_mem.mp hq
  have h2 := List.all_eq_true.mp hL _ (List.mem_of_getElem? h1)
  rw [am_v_ag h h2]
  exact h1 |> am_l_at hl
theorem am_low_inv {n : Nat} {L : List (Option am_V)} {S : List am_V} {w : List am_C} (h : am_low n L S w = true) : L.all (am_loO n) = true ∧ S.all (am_lo n) = true ∧ w.all (am_loC n) = true := by
  simp only [am_low, Bool.and_eq_true] at h
  exact ⟨h.1.1, h.1.2, h.2⟩
/-- what a class's pool entry is, for 'new' -/
def am_NK (s : State) (args : Array Value) (own : String) (Ts : List Jvm.Cond) (cl : List vw_C) (index ci : Nat) (fs : List am_V) : Prop :=
  ∃ (C : String) (F : u_T) (N : Nat) (ty0 : Nat → FieldType), cl[ci]? = some (C, F, N) ∧ (∀ w ∈ u_ws C F N, w ∈ Ts) ∧ (∀ k, k < N → parseFieldDescriptor (F k).2.2.1 = some (ty0 k)) ∧ (Jvm.Cond.classLink own index C).before args s = true ∧ (Jvm.Cond.instantiable C N).before args s = true ∧ (Jvm.Cond.initialized C).before args s = true ∧ fs.length = N ∧ ∀ (ad ou : Nat → Nat) (j : Nat), j < N → defaultValue (ty0 j) = vp_V (fs.map (am_v ad ou)) j
theorem am_o_new {len pc k j : Nat} {ad : Nat → Nat} {kt : am_S → Option am_Z} {L : List (Option am_V)} {S : List am_V} {w : List am_C} {z : am_Z} {x : Nat} {T : am_T} (X : am_X p s m args c cc own Ts D cl tys A nL ca nt) (hN : ∀ index ci fs, T.2.2.2.1 index = some (ci, fs) → am_NK s args own Ts cl index ci fs) (hmc : am_mc T ≤ R.cells) (hms : am_ms T ≤ R.slots) (hd : decode cc pc = .ok (.new x, len)) (h : am_new T len pc L S w k j kt x = some z) (K : ∀ st' : am_S, kt st' = some z → ∀ ad' : Nat → Nat, (∀ i, i < am_n0 T → ad' i = ad i) → am_W p l e R s m args below meth c Q D cl A ou ca nL ad' st') : am_W p l e R s m args below meth c Q D cl A ou ca nL ad (pc, L, S, w, k, j) := by
  unfold am_new at h
  cases hT : T.2.2.2.1 x with
  | none => rw [hT] at h; cases h
  | some y =>
    obtain ⟨ci, fs⟩ := y
    rw [hT] at h
    dsimp only at h
    have hh := am_bt h
    clear h
    obtain ⟨h0, h⟩ := hh
    simp only [Bool.and_eq_true] at h0
    obtain ⟨⟨⟨⟨h1, h2⟩, h3⟩, h4⟩, h5⟩ := h0
    have h3 := Nat.le_of_ble_eq_true h3
    have h4 := Nat.le_of_ble_eq_true h4
    have h5 := Nat.le_of_ble_eq_true h5
    obtain ⟨g1, g2, g3⟩ := am_low_inv h1
    obtain ⟨rfl, hk⟩ := am_nx_inv h
    obtain ⟨C, F, N, ty0, hc, hin, hty, hcl, hins, hini, hlen, hdf⟩ := hN x ci fs hT
    subst hlen
    intro H locs ls hP hD hS hl
    refine va_new (ci := ci) (fs := fs.map (am_v ad ou)) X.1 X.2.1 X.2.2.2.2.1 hin ty0 hty X.2.2.2.1 hcl hins hini X.2.2.2.2.2.1 hP hD hS X.2.2.2.2.2.2.1 hc (hdf ad ou) (Nat.le_trans h4 hmc) (Nat.le_trans h5 hms) hd (fun q H1 hP1 hD1 hS1 => ?_)
    have ha : ∀ i, i < w.length → va_up ad w.length q i = ad i := fun i hi => by
      show (if i = w.length then q else ad i) = ad i
      rw [if_neg (by omega)]
    have hq : va_up ad w.length q w.length = q := by
      show (if w.length = w.length then q else ad w.length) = q
      rw [if_pos rfl]
    have hw : am_w (va_up ad w.length q) ou ca (w ++ [.inr (ci, fs)]) = am_w ad ou ca w ++ [(q, .inr (ci, fs.map (am_v ad ou)))] := by
      rw [am_w_push, am_w_ag ha (Nat.le_refl _) g3, hq]
      have h6 : am_e (va_up ad w.length q) ou ca (.inr (ci, fs)) = am_e ad ou ca (.inr (ci, fs)) := am_e_ag ha h2
      rw [h6]
      rfl
    have R1 := K _ hk (va_up ad w.length q) (fun i hi => ha i (by omega)) H1 locs ls (by dsimp only; rw [hw]; exact hP1) (by dsimp only; rw [hw]; exact hD1) hS1 (am_l_ag ha g1 hl)
    have h7 : (((.inr (.inl w.length) : am_V) :: S).map (am_v (va_up ad w.length q) ou)) = .ref q :: S.map (am_v ad ou) := by
      rw [List.map_cons, am_s_ag ha g2]
      show Value.ref (va_up ad w.length q w.length) :: _ = _
      rw [hq]
    dsimp only at R1
    rw [h7] at R1
    exact R1
theorem am_tyn_ok {a : ArrayType} {t : Nat} (h : am_tyn a = some t) : Op.newarray.typeOf a = am_ty t ∧ (∀ (cA : ClassId) (N : Nat), vp_cell cA (N, am_c t (fun _ => 0)) = arrV cA N (fun _ => defaultValue (am_ty t))) ∧ componentBytes (am_ty t) ≤ 8 ∧ (∀ C, ¬ am_ty t = .object C) := by
  cases a <;> first | (cases h; done) | (cases h; exact ⟨rfl, fun _ _ => rfl, by decide, fun C hC => by cases hC⟩)
theorem am_ra {s : State} {cA cB : ClassId} {ty : FieldType} (hC : ∀ C, ¬ ty = .object C) (h1 : va_RA s cA ty) (h2 : va_RA s cB ty) : cA = cB := by
  cases ty with
  | object C => exact absurd rfl (hC C)
  | _ => exact Option.some.inj (h1.symm.trans h2)
theorem am_o_nwa {len pc k j : Nat} {ad : Nat → Nat} {kt : am_S → Option am_Z} {L : List (Option am_V)} {S : List am_V} {w : List am_C} {z : am_Z} {a : ArrayType} {T : am_T} (X : am_X p s m args c cc own Ts D cl tys A nL ca nt) (hnt : am_nt T = nt) (hmc : am_mc T ≤ R.cells) (hms : am_ms T ≤ R.slots) (hd : decode cc pc = .ok (.newarray a, len)) (h : am_nwa T len pc L S w k j kt a = some z) (K : ∀ st' : am_S, kt st' = some z → ∀ ad' : Nat → Nat, (∀ i, i < am_n0 T → ad' i = ad i) → am_W p l e R s m args below meth c Q D cl A ou ca nL ad' st') : am_W p l e R s m args below meth c Q D cl A ou ca nL ad (pc, L, S, w, k, j) := by
  unfold am_nwa at h
  cases ht : am_tyn a with
  | none => rw [ht] at h; cases h
  | some t =>
    rw [ht] at h
    split at h
    · rename_i t0 n S' e0
      cases e0
      have hh := am_bt h
      clear h
      obtain ⟨h0, h⟩ := hh
      simp only [Bool.and_eq_true] at h0
      obtain ⟨h1, h2, h3, h4, h5, h6, h7⟩ := h0
      have h1 : ¬ n < 0 := by simpa using h1
      have h2 := Nat.le_of_ble_eq_true h2
      have h3 : t < nt := by rw [← hnt]; exact Nat.le_of_ble_eq_true h3
      have h5 := Nat.le_of_ble_eq_true h5
      have h6 := Nat.le_of_ble_eq_true h6
      have h7 := Nat.le_of_ble_eq_true h7
      obtain ⟨g1, g2, g3⟩ := am_low_inv h4
      obtain ⟨rfl, hk⟩ := am_nx_inv h
      obtain ⟨e1, e2, e3, e4⟩ := am_tyn_ok ht
      have hbt : n.toNatClampNeg * componentBytes (am_ty t) ≤ 536870912 := Nat.le_trans (Nat.mul_le_mul_left _ e3) h2
      intro H locs ls hP hD hS hl
      refine va_newa (ty := am_ty t) (a0 := (n.toNatClampNeg, am_c t (fun _ => 0))) X.1 X.2.1 (by rw [e1]; exact X.2.2.2.2.2.2.2.2.1 t h3) e1 X.2.2.2.2.2.1 hP hD hS X.2.2.2.2.2.2.1 (fun cA => e2 cA _) h1 rfl hbt (Nat.le_trans h6 hmc) (Nat.le_trans h7 hms) hd (fun q cA H1 hK1 hP1 hD1 hS1 => ?_)
      have hcA : cA = ca t := by
        have k1 := (hK1.2 tys.length (cA, am_ty t) (by simp)).2
        have k2 := (X.2.2.2.2.2.1.2 t (ca t, am_ty t) (X.2.2.2.2.2.2.2.1 t h3)).2
        exact am_ra e4 k1 k2
      subst hcA
      have ha : ∀ i, i < w.length → va_up ad w.length q i = ad i := fun i hi => by
        show (if i = w.length then q else ad i) = ad i
        rw [if_neg (by omega)]
      have hq : va_up ad w.length q w.length = q := by
        show (if w.length = w.length then q else ad w.length) = q
        rw [if_pos rfl]
      have hw : am_w (va_up ad w.length q) ou ca (w ++ [.inl (t, n.toNatClampNeg, fun _ => 0)]) = am_w ad ou ca w ++ [(q, .inl (ca t, n.toNatClampNeg, am_c t (fun _ => 0)))] := by
        rw [am_w_push, am_w_ag ha (Nat.le_refl _) g3, hq]
        rfl
      have R1 := K _ hk (va_up ad w.length q) (fun i hi => ha i (by omega)) H1 locs ls (by dsimp only; rw [hw]; exact hP1) (by dsimp only; rw [hw]; exact hD1) hS1 (am_l_ag ha g1 hl)
      have h8 : (((.inr (.inl w.length) : am_V) :: S').map (am_v (va_up ad w.length q) ou)) = .ref q :: S'.map (am_v ad ou) := by
        rw [List.map_cons, am_s_ag ha g2]
        show Value.ref (va_up ad w.length q w.length) :: _ = _
        rw [hq]
      dsimp only at R1
      rw [h8] at R1
      exact R1
    · cases h
end AMW
end
section
/-! CALLS -/
theorem am_ix {sel : List Nat} {i : Nat} (h : sel.contains i = true) : sel[sel.idxOf i]? = some i := by
  induction sel with
  | nil => cases h
  | cons a r ih =>
    rw [List.idxOf_cons]
    cases ha : a == i with
    | true =>
      have : a = i := by simpa using ha
      subst this
      rfl
    | false =>
      have hne : ¬ i = a := fun q => by rw [q] at ha; simp at ha
      have h1 : r.contains i = true := by simpa [hne] using h
      simpa using ih h1
theorem am_v_dn {ad ou : Nat → Nat} {sel : List Nat} {v : am_V} (h : am_hin sel v = true) : am_v (fun i => ad (sel.getD i 0)) ou (am_dn sel v) = am_v ad ou v := by
  rcases v with x | q | q
  · rfl
  · show Value.ref (ad (sel.getD (sel.idxOf q) 0)) = Value.ref (ad q)
    rw [List.getD_eq_getElem?_getD, am_ix h]
    rfl
  · cases q <;> rfl
theorem am_e_dn {ad ou : Nat → Nat} {ca : Nat → ClassId} {sel : List Nat} {x : am_C} (h : am_hinC sel x = true) : am_e (fun i => ad (sel.getD i 0)) ou ca (am_dnC sel x) = am_e ad ou ca x := by
  rcases x with ⟨t, m, f⟩ | ⟨c, fs⟩
  · rfl
  · have h1 : (fs.map (am_dn sel)).map (am_v (fun i => ad (sel.getD i 0)) ou) = fs.map (am_v ad ou) := by
      rw [List.map_map]
      exact List.map_congr_left (fun v hv => am_v_dn (List.all_eq_true.mp h v hv))
    simp only [am_dnC, am_e, h1]
theorem am_sub_eq {w : List am_C} {sel : List Nat} (h : ∀ q ∈ sel, q < w.length) : (am_sub w sel).map some = sel.map (fun q => (w[q]?).map (am_dnC sel)) := by
  have key : ∀ (l : List Nat), (∀ q ∈ l, q < w.length) → (l.filterMap (fun q => (w[q]?).map (am_dnC sel))).map some = l.map (fun q => (w[q]?).map (am_dnC sel)) := by
    intro l
    induction l with
    | nil => intro _; rfl
    | cons a r ih =>
      intro hl
      have ha : a < w.length := hl a List.mem_cons_self
      have h1 : w[a]? = some w[a] := List.getElem?_eq_getElem ha
      simp only [List.filterMap_cons, List.map_cons, h1, Option.map_some, ih (fun q hq => hl q (List.mem_cons_of_mem _ hq))]
  exact key sel h
theorem am_sub_get {w : List am_C} {sel : List Nat} {i : Nat} {y : am_C} (h : ∀ q ∈ sel, q < w.length) (hi : (am_sub w sel)[i]? = some y) : ∃ q x, sel[i]? = some q ∧ w[q]? = some x ∧ y = am_dnC sel x := by
  have h1 : ((am_sub w sel).map some)[i]? = some (some y) := by rw [List.getElem?_map, hi]; rfl
  rw [am_sub_eq h, List.getElem?_map] at h1
  cases hs : sel[i]? with
  | none => rw [hs] at h1; cases h1
  | some q =>
    rw [hs] at h1
    have h2 : (w[q]?).map (am_dnC sel) = some y := Option.some.inj h1
    cases hw : w[q]? with
    | none => rw [hw] at h2; cases h2
    | some x =>
      rw [hw] at h2
      exact ⟨q, x, rfl, hw, (Option.some.inj h2).symm⟩
theorem am_sub_len {w : List am_C} {sel : List Nat} (h : ∀ q ∈ sel, q < w.length) : (am_sub w sel).length = sel.length := by
  have h1 := congrArg List.length (am_sub_eq h)
  simpa using h1
/-- where the callee's place t lies behind the call -/
def am_gt (sel : List Nat) (n t : Nat) : Nat := bif Nat.blt t sel.length then sel.getD t 0 else n + (t - sel.length)
theorem am_gt_in {sel : List Nat} {n t q : Nat} (h : sel[t]? = some q) : am_gt sel n t = q := by
  have h1 : t < sel.length := (List.getElem?_eq_some_iff.mp h).1
  unfold am_gt
  rw [show Nat.blt t sel.length = true from Nat.ble_eq_true_of_le h1, List.getD_eq_getElem?_getD, h]
  rfl
theorem am_gt_out {sel : List Nat} {n t : Nat} (h : sel.length ≤ t) : am_gt sel n t = n + (t - sel.length) := by
  unfold am_gt
  cases hb : Nat.blt t sel.length with
  | true => exact absurd (Nat.le_of_ble_eq_true hb) (by omega)
  | false => rfl
theorem am_mx_get (sel : List Nat) (w1 : List am_C) (n : Nat) : ∀ (w : List am_C) (q i : Nat), (am_mx sel w1 n q w)[i]? = (w[i]?).map (am_mxc sel w1 n (q + i)) := by
  intro w
  induction w with
  | nil => intro q i; rfl
  | cons x r ih =>
    intro q i
    cases i with
    | zero => rfl
    | succ i =>
      show (am_mx sel w1 n (q + 1) r)[i]? = (r[i]?).map (am_mxc sel w1 n (q + (i + 1)))
      rw [ih, Nat.add_assoc, Nat.add_comm 1 i]
theorem am_mx_len (sel : List Nat) (w1 : List am_C) (n : Nat) : ∀ (w : List am_C) (q : Nat), (am_mx sel w1 n q w).length = w.length := by
  intro w
  induction w with
  | nil => intro q; rfl
  | cons x r ih =>
    intro q
    show (am_mx sel w1 n (q + 1) r).length + 1 = r.length + 1
    rw [ih]
theorem am_mix_get {w w1 : List am_C} {sel : List Nat} {i : Nat} {y : am_C} (hl : sel.length ≤ w1.length) (hi : (am_mix w sel w1)[i]? = some y) : (∃ x, w[i]? = some x ∧ sel.contains i = false ∧ y = x) ∨ ∃ t x, w1[t]? = some x ∧ y = am_upC sel w.length x ∧ i = am_gt sel w.length t := by
  unfold am_mix at hi
  split at hi
  · exact Or.inl ⟨y, hi, rfl, rfl⟩
  by_cases hn : i < w.length
  · rw [List.getElem?_append_left (by rw [am_mx_len]; exact hn), am_mx_get, List.getElem?_eq_getElem hn, Nat.zero_add] at hi
    have hi := Option.some.inj hi
    unfold am_mxc at hi
    cases hc : sel.contains i with
    | false =>
      rw [hc] at hi
      exact Or.inl ⟨w[i], List.getElem?_eq_getElem hn, rfl, hi.symm⟩
    | true =>
      rw [hc] at hi
      have h1 := am_ix hc
      have h2 : sel.idxOf i < sel.length := (List.getElem?_eq_some_iff.mp h1).1
      have h3 : w1[sel.idxOf i]? = some (w1[sel.idxOf i]'(by omega)) := List.getElem?_eq_getElem (by omega)
      refine Or.inr ⟨sel.idxOf i, _, h3, ?_, (am_gt_in h1).symm⟩
      rw [← hi]
      show am_upC sel w.length (w1.getD (sel.idxOf i) w[i]) = _
      rw [List.getD_eq_getElem?_getD, h3]
      rfl
  · rw [List.getElem?_append_right (by rw [am_mx_len]; omega), List.getElem?_map, List.getElem?_drop] at hi
    simp only [am_mx_len] at hi
    cases hx : w1[sel.length + (i - w.length)]? with
    | none => rw [hx] at hi; cases hi
    | some x =>
      rw [hx] at hi
      refine Or.inr ⟨sel.length + (i - w.length), x, hx, (Option.some.inj hi).symm, ?_⟩
      rw [am_gt_out (by omega)]
      omega
/-- what a call leaves: the answer and the world, at addresses that are the old ones under n0 -/
def am_Qc (D : va_G) (cl : List vw_C) (ou : Nat → Nat) (ca : Nat → ClassId) (n0 : Nat) (ad0 : Nat → Nat) (r : am_Z) (A : Nat → Prop) : Array Value → State → Outcome → State → Prop := fun _ st oc t =>
  (∃ ad : Nat → Nat, (∀ i, i < n0 → ad i = ad0 i) ∧ oc = .returned (r.1.map (am_v ad ou)) ∧ va_P D cl (am_w ad ou ca r.2) t.heap ∧ va_D A (am_w ad ou ca r.2)) ∧ va_F A st t
/-- the call at this pc is one of a method of this meaning -/
def am_CK (p : Program) (l : Launch) (e : Env) (R : Room) (s : State) (m : MethodId) (args : Array Value) (below : List Frame) (meth : Method) (c : Code) (D : va_G) (cl : List vw_C) (A : Nat → Prop) (ou : Nat → Nat) (ca : Nat → ClassId) (nL pc n : Nat) (pre : List am_V → List am_C → Prop) (f : am_M) : Prop :=
  ∀ (a : List am_V) (wc : List am_C) (ad : Nat → Nat) (H : Heap) (locs : List Loc) (ls : Array Slot) (k j : Nat) (rest : List Value), a.length = n → pre a wc → va_P D cl (am_w ad ou ca wc) H → va_D A (am_w ad ou ca wc) → va_S A s.heap H locs → ls.size = nL → (rest.map fun v => v.category).sum ≤ 8 → k + (f a wc).2.2.1 ≤ R.cells → j + (f a wc).2.2.2 ≤ R.slots →
    va_Run p l e R s m args below meth c H locs k j (f a wc).2.2.1 (f a wc).2.2.2 (F0 m pc ls ((a.map (am_v ad ou)).reverse ++ rest)) rest (am_Qc D cl ou ca wc.length ad ((f a wc).1, (f a wc).2.1) (va_A (am_w ad ou ca wc) H.size) #[]) (va_A (am_w ad ou ca wc) H.size)
theorem am_sum1 (ad ou : Nat → Nat) (S : List am_V) : ((S.map (am_v ad ou)).map fun v => v.category).sum = S.length := by
  induction S with
  | nil => rfl
  | cons v S ih => simp only [List.map_cons, List.sum_cons, ih, am_cat, List.length_cons]; omega
/-- addresses behind a call -/
theorem am_after {n0 n : Nat} {ad ad1 ou : Nat → Nat} {sel : List Nat} {L : List (Option am_V)} {S : List am_V} {w w1 : List am_C} {r : Option am_V} (hsel : ∀ q ∈ sel, q < n) (hnw : n = w.length) (hag : ∀ i, i < sel.length → ad1 i = ad (sel.getD i 0))
    (h : ((w1.length == sel.length && (w1.all (am_loC sel.length) && am_loO sel.length r)) || (am_low n L S w && Nat.ble n0 n)) = true) :
    ∃ ad' : Nat → Nat, (∀ i, i < n0 → ad' i = ad i) ∧ (∀ i, i < n → ad' i = ad i) ∧ (∀ t, t < w1.length → ad' (am_gt sel n t) = ad1 t) ∧ (∀ v, r = some v → am_v ad' ou (am_up sel n v) = am_v ad1 ou v) ∧ (∀ (x : am_C) (ca : Nat → ClassId), x ∈ w1 → am_e ad' ou ca (am_upC sel n x) = am_e ad1 ou ca x) ∧ S.map (am_v ad' ou) = S.map (am_v ad ou) ∧ (∀ (x : am_C) (ca : Nat → ClassId), x ∈ w → am_e ad' ou ca x = am_e ad ou ca x) ∧ (∀ (ls : Array Slot) (nL : Nat), lv_has ls nL (am_l ad ou L) → lv_has ls nL (am_l ad' ou L)) := by
  have hin : ∀ t, t < sel.length → ad (am_gt sel n t) = ad1 t := by
    intro t ht
    rw [am_gt_in (List.getElem?_eq_getElem ht), hag t ht, List.getD_eq_getElem?_getD, List.getElem?_eq_getElem ht]
    rfl
  have up : ∀ (ad' : Nat → Nat) (b : Nat), (∀ t, t < b → ad' (am_gt sel n t) = ad1 t) → ∀ v, am_lo b v = true → am_v ad' ou (am_up sel n v) = am_v ad1 ou v := by
    intro ad' b hb v hv
    rcases v with x | q | q
    · rfl
    · show Value.ref (ad' (am_gt sel n q)) = Value.ref (ad1 q)
      rw [hb q (Nat.le_of_ble_eq_true hv)]
    · cases q <;> rfl
  have upC : ∀ (ad' : Nat → Nat) (b : Nat), (∀ t, t < b → ad' (am_gt sel n t) = ad1 t) → ∀ (x : am_C) (ca : Nat → ClassId), am_loC b x = true → am_e ad' ou ca (am_upC sel n x) = am_e ad1 ou ca x := by
    intro ad' b hb x ca hx
    rcases x with ⟨t, m, f⟩ | ⟨c, fs⟩
    · rfl
    · have h1 : (fs.map (am_up sel n)).map (am_v ad' ou) = fs.map (am_v ad1 ou) := by
        rw [List.map_map]
        exact List.map_congr_left (fun v hv => up ad' b hb v (List.all_eq_true.mp hx v hv))
      simp only [am_upC, am_e, h1]
  rw [Bool.or_eq_true] at h
  rcases h with h | h
  · simp only [Bool.and_eq_true] at h
    obtain ⟨h1, h2, h3⟩ := h
    have h1 : w1.length = sel.length := by simpa using h1
    refine ⟨ad, fun _ _ => rfl, fun _ _ => rfl, fun t ht => hin t (by omega), fun v hv => ?_, fun x ca hx => upC ad _ hin x ca (List.all_eq_true.mp h2 x hx), rfl, fun _ _ _ => rfl, fun _ _ q => q⟩
    subst hv
    exact up ad _ hin v h3
  · rw [Bool.and_eq_true] at h
    obtain ⟨g1, g2, g3⟩ := am_low_inv h.1
    have hn := Nat.le_of_ble_eq_true h.2
    obtain ⟨ad', hlo, hhi⟩ : ∃ ad' : Nat → Nat, (∀ i, i < n → ad' i = ad i) ∧ ∀ d, ad' (n + d) = ad1 (sel.length + d) := by
      refine ⟨fun i => if i < n then ad i else ad1 (sel.length + (i - n)), fun i hi => by simp [hi], fun d => ?_⟩
      have : ¬ n + d < n := by omega
      simp [this]
    have hall : ∀ t, ad' (am_gt sel n t) = ad1 t := by
      intro t
      by_cases ht : t < sel.length
      · rw [hlo _ (by rw [am_gt_in (List.getElem?_eq_getElem ht)]; exact hsel _ (List.getElem_mem ht))]
        exact hin t ht
      · rw [am_gt_out (by omega), hhi]
        congr 1
        omega
    have upA : ∀ v, am_v ad' ou (am_up sel n v) = am_v ad1 ou v := by
      intro v
      rcases v with x | q | q
      · rfl
      · show Value.ref (ad' (am_gt sel n q)) = Value.ref (ad1 q)
        rw [hall q]
      · cases q <;> rfl
    refine ⟨ad', fun i hi => hlo i (by omega), hlo, fun t _ => hall t, fun v _ => upA v, fun x ca _ => ?_, am_s_ag hlo g2, fun x ca hx => am_e_ag hlo (List.all_eq_true.mp g3 x hx), fun ls nL hl => am_l_ag hlo g1 hl⟩
    rcases x with ⟨t, m, f⟩ | ⟨c, fs⟩
    · rfl
    · have h1 : (fs.map (am_up sel n)).map (am_v ad' ou) = fs.map (am_v ad1 ou) := by
        rw [List.map_map]
        exact List.map_congr_left (fun v _ => upA v)
      simp only [am_upC, am_e, h1]
section AMK
variable {p : Program} {l : Launch} {e : Env} {R : Room} {s : State} {m : MethodId} {args : Array Value} {below : List Frame} {meth : Method} {c : Code} {Q : State → Prop} {cc : ByteArray} {D : va_G} {cl : List vw_C} {tys : List (ClassId × FieldType)} {A : Nat → Prop} {Ts : List Jvm.Cond} {own : String} {nL nt : Nat} {ou : Nat → Nat} {ca : Nat → ClassId}
theorem am_o_cal {len pc n k j : Nat} {ad : Nat → Nat} {kt : am_S → Option am_Z} {L : List (Option am_V)} {a rest : List am_V} {w : List am_C} {z : am_Z} {T : am_T} {sel : List Nat} {pre : List am_V → List am_C → Prop} {f : am_M} (X : am_X p s m args c cc own Ts D cl tys A nL ca nt) (hCK : am_CK p l e R s m args below meth c D cl A ou ca nL pc n pre f) (han : a.length = n) (hmc : am_mc T ≤ R.cells) (hms : am_ms T ≤ R.slots) (h : am_cal T len pc L w k j kt a rest sel pre f = some z)
    (K : ∀ st' : am_S, kt st' = some z → ∀ ad' : Nat → Nat, (∀ i, i < am_n0 T → ad' i = ad i) → am_W p l e R s m args below meth c Q D cl A ou ca nL ad' st') : am_W p l e R s m args below meth c Q D cl A ou ca nL ad (pc, L, a.reverse ++ rest, w, k, j) := by
  unfold am_cal at h
  have hh := am_chq_inv h
  clear h
  obtain ⟨hsok, h⟩ := hh
  have hh := am_bt h
  clear h
  obtain ⟨s3, h⟩ := hh
  simp only [am_sow, Bool.and_eq_true] at hsok
  obtain ⟨s1, s2, s4⟩ := hsok
  have hsel : ∀ q ∈ sel, q < w.length := fun q hq => Nat.le_of_ble_eq_true (List.all_eq_true.mp s1 q hq)
  by_cases hp : pre (a.map (am_dn sel)) (am_sub w sel)
  · rw [if_pos hp] at h
    generalize hr : f (a.map (am_dn sel)) (am_sub w sel) = r at h
    unfold am_aft at h
    have hh := am_chq_inv h
    clear h
    obtain ⟨h9, h⟩ := hh
    rw [Bool.and_eq_true] at h9
    obtain ⟨h1, h5⟩ := h9
    have hh := am_bt h
    clear h
    obtain ⟨h0, h⟩ := hh
    simp only [Bool.and_eq_true] at h0
    obtain ⟨h2, h3, h4⟩ := h0
    have h1 := Nat.le_of_ble_eq_true h1
    have h2 := Nat.le_of_ble_eq_true h2
    have h3 := Nat.le_of_ble_eq_true h3
    have h4 := Nat.le_of_ble_eq_true h4
    unfold am_sx at h
    rw [if_pos rfl] at h
    obtain ⟨rfl, hk⟩ := am_nx_inv h
    intro H locs ls hP hD hS hl
    have hcell : ∀ q ∈ sel, ∀ x, w[q]? = some x → am_hinC sel x = true := fun q hq x hx => by
      have g := List.all_eq_true.mp s4 q hq
      rw [hx] at g
      exact g
    have hgetC : ∀ (i : Nat) (q : Nat × va_E), (am_w (fun i => ad (sel.getD i 0)) ou ca (am_sub w sel))[i]? = some q → ∃ b, sel[i]? = some b ∧ (am_w ad ou ca w)[b]? = some q := by
      intro i q hq
      obtain ⟨y, hy, rfl⟩ := am_w_inv hq
      obtain ⟨b, x, e1, e2, rfl⟩ := am_sub_get hsel hy
      refine ⟨b, e1, ?_⟩
      rw [am_w_get e2, am_e_dn (hcell b (List.mem_of_getElem? e1) x e2), List.getD_eq_getElem?_getD, e1]
      rfl
    have hPc : va_P D cl (am_w (fun i => ad (sel.getD i 0)) ou ca (am_sub w sel)) H := fun i q hq => by
      obtain ⟨b, -, e2⟩ := hgetC i q hq
      exact hP b q e2
    have hDc : va_D A (am_w (fun i => ad (sel.getD i 0)) ou ca (am_sub w sel)) := by
      refine ⟨fun i i' q q' hq hq' he => ?_, fun i q hq => ?_⟩
      · obtain ⟨b, e1, e2⟩ := hgetC i q hq
        obtain ⟨b', e1', e2'⟩ := hgetC i' q' hq'
        have hbb : b = b' := hD.1 b b' q q' e2 e2' he
        subst hbb
        exact va_nd_inj sel s2 i i' b e1 e1'
      · obtain ⟨b, -, e2⟩ := hgetC i q hq
        exact hD.2 b q e2
    have hfree : ∀ q, va_A (am_w (fun i => ad (sel.getD i 0)) ou ca (am_sub w sel)) H.size q → A q := by
      intro q hq
      rcases hq with ⟨i, y, hq⟩ | hq
      · exact hDc.2 i (q, y) hq
      · exact X.2.2.2.2.2.2.1 q (Nat.le_trans hS.1 hq)
    have hst : (a.reverse ++ rest).map (am_v ad ou) = ((a.map (am_dn sel)).map (am_v (fun i => ad (sel.getD i 0)) ou)).reverse ++ rest.map (am_v ad ou) := by
      have g1 : (a.map (am_dn sel)).map (am_v (fun i => ad (sel.getD i 0)) ou) = a.map (am_v ad ou) := by
        rw [List.map_map]
        exact List.map_congr_left (fun v hv => am_v_dn (List.all_eq_true.mp s3 v hv))
      rw [g1, List.map_append, List.map_reverse]
    have run := hCK (a.map (am_dn sel)) (am_sub w sel) (fun i => ad (sel.getD i 0)) H locs ls k j (rest.map (am_v ad ou)) (by rw [List.length_map]; exact han) hp hPc hDc hS hl.1 (by rw [am_sum1]; exact h4) (by rw [hr]; omega) (by rw [hr]; omega)
    rw [hr] at run
    dsimp only
    rw [hst]
    intro T0 hT0 X0
    obtain ⟨v, st₀, t, T', L', g0, X', hL, e1, e2, ⟨⟨ad1, hag, ho, hP1, hD1⟩, hz, hkp⟩, stp⟩ := run T0 hT0 X0
    cases ho
    rw [g0] at hz hkp
    rw [am_sub_len hsel] at hag
    obtain ⟨ad', a0, aL, aT, aR, aC, aS, aW, aLs⟩ := am_after (n0 := am_n0 T) (n := w.length) (ad := ad) (ad1 := ad1) (ou := ou) (sel := sel) (L := L) (S := rest) (w := w) (w1 := r.2.1) (r := r.1) hsel rfl hag h5
    have hget : ∀ (i : Nat) (q : Nat × va_E), (am_w ad' ou ca (am_mix w sel r.2.1))[i]? = some q → ((am_w ad ou ca w)[i]? = some q ∧ sel.contains i = false) ∨ ∃ b, (am_w ad1 ou ca r.2.1)[b]? = some q ∧ i = am_gt sel w.length b := by
      intro i q hq
      obtain ⟨y, hy, rfl⟩ := am_w_inv hq
      rcases am_mix_get h1 hy with ⟨x, x1, x2, rfl⟩ | ⟨b, x, x1, rfl, rfl⟩
      · refine Or.inl ⟨?_, x2⟩
        rw [am_w_get x1, aW _ ca (List.mem_of_getElem? x1), aL i (List.getElem?_eq_some_iff.mp x1).1]
      · refine Or.inr ⟨b, ?_, rfl⟩
        rw [am_w_get x1, aC _ ca (List.mem_of_getElem? x1), aT b (List.getElem?_eq_some_iff.mp x1).1]
    have hapart : ∀ (i : Nat) (q : Nat × va_E), (am_w ad ou ca w)[i]? = some q → sel.contains i = false → q.1 < H.size ∧ ¬ va_A (am_w (fun i => ad (sel.getD i 0)) ou ca (am_sub w sel)) H.size q.1 := by
      intro i q hq hc
      have hlt := (hP i q hq).lt
      refine ⟨hlt, fun hA => ?_⟩
      rcases hA with ⟨b, y, hb⟩ | hA
      · obtain ⟨b', e1', e2'⟩ := hgetC b (q.1, y) hb
        have hib := hD.1 i b' q (q.1, y) hq e2' rfl
        subst hib
        have hm : i ∈ sel := List.mem_of_getElem? e1'
        rw [List.contains_iff_mem.mpr hm] at hc
        cases hc
      · omega
    have hP2 : va_P D cl (am_w ad' ou ca (am_mix w sel r.2.1)) t.heap := by
      intro i q hq
      rcases hget i q hq with ⟨x1, x2⟩ | ⟨b, x1, -⟩
      · obtain ⟨y1, y2⟩ := hapart i q x1 x2
        exact (hP i q x1).kept (hkp q.1 y1 y2)
      · exact hP1 b q x1
    have hD2 : va_D A (am_w ad' ou ca (am_mix w sel r.2.1)) := by
      refine ⟨fun i i' q q' hq hq' he => ?_, fun i q hq => ?_⟩
      · rcases hget i q hq with ⟨x1, x2⟩ | ⟨b, x1, rfl⟩
        · rcases hget i' q' hq' with ⟨x1', x2'⟩ | ⟨b', x1', rfl⟩
          · exact hD.1 i i' q q' x1 x1' he
          · exact absurd (hD1.2 b' q' x1') (by rw [← he]; exact (hapart i q x1 x2).2)
        · rcases hget i' q' hq' with ⟨x1', x2'⟩ | ⟨b', x1', rfl⟩
          · exact absurd (hD1.2 b q x1) (by rw [he]; exact (hapart i' q' x1' x2').2)
          · rw [hD1.1 b b' q q' x1 x1' he]
      · rcases hget i q hq with ⟨x1, -⟩ | ⟨b, x1, -⟩
        · exact hD.2 i q x1
        · exact hfree _ (hD1.2 b q x1)
    have hS2 : va_S A s.heap t.heap (locs ++ L') := ⟨Nat.le_trans hS.1 hz, fun q q1 q2 => by rw [hkp q (Nat.lt_of_lt_of_le q1 hS.1) (fun y => q2 (hfree q y))]; exact hS.2.1 q q1 q2, fun q hq => by
      rcases List.mem_append.mp hq with y | y
      · exact hS.2.2 q y
      · exact hfree _ (hL q y)⟩
    obtain ⟨t2, a1, b1⟩ := K _ hk ad' a0 t.heap (locs ++ L') ls hP2 hD2 hS2 (aLs ls nL hl) T' e1 X'
    refine ⟨t2, stp t2 ?_, b1⟩
    have hstk : (am_ans sel w.length r.1 ++ rest).map (am_v ad' ou) = (r.1.map (am_v ad1 ou)).toList ++ rest.map (am_v ad ou) := by
      rw [List.map_append, aS]
      congr 1
      cases hr1 : r.1 with
      | none => rfl
      | some v =>
        show [am_v ad' ou (am_up sel w.length v)] = [am_v ad1 ou v]
        rw [aR v hr1]
    dsimp only at a1
    rw [hstk] at a1
    exact a1
  · rw [if_neg hp] at h
    cases h
theorem am_o_caw {len pc n k j : Nat} {ad : Nat → Nat} {kt : am_S → Option am_Z} {L : List (Option am_V)} {a rest : List am_V} {w : List am_C} {z : am_Z} {T : am_T} {pre : List am_V → List am_C → Prop} {f : am_M} (X : am_X p s m args c cc own Ts D cl tys A nL ca nt) (hCK : am_CK p l e R s m args below meth c D cl A ou ca nL pc n pre f) (han : a.length = n) (hmc : am_mc T ≤ R.cells) (hms : am_ms T ≤ R.slots) (h : am_caw T len pc L w k j kt a rest pre f = some z)
    (K : ∀ st' : am_S, kt st' = some z → ∀ ad' : Nat → Nat, (∀ i, i < am_n0 T → ad' i = ad i) → am_W p l e R s m args below meth c Q D cl A ou ca nL ad' st') : am_W p l e R s m args below meth c Q D cl A ou ca nL ad (pc, L, a.reverse ++ rest, w, k, j) := by
  unfold am_caw at h
  by_cases hp : pre a w
  · rw [if_pos hp] at h
    generalize hr : f a w = r at h
    unfold am_afw at h
    have hh := am_chk_inv h
    clear h
    obtain ⟨h5, h⟩ := hh
    unfold am_afx at h
    have hh := am_bt h
    clear h
    obtain ⟨h0, h⟩ := hh
    simp only [Bool.and_eq_true] at h0
    obtain ⟨h1, h2, h3, h4, h6, h7⟩ := h0
    have h1 := Nat.le_of_ble_eq_true h1
    have h2 := Nat.le_of_ble_eq_true h2
    have h3 := Nat.le_of_ble_eq_true h3
    have h4 := Nat.le_of_ble_eq_true h4
    have h7 := Nat.le_of_ble_eq_true h7
    obtain ⟨rfl, hk⟩ := am_nx_inv h
    intro H locs ls hP hD hS hl
    have hfree : ∀ q, va_A (am_w ad ou ca w) H.size q → A q := by
      intro q hq
      rcases hq with ⟨i, y, hq⟩ | hq
      · exact hD.2 i (q, y) hq
      · exact X.2.2.2.2.2.2.1 q (Nat.le_trans hS.1 hq)
    have hst : (a.reverse ++ rest).map (am_v ad ou) = (a.map (am_v ad ou)).reverse ++ rest.map (am_v ad ou) := by
      rw [List.map_append, List.map_reverse]
    have run := hCK a w ad H locs ls k j (rest.map (am_v ad ou)) han hp hP hD hS hl.1 (by rw [am_sum1]; exact h4) (by rw [hr]; omega) (by rw [hr]; omega)
    rw [hr] at run
    dsimp only
    rw [hst]
    intro T0 hT0 X0
    obtain ⟨v, st₀, t, T', L', g0, X', hL, e1, e2, ⟨⟨ad1, hag, ho, hP1, hD1⟩, hz, hkp⟩, stp⟩ := run T0 hT0 X0
    cases ho
    rw [g0] at hz hkp
    have hS2 : va_S A s.heap t.heap (locs ++ L') := ⟨Nat.le_trans hS.1 hz, fun q q1 q2 => by rw [hkp q (Nat.lt_of_lt_of_le q1 hS.1) (fun y => q2 (hfree q y))]; exact hS.2.1 q q1 q2, fun q hq => by
      rcases List.mem_append.mp hq with y | y
      · exact hS.2.2 q y
      · exact hfree _ (hL q y)⟩
    have hD2 : va_D A (am_w ad1 ou ca r.2.1) := ⟨hD1.1, fun i q hq => hfree _ (hD1.2 i q hq)⟩
    obtain ⟨t2, a1, b1⟩ := K _ hk ad1 (fun i hi => hag i (by omega)) t.heap (locs ++ L') ls hP1 hD2 hS2 (am_l_ag hag h5 hl) T' e1 X'
    refine ⟨t2, stp t2 ?_, b1⟩
    have hstk : (r.1.toList ++ rest).map (am_v ad1 ou) = (r.1.map (am_v ad1 ou)).toList ++ rest.map (am_v ad ou) := by
      rw [List.map_append, am_s_ag hag h6]
      congr 1
      cases r.1 <;> rfl
    dsimp only at a1
    rw [hstk] at a1
    exact a1
  · rw [if_neg hp] at h
    cases h
theorem am_o_inv {len pc k j : Nat} {ad : Nat → Nat} {kt : am_S → Option am_Z} {L : List (Option am_V)} {S : List am_V} {w : List am_C} {z : am_Z} {T : am_T} (X : am_X p s m args c cc own Ts D cl tys A nL ca nt) (hC : ∀ sel n pre f, T.2.2.2.2.2.1 pc = some (sel, n, pre, f) → am_CK p l e R s m args below meth c D cl A ou ca nL pc n pre f) (hmc : am_mc T ≤ R.cells) (hms : am_ms T ≤ R.slots) (h : am_inv T len pc L w k j kt S = some z)
    (K : ∀ st' : am_S, kt st' = some z → ∀ ad' : Nat → Nat, (∀ i, i < am_n0 T → ad' i = ad i) → am_W p l e R s m args below meth c Q D cl A ou ca nL ad' st') : am_W p l e R s m args below meth c Q D cl A ou ca nL ad (pc, L, S, w, k, j) := by
  unfold am_inv at h
  cases hT : T.2.2.2.2.2.1 pc with
  | none => rw [hT] at h; cases h
  | some y =>
    obtain ⟨sel, n, pre, f⟩ := y
    rw [hT] at h
    cases sel with
    | none =>
      dsimp only at h
      have hh := am_bt h
      clear h
      obtain ⟨h0, h⟩ := hh
      have h0 := Nat.le_of_ble_eq_true h0
      have R1 := am_o_caw X (hC none n pre f hT) (by rw [List.length_reverse, List.length_take]; omega) hmc hms h K
      rw [List.reverse_reverse, List.take_append_drop] at R1
      exact R1
    | some sel =>
      dsimp only at h
      have hh := am_bt h
      clear h
      obtain ⟨h0, h⟩ := hh
      have h0 := Nat.le_of_ble_eq_true h0
      have R1 := am_o_cal X (hC (some sel) n pre f hT) (by rw [List.length_reverse, List.length_take]; omega) hmc hms h K
      rw [List.reverse_reverse, List.take_append_drop] at R1
      exact R1
end AMK
end
section
/-! THE MACHINE IS SOUND -/
def am_LK (s : State) (own : String) (args : Array Value) (ou : Nat → Nat) (x : Nat) (v : am_V) : Prop := (∃ n, v = .inl n ∧ (Jvm.Cond.constant own x n).before args s = true) ∨ ∃ k tx, v = .inr (.inr (k + 1)) ∧ vk_R own x tx (ou k) s
/-- the tables of a method say what is so -/
def am_TK (p : Program) (l : Launch) (e : Env) (R : Room) (s : State) (m : MethodId) (args : Array Value) (below : List Frame) (meth : Method) (c : Code) (cc : ByteArray) (own : String) (Ts : List Jvm.Cond) (D : va_G) (cl : List vw_C) (A : Nat → Prop) (ou : Nat → Nat) (ca : Nat → ClassId) (nL nt : Nat) (T : am_T) : Prop :=
  (∀ q ∈ T.1, decode cc q.1 = .ok q.2) ∧ (∀ index ci fi mode, T.2.1 index = some (ci, fi, mode) → am_FK s args meth own Ts cl T.2.2.1 index ci fi mode) ∧ (∀ index ci fs, T.2.2.2.1 index = some (ci, fs) → am_NK s args own Ts cl index ci fs) ∧ (∀ x v, T.2.2.2.2.1 x = some v → am_LK s own args ou x v) ∧
  (∀ pc sel n pre f, T.2.2.2.2.2.1 pc = some (sel, n, pre, f) → am_CK p l e R s m args below meth c D cl A ou ca nL pc n pre f) ∧ (∀ o t n f, T.2.2.2.2.2.2.1 o = some (t, n, f) → va_T (am_ty t) (ou o) n (fun j => .int (f j)) A s s.heap) ∧ am_nt T = nt ∧ am_nl T = nL ∧ am_mc T ≤ R.cells ∧ am_ms T ≤ R.slots
section AMS
variable {p : Program} {l : Launch} {e : Env} {R : Room} {s : State} {m : MethodId} {args : Array Value} {below : List Frame} {meth : Method} {c : Code} {Q : State → Prop} {cc : ByteArray} {D : va_G} {cl : List vw_C} {tys : List (ClassId × FieldType)} {A : Nat → Prop} {Ts : List Jvm.Cond} {own : String} {nL nt : Nat} {ou : Nat → Nat} {ca : Nat → ClassId}
theorem am_do_ok {i : Instr} {len pc k j : Nat} {ad : Nat → Nat} {kt : am_S → Option am_Z} {L : List (Option am_V)} {S : List am_V} {w : List am_C} {z : am_Z} {T : am_T} (X : am_X p s m args c cc own Ts D cl tys A nL ca nt) (Y : am_TK p l e R s m args below meth c cc own Ts D cl A ou ca nL nt T) (hd : decode cc pc = .ok (i, len)) (h : am_do T i len pc L S w k j kt = some z)
    (hret : am_ret T i len S w k j = some z → am_W p l e R s m args below meth c Q D cl A ou ca nL ad (pc, L, S, w, k, j)) (K : ∀ st' : am_S, kt st' = some z → ∀ ad' : Nat → Nat, (∀ i, i < am_n0 T → ad' i = ad i) → am_W p l e R s m args below meth c Q D cl A ou ca nL ad' st') : am_W p l e R s m args below meth c Q D cl A ou ca nL ad (pc, L, S, w, k, j) := by
  obtain ⟨y1, y2, y3, y4, y5, y6, y7, y8, y9, y10⟩ := Y
  have K1 : ∀ st' : am_S, kt st' = some z → am_W p l e R s m args below meth c Q D cl A ou ca nL ad st' := fun st' hk => K st' hk ad (fun _ _ => rfl)
  cases i with
  | iload_n x => exact am_o_iload_n X hd h K1
  | iload x => exact am_o_iload X hd h K1
  | aload_n x => exact am_o_aload_n X hd h K1
  | aload x => exact am_o_aload X hd h K1
  | istore_n x => exact am_o_istore_n X y8 hd h K1
  | istore x => exact am_o_istore X y8 hd h K1
  | astore_n x => exact am_o_astore_n X y8 hd h K1
  | astore x => exact am_o_astore X y8 hd h K1
  | iinc x n => exact am_o_iinc X y8 hd h K1
  | iconst n => exact am_o_iconst X hd h K1
  | bipush n => exact am_o_bipush X hd h K1
  | sipush n => exact am_o_sipush X hd h K1
  | aconst_null => exact am_o_null X hd h K1
  | iadd => exact am_o_iadd X hd h K1
  | isub => exact am_o_isub X hd h K1
  | imul => exact am_o_imul X hd h K1
  | iand => exact am_o_iand X hd h K1
  | ior => exact am_o_ior X hd h K1
  | ixor => exact am_o_ixor X hd h K1
  | ishl => exact am_o_ishl X hd h K1
  | ishr => exact am_o_ishr X hd h K1
  | iushr => exact am_o_iushr X hd h K1
  | idiv => exact am_o_idiv X hd h K1
  | irem => exact am_o_irem X hd h K1
  | ineg => exact am_o_ineg X hd h K1
  | i2c => exact am_o_i2c X hd h K1
  | i2b => exact am_o_i2b X hd h K1
  | ldc x => 
    dsimp only [am_do] at h
    cases hT : T.2.2.2.2.1 x with
    | none => rw [hT] at h; cases h
    | some v =>
      rw [hT] at h
      obtain ⟨rfl, hk⟩ := am_nx_inv h
      rcases y4 x v hT with ⟨n, rfl, hc⟩ | ⟨q, tx, rfl, hc⟩
      · exact fun H locs ls hP hD hS hl => lv_ldc X.1 X.2.1 X.2.2.2.1 hc hd (K1 _ hk H locs ls hP hD hS hl)
      · exact fun H locs ls hP hD hS hl => va_ldcS X.1 X.2.1 X.2.2.2.1 hc hd (K1 _ hk H locs ls hP hD hS hl)
  | dup => 
    dsimp only [am_do] at h
    split at h
    · obtain ⟨rfl, hk⟩ := am_nx_inv h
      exact fun H locs ls hP hD hS hl => lv_dup X.1 X.2.1 hd (am_cat _ _ _) (K1 _ hk H locs ls hP hD hS hl)
    · cases h
  | pop => 
    dsimp only [am_do] at h
    split at h
    · obtain ⟨rfl, hk⟩ := am_nx_inv h
      exact fun H locs ls hP hD hS hl => lv_pop X.1 X.2.1 hd (am_cat _ _ _) (K1 _ hk H locs ls hP hD hS hl)
    · cases h
  | dup2 => 
    dsimp only [am_do] at h
    split at h
    · obtain ⟨rfl, hk⟩ := am_nx_inv h
      exact fun H locs ls hP hD hS hl => lv_dup2_11 X.1 X.2.1 hd (am_cat _ _ _) (am_cat _ _ _) (K1 _ hk H locs ls hP hD hS hl)
    · cases h
  | dup_x1 => 
    dsimp only [am_do] at h
    split at h
    · obtain ⟨rfl, hk⟩ := am_nx_inv h
      exact fun H locs ls hP hD hS hl => lv_dup_x1 X.1 X.2.1 hd (am_cat _ _ _) (am_cat _ _ _) (K1 _ hk H locs ls hP hD hS hl)
    · cases h
  | dup_x2 => 
    dsimp only [am_do] at h
    split at h
    · obtain ⟨rfl, hk⟩ := am_nx_inv h
      exact fun H locs ls hP hD hS hl => lv_dup_x2 X.1 X.2.1 hd (am_cat _ _ _) (am_cat _ _ _) (am_cat _ _ _) (K1 _ hk H locs ls hP hD hS hl)
    · cases h
  | ifCond cd off => exact am_o_ifz X hd h K1
  | if_icmp cd off => exact am_o_icm X hd h K1
  | goto off => exact am_o_goto X hd h K1
  | tableswitch d lo hi offs => exact am_o_tsw X hd h K1
  | lookupswitch d ps => exact am_o_lsw X hd h K1
  | getfield x =>
    dsimp only [am_do] at h
    split at h
    · exact am_o_inv X (y5 pc) y9 y10 h K
    · exact am_o_gtf X y2 hd h K1
  | getstatic x => exact am_o_inv X (y5 pc) y9 y10 h K
  | putfield x => exact am_o_ptf X y2 hd h K1
  | iaload => exact am_o_arli X y7 y6 hd h K1
  | caload => exact am_o_arlc X y7 y6 hd h K1
  | baload => exact am_o_arlz X y7 y6 hd h K1
  | iastore => exact am_o_arsi X y7 hd h K1
  | castore => exact am_o_arsc X y7 hd h K1
  | bastore => exact am_o_arsz X y7 hd h K1
  | arraylength => exact am_o_aln X y7 y6 hd h K1
  | new x => exact am_o_new X y3 y9 y10 hd h K
  | newarray a => exact am_o_nwa X y7 y9 y10 hd h K
  | invokevirtual x => exact am_o_inv X (y5 pc) y9 y10 h K
  | invokestatic x => exact am_o_inv X (y5 pc) y9 y10 h K
  | invokespecial x => exact am_o_inv X (y5 pc) y9 y10 h K
  | _ => exact hret h
theorem am_go_ok {cuts : List Nat} {kt : am_S → Option am_Z} {z : am_Z} {T : am_T} {ad0 : Nat → Nat} (X : am_X p s m args c cc own Ts D cl tys A nL ca nt) (Y : am_TK p l e R s m args below meth c cc own Ts D cl A ou ca nL nt T)
    (hret : ∀ (i : Instr) (len pc : Nat) (L : List (Option am_V)) (S : List am_V) (w : List am_C) (k j : Nat), decode cc pc = .ok (i, len) → am_ret T i len S w k j = some z → ∀ ad : Nat → Nat, (∀ i, i < am_n0 T → ad i = ad0 i) → am_W p l e R s m args below meth c Q D cl A ou ca nL ad (pc, L, S, w, k, j)) 
    (K : ∀ st' : am_S, kt st' = some z → ∀ ad' : Nat → Nat, (∀ i, i < am_n0 T → ad' i = ad0 i) → am_W p l e R s m args below meth c Q D cl A ou ca nL ad' st') : ∀ (n : Nat) (st : am_S), am_go T cuts n st kt = some z → ∀ ad : Nat → Nat, (∀ i, i < am_n0 T → ad i = ad0 i) → am_W p l e R s m args below meth c Q D cl A ou ca nL ad st := by
  intro n
  induction n with
  | zero => intro st h; cases h
  | succ n ih =>
    intro st h ad had
    obtain ⟨pc, L, S, w, k, j⟩ := st
    unfold am_go at h
    dsimp only at h
    cases hT : am_at T.1 pc with
    | none => rw [hT] at h; cases h
    | some y =>
      obtain ⟨i, len⟩ := y
      rw [hT] at h
      have hd : decode cc pc = .ok (i, len) := Y.1 (pc, i, len) (am_at_mem hT)
      refine am_do_ok X Y hd h (fun hr => hret i len pc L S w k j hd hr ad had) (fun st' hk ad' ha => ?_)
      cases hc : cuts.contains st'.1 with
      | true =>
        rw [hc] at hk
        exact K st' hk ad' (fun i hi => (ha i hi).trans (had i hi))
      | false =>
        rw [hc] at hk
        exact ih st' hk ad' (fun i hi => (ha i hi).trans (had i hi))
theorem am_ev_ok {cuts : List Nat} {z : am_Z} {T : am_T} {ad0 : Nat → Nat} (X : am_X p s m args c cc own Ts D cl tys A nL ca nt) (Y : am_TK p l e R s m args below meth c cc own Ts D cl A ou ca nL nt T)
    (hret : ∀ (i : Instr) (len pc : Nat) (L : List (Option am_V)) (S : List am_V) (w : List am_C) (k j : Nat), decode cc pc = .ok (i, len) → am_ret T i len S w k j = some z → ∀ ad : Nat → Nat, (∀ i, i < am_n0 T → ad i = ad0 i) → am_W p l e R s m args below meth c Q D cl A ou ca nL ad (pc, L, S, w, k, j)) : ∀ (n : Nat) (st : am_S), am_ev T cuts n st = some z → ∀ ad : Nat → Nat, (∀ i, i < am_n0 T → ad i = ad0 i) → am_W p l e R s m args below meth c Q D cl A ou ca nL ad st := by
  intro n
  induction n with
  | zero => intro st h; cases h
  | succ n ih =>
    intro st h
    unfold am_ev at h
    exact am_go_ok X Y hret ih 400 st h
theorem am_ret_ok {i : Instr} {len pc k j : Nat} {ad ad0 : Nat → Nat} {L : List (Option am_V)} {S : List am_V} {w : List am_C} {z : am_Z} {T : am_T} (X : am_X p s m args c cc own Ts D cl tys A nL ca nt) (hr : meth.sig.returnType = am_rt T) (hlocks : meth.locks = false) (hd : decode cc pc = .ok (i, len)) (h : am_ret T i len S w k j = some z) (had : ∀ i, i < am_n0 T → ad i = ad0 i) : am_W p l e R s m args below meth c (MQ below (am_Qc D cl ou ca (am_n0 T) ad0 z A) args s (am_mc T) (am_ms T) A) D cl A ou ca nL ad (pc, L, S, w, k, j) := by
  intro H locs ls hP hD hS hl
  have hend : ∀ {x : Option am_Z}, (bif am_end T len k j then x else none) = some z → len = 1 ∧ k ≤ am_mc T ∧ j ≤ am_ms T ∧ x = some z := by
    intro x hq
    obtain ⟨h1, h2⟩ := am_bt hq
    simp only [am_end, Bool.and_eq_true] at h1
    exact ⟨by simpa using h1.1, Nat.le_of_ble_eq_true h1.2.1, Nat.le_of_ble_eq_true h1.2.2, h2⟩
  cases i with
  | return_ =>
    have hh := hend h
    clear h
    obtain ⟨rfl, hk, hj, h⟩ := hh
    cases ht : am_rt T with
    | some ty => rw [ht] at h; cases h
    | none =>
      rw [ht] at h hr
      cases S with
      | cons v S => cases h
      | nil =>
        cases h
        refine W.widen (k := am_mc T) (n := am_ms T) hk hj ?_
        exact W.vret X.1 X.2.1 hr (fun t ht hW => ⟨⟨ad, had, rfl, by rw [ht]; exact hP, hD⟩, hS.F ht⟩) hS.2.2 hd hlocks
  | ireturn =>
    have hh := hend h
    clear h
    obtain ⟨rfl, hk, hj, h⟩ := hh
    cases ht : am_rt T with
    | none => rw [ht] at h; cases h
    | some ty =>
      rw [ht] at h hr
      rcases S with _ | ⟨v, _ | ⟨u, S⟩⟩
      · cases h
      rcases v with v | v
      · have hh := am_fic_inv h
        clear h
        obtain ⟨h1, h⟩ := hh
        cases h
        refine W.widen (k := am_mc T) (n := am_ms T) hk hj ?_
        exact W.zret X.1 X.2.1 hr (am_fit_ok ad ou h1).1 (fun t ht hW => ⟨⟨ad, had, rfl, by rw [ht]; exact hP, hD⟩, hS.F ht⟩) hS.2.2 hd hlocks
      · cases h
      · rcases v with v | v <;> cases h
  | areturn =>
    have hh := hend h
    clear h
    obtain ⟨rfl, hk, hj, h⟩ := hh
    cases ht : am_rt T with
    | none => rw [ht] at h; cases h
    | some ty =>
      rw [ht] at h hr
      rcases S with _ | ⟨v, _ | ⟨u, S⟩⟩
      · cases h
      rcases v with v | v
      · cases h
      · have hh := am_fic_inv h
        clear h
        obtain ⟨h1, h⟩ := hh
        cases h
        refine W.widen (k := am_mc T) (n := am_ms T) hk hj ?_
        refine W.aret X.1 X.2.1 hr ?_ ?_ (fun t ht hW => ⟨⟨ad, had, rfl, by rw [ht]; exact hP, hD⟩, hS.F ht⟩) hS.2.2 hd hlocks
        · cases ty with
          | object n => exact Or.inl ⟨n, rfl⟩
          | array n => exact Or.inr ⟨n, rfl⟩
          | _ => cases h1
        · rcases v with q | q
          · exact Or.inr ⟨_, rfl⟩
          · cases q with
            | zero => exact Or.inl rfl
            | succ q => exact Or.inr ⟨_, rfl⟩
      · rcases v with v | v <;> cases h
  | _ => cases h
end AMS
theorem am_args {ad ou : Nat → Nat} {a : List am_V} : ∀ (d i : Nat) (u : am_V), a[i]? = some u → (d + i, am_v ad ou u) ∈ lv_args d (a.map (am_v ad ou)) := by
  induction a with
  | nil => intro d i u h; cases h
  | cons v r ih =>
    intro d i u h
    rw [List.map_cons]
    unfold lv_args
    rw [if_neg (by rw [am_cat]; decide)]
    cases i with
    | zero =>
      have h1 : v = u := Option.some.inj h
      subst h1
      exact List.mem_cons_self
    | succ i =>
      have h1 := ih (d + 1) i u (by simpa using h)
      rw [show d + (i + 1) = d + 1 + i by omega]
      exact List.mem_cons_of_mem _ h1
/-- the local variables at the start -/
def am_L0 (a : List am_V) (nL : Nat) : List (Option am_V) := a.map some ++ List.replicate (nL - a.length) none
theorem am_L0_ok {ad ou : Nat → Nat} {a : List am_V} {nL : Nat} {ls : Array Slot} (h : lv_has ls nL (lv_args 0 (a.map (am_v ad ou)))) : lv_has ls nL (am_l ad ou (am_L0 a nL)) := by
  refine ⟨h.1, h.2.1, ?_⟩
  rintro ⟨j, v⟩ hq
  obtain ⟨u, h1, rfl⟩ := am_l_mem.mp hq
  apply h.2.2 (j, _)
  have h2 : a[j]? = some u := by
    unfold am_L0 at h1
    by_cases hj : j < a.length
    · rw [List.getElem?_append_left (by simpa using hj), List.getElem?_map] at h1
      cases ha : a[j]? with
      | none => rw [ha] at h1; cases h1
      | some x => rw [ha] at h1; rw [Option.some.inj (Option.some.inj h1)]
    · rw [List.getElem?_append_right (by simp; omega), List.getElem?_replicate] at h1
      split at h1 <;> cases h1
  have h3 := am_args (ad := ad) (ou := ou) 0 j u h2
  rw [Nat.zero_add] at h3
  exact h3
theorem am_lg (ad ou : Nat → Nat) (a : List am_V) : (lg_sl (a.map (am_v ad ou))).length = a.length := by
  induction a with
  | nil => rfl
  | cons v r ih =>
    have h1 : lg_sl ((v :: r).map (am_v ad ou)) = .val (am_v ad ou v) :: lg_sl (r.map (am_v ad ou)) := by
      simp only [List.map_cons, lg_sl, List.flatMap_cons]
      rw [if_neg (by rw [am_cat]; decide)]
      rfl
    rw [h1, List.length_cons, ih, List.length_cons]
/-- a method's contract, by its meaning. E: what else holds of the state (of strings, nest mates ..), whatever the world is -/
def am_Met (l : Launch) (E : (Nat → Prop) → State → Prop) (D : va_G) (cl : List vw_C) (tys : List (ClassId × FieldType)) (ou : Nat → Nat) (ca : Nat → ClassId) (y : MethodName) (ws : List Jvm.Cond) (fr lo : Nat) (pre : List am_V → List am_C → Prop) (f : am_M) : Prop :=
  ∀ (ad : Nat → Nat) (sz : Nat) (a : List am_V) (w : List am_C), pre a w → Met l y ws { frames := fr, cells := (f a w).2.2.1, slots := (f a w).2.2.2, locals := lo } (va_Pc (a.map (am_v ad ou)) (fun U => U.heap.size = sz ∧ va_P D cl (am_w ad ou ca w) U.heap ∧ va_K D cl tys U ∧ va_D (fun _ => True) (am_w ad ou ca w) ∧ E (va_A (am_w ad ou ca w) sz) U)) (am_Qc D cl ou ca w.length ad ((f a w).1, (f a w).2.1) (va_A (am_w ad ou ca w) sz)) (f a w).2.2.1 (f a w).2.2.2 (va_A (am_w ad ou ca w) sz)
end
section
/-! A METHOD'S CONTRACT out of its run on the machine; a call out of a contract -/
abbrev am_B : Type := List (Nat × Instr × Nat) × (Nat → Option (Nat × Nat × Nat)) × (Nat → Nat → FieldType) × (Nat → Option (Nat × List am_V)) × (Nat → Option am_V) × (Nat → Option (Option (List Nat) × Nat × (List am_V → List am_C → Prop) × am_M)) × (Nat → Option (Nat × Nat × (Nat → Int32))) × Nat × Nat × Option FieldType
def am_mk (B : am_B) (mc ms n0 : Nat) : am_T := (B.1, B.2.1, B.2.2.1, B.2.2.2.1, B.2.2.2.2.1, B.2.2.2.2.2.1, B.2.2.2.2.2.2.1, B.2.2.2.2.2.2.2.1, B.2.2.2.2.2.2.2.2.1, mc, ms, n0, B.2.2.2.2.2.2.2.2.2)
def am_EC (E : (Nat → Prop) → State → Prop) : Prop := (∀ (A : Nat → Prop) (U U' : State), U'.vm = U.vm → U'.heap = U.heap → E A U → E A U') ∧ ∀ (A A' : Nat → Prop) (s U : State), s.WarmedH U.vm → (∀ q, A' q → A q) → (∀ q : Nat, q < s.heap.size → ¬ A q → U.heap[q]? = s.heap[q]?) → s.heap.size ≤ U.heap.size → E A s → E A' U
theorem am_met {l : Launch} {E : (Nat → Prop) → State → Prop} {D : va_G} {cl : List vw_C} {tys : List (ClassId × FieldType)} {ou : Nat → Nat} {ca : Nat → ClassId} {y : MethodName} {ws ws' : List Jvm.Cond} {fr lo : Nat} {pre : List am_V → List am_C → Prop} {f : am_M} {cc : ByteArray} {nL nt : Nat} {ret : Option FieldType} {cuts : List Nat} {B : am_B}
    (hy : plainName y.cls = true) (hw : ws = Jvm.Cond.code y cc nL ret :: ws') (hret : B.2.2.2.2.2.2.2.2.2 = ret) (hty : ∀ t, t < nt → tys[t]? = some (ca t, am_ty t)) (harr : ∀ t, t < nt → Jvm.Cond.arrayClass (am_ty t) ∈ ws) (hnt : nt ≤ 5) (hargs : ∀ a w, pre a w → a.length ≤ nL)
    (hTK : ∀ (a : List am_V) (w : List am_C), pre a w → ∀ (ad : Nat → Nat) (p : Program) (e : Env) (R : Room) (s : State) (m : MethodId) (args : Array Value) (below : List Frame) (meth : Method) (c : Code), R = { frames := fr, cells := (f a w).2.2.1, slots := (f a w).2.2.2, locals := lo } → am_X p s m args c cc y.cls ws D cl tys (va_A (am_w ad ou ca w) s.heap.size) nL ca nt → E (va_A (am_w ad ou ca w) s.heap.size) s → meth.name = y.name → am_TK p l e R s m args below meth c cc y.cls ws D cl (va_A (am_w ad ou ca w) s.heap.size) ou ca nL nt (am_mk B (f a w).2.2.1 (f a w).2.2.2 w.length))
    (hrun : ∀ (a : List am_V) (w : List am_C), pre a w → ∃ n, am_ev (am_mk B (f a w).2.2.1 (f a w).2.2.2 w.length) cuts n (0, am_L0 a nL, [], w, 0, 0) = some ((f a w).1, (f a w).2.1)) : am_Met l E D cl tys ou ca y ws fr lo pre f := by
  intro ad sz a w hp
  refine Met.ofW (cc := cc) (maxL := nL) (ret := ret) hy hw ?_
  intro p e s m args below meth c s₁ B0 hml hv
  obtain ⟨rfl, hsz, hP, hK, hD0, hE⟩ := hv
  subst hsz
  have hts := atoms_spec (ws := ws) B0.pre
  have hown : s.vm.findClass y.cls = some m.cls := findClass_of_methodNamed B0.named
  have hnm : meth.name = y.name := (name_of_methodNamed B0.named B0.method).1
  have hD := hD0.self (sz := s.heap.size)
  have hS : va_S (va_A (am_w ad ou ca w) s.heap.size) s.heap s.heap [] := va_S.rf
  have hl := lv_entry (a.map (am_v ad ou)) (n := nL) (by rw [am_lg]; exact hargs a w hp)
  rw [lg_entry_eq]
  generalize (lg_sl (a.map (am_v ad ou)) ++ List.replicate (nL - (lg_sl (a.map (am_v ad ou))).length) Slot.unset).toArray = ls at hl ⊢
  have X : am_X p s m (a.map (am_v ad ou)).toArray c cc y.cls ws D cl tys (va_A (am_w ad ou ca w) s.heap.size) nL ca nt := ⟨B0.exec, B0.bytes, hml, hown, hts, hK, fun q h => Or.inr h, hty, fun t ht => hts _ (harr t ht), hnt⟩
  obtain ⟨n, hn⟩ := hrun a w hp
  have hr : meth.sig.returnType = am_rt (am_mk B (f a w).2.2.1 (f a w).2.2.2 w.length) := B0.returns.trans hret.symm
  exact am_ev_ok X (hTK a w hp ad p e _ s m _ below meth c rfl X hE hnm) (fun i len pc L S w2 k j hd hr2 ad' had => am_ret_ok (ad0 := ad) X hr B0.notSynchronized hd hr2 had) n _ hn ad (fun _ _ => rfl) s.heap [] ls hP hD hS (am_L0_ok hl)
section AMCK
variable {p : Program} {l : Launch} {e : Env} {R : Room} {s : State} {m : MethodId} {args : Array Value} {below : List Frame} {meth : Method} {c : Code} {cc bytes : ByteArray} {D : va_G} {cl : List vw_C} {tys : List (ClassId × FieldType)} {A : Nat → Prop} {Ts ws ws' : List Jvm.Cond} {own : String} {nL nt fr lo pc n maxL idx : Nat} {ou : Nat → Nat} {ca : Nat → ClassId} {E : (Nat → Prop) → State → Prop} {y : MethodName} {pre : List am_V → List am_C → Prop} {f : am_M} {ret : Option FieldType}
theorem am_pre (X : am_X p s m args c cc own Ts D cl tys A nL ca nt) (hEs : E A s) (hEC : am_EC E) {a : List am_V} {wc : List am_C} {ad : Nat → Nat} {H : Heap} {locs : List Loc} (hP : va_P D cl (am_w ad ou ca wc) H) (hD : va_D A (am_w ad ou ca wc)) (hS : va_S A s.heap H locs) : PreS s H (va_Pc (a.map (am_v ad ou)) (fun U => U.heap.size = H.size ∧ va_P D cl (am_w ad ou ca wc) U.heap ∧ va_K D cl tys U ∧ va_D (fun _ => True) (am_w ad ou ca wc) ∧ E (va_A (am_w ad ou ca wc) H.size) U)) (a.map (am_v ad ou)) := by
  refine ⟨fun a U g mk q => ?_, fun U hU hW => ⟨rfl, by rw [hU], by rw [hU]; exact hP, va_K.moved hW.alike X.2.2.2.2.2.1, hD.weaken (fun _ _ _ _ => trivial), hEC.2 A _ s U hW (fun q hq => ?_) (fun q h1 h2 => by rw [hU]; exact hS.2.1 q h1 h2) (by rw [hU]; exact hS.1) hEs⟩⟩
  · obtain ⟨q0, q1, qP, qK, qD, qE⟩ := q
    exact ⟨q0, q1, qP, va_K.moved (u := U) (U := U.calling g mk a) (Vm.Alike.refl U.vm) qK, qD, hEC.1 _ U (U.calling g mk a) rfl rfl qE⟩
  · rcases hq with ⟨i, z, hq⟩ | hq
    · exact hD.2 i (q, z) hq
    · exact X.2.2.2.2.2.2.1 q (Nat.le_trans hS.1 hq)
theorem am_ck_S (X : am_X p s m args c cc own Ts D cl tys A nL ca nt) (hEs : E A s) (hEC : am_EC E) (hM : am_Met l E D cl tys ou ca y ws fr lo pre f) (hG : GoodIn Ts ws) (hw : ws = Jvm.Cond.code y bytes maxL ret :: ws') (hini : Jvm.Cond.initialized y.cls ∈ Ts) (hlk : Jvm.Cond.methodLink own idx y ∈ Ts) (hst : Jvm.Cond.static y ∈ Ts)
    (hdd : y.cls ≠ "java/lang/invoke/MethodHandle" ∧ y.cls ≠ "java/lang/invoke/VarHandle" ∧ (parseMethodDescriptor y.desc).map (fun d => d.parameters.length) = some n) (hR : fr + 1 ≤ R.frames ∧ 8 + (maxL + 11) + lo ≤ R.locals) (hd : decode cc pc = .ok (.invokestatic idx, 3)) : am_CK p l e R s m args below meth c D cl A ou ca nL pc n pre f := by
  intro a wc ad H locs ls k j rest han hp hP hD hS hsz hW hk hj
  exact va_runS (nL := nL) (Ts := Ts) (own := own) (bytes := bytes) (maxL := maxL) (ret := ret) (As := a.map (am_v ad ou)) ⟨X.1, X.2.1, X.2.2.1, X.2.2.2.1, X.2.2.2.2.1⟩ (hM ad H.size a wc hp) ⟨callB_of n X.2.2.2.2.1 hG hw rfl rfl (X.2.2.2.2.1 _ hini) (X.2.2.2.2.1 _ hlk) hdd hR, X.2.2.2.2.1 _ hst⟩ (am_pre X hEs hEC hP hD hS) rfl (by rw [List.length_map]; exact han) hsz rfl (lv_room hW) hd ⟨hk, hj⟩
theorem am_ck_I (X : am_X p s m args c cc own Ts D cl tys A nL ca nt) (hEs : E A s) (hEC : am_EC E) (hM : am_Met l E D cl tys ou ca y ws fr lo pre f) (hG : GoodIn Ts ws) (hw : ws = Jvm.Cond.code y bytes maxL none :: ws') (hini : Jvm.Cond.initialized y.cls ∈ Ts) (hlk : Jvm.Cond.methodLink own idx y ∈ Ts) (hin : Jvm.Cond.instanceMethod y ∈ Ts) (hy1 : y.name = "<init>") (hpa : ∀ a w, pre a w → ∃ q a', a = .inr (.inl q) :: a')
    (hdd : y.cls ≠ "java/lang/invoke/MethodHandle" ∧ y.cls ≠ "java/lang/invoke/VarHandle" ∧ (parseMethodDescriptor y.desc).map (fun d => d.parameters.length) = some n) (hR : fr + 1 ≤ R.frames ∧ 8 + (maxL + 11) + lo ≤ R.locals) (hd : decode cc pc = .ok (.invokespecial idx, 3)) : am_CK p l e R s m args below meth c D cl A ou ca nL pc (n + 1) pre f := by
  intro a wc ad H locs ls k j rest han hp hP hD hS hsz hW hk hj
  obtain ⟨q, a', rfl⟩ := hpa a wc hp
  exact va_runI (nL := nL) (Ts := Ts) (own := own) (bytes := bytes) (maxL := maxL) (n := n) (As := a'.map (am_v ad ou)) (b := ad q) ⟨X.1, X.2.1, X.2.2.1, X.2.2.2.1, X.2.2.2.2.1⟩ (hM ad H.size _ wc hp) ⟨callB_of n X.2.2.2.2.1 hG hw rfl rfl (X.2.2.2.2.1 _ hini) (X.2.2.2.2.1 _ hlk) hdd hR, hy1, X.2.2.2.2.1 _ hin⟩ (am_pre X hEs hEC hP hD hS) rfl (by rw [List.length_map]; simpa using han) hsz (by simp [am_v]) (lv_room hW) hd ⟨hk, hj⟩
theorem am_ck_V (X : am_X p s m args c cc own Ts D cl tys A nL ca nt) (hEs : E A s) (hEC : am_EC E) (hM : am_Met l E D cl tys ou ca y ws fr lo pre f) (hG : GoodIn Ts ws) (hw : ws = Jvm.Cond.code y bytes maxL ret :: ws') (hini : Jvm.Cond.initialized y.cls ∈ Ts) (hlk : Jvm.Cond.methodLink own idx y ∈ Ts) (hin : Jvm.Cond.instanceMethod y ∈ Ts) (hsel : Jvm.Cond.selects y.cls y y ∈ Ts) (hpa : ∀ a w, pre a w → ∃ q a' ci fs r, a = .inr (.inl q) :: a' ∧ w[q]? = some (.inr (ci, fs)) ∧ cl[ci]? = some r ∧ r.1 = y.cls)
    (hdd : y.cls ≠ "java/lang/invoke/MethodHandle" ∧ y.cls ≠ "java/lang/invoke/VarHandle" ∧ (parseMethodDescriptor y.desc).map (fun d => d.parameters.length) = some n) (hR : fr + 1 ≤ R.frames ∧ 8 + (maxL + 11) + lo ≤ R.locals) (hd : decode cc pc = .ok (.invokevirtual idx, 3)) : am_CK p l e R s m args below meth c D cl A ou ca nL pc (n + 1) pre f := by
  intro a wc ad H locs ls k j rest han hp hP hD hS hsz hW hk hj
  obtain ⟨q, a', ci, fs, r, rfl, hq, hc, hr⟩ := hpa a wc hp
  have hrec := va_recv X.2.2.2.2.2.1 hP hc (am_w_get hq)
  rw [hr] at hrec
  have hpre := am_pre (a := .inr (.inl q) :: a') X hEs hEC hP hD hS
  exact va_runV (C := y.cls) (nL := nL) (Ts := Ts) (own := own) (bytes := bytes) (maxL := maxL) (ret := ret) (n := n) (As := a'.map (am_v ad ou)) (b := ad q) ⟨X.1, X.2.1, X.2.2.1, X.2.2.2.1, X.2.2.2.2.1⟩ (hM ad H.size _ wc hp) ⟨callB_of n X.2.2.2.2.1 hG hw rfl rfl (X.2.2.2.2.1 _ hini) (X.2.2.2.2.1 _ hlk) hdd hR, X.2.2.2.2.1 _ hin, X.2.2.2.2.1 _ hsel⟩ ⟨hpre.1, hrec, hpre.2⟩ rfl (by rw [List.length_map]; simpa using han) hsz (by simp [am_v]) (lv_room hW) hd ⟨hk, hj⟩
end AMCK
/-! tables as lists -/
def am_as {α : Type} (l : List (Nat × α)) (i : Nat) : Option α := match l with
  | [] => none
  | q :: r => bif q.1 == i then some q.2 else am_as r i
theorem am_as_mem {α : Type} {l : List (Nat × α)} {i : Nat} {v : α} (h : am_as l i = some v) : (i, v) ∈ l := by
  induction l with
  | nil => cases h
  | cons q r ih =>
    unfold am_as at h
    cases hq : q.1 == i with
    | true =>
      rw [hq] at h
      have h1 : q.2 = v := Option.some.inj h
      have h2 : q.1 = i := by simpa using hq
      rw [← h1, ← h2]
      exact List.mem_cons_self
    | false =>
      rw [hq] at h
      exact List.mem_cons_of_mem _ (ih h)
theorem am_all0 {α : Type} {P : α → Prop} : ∀ q ∈ ([] : List α), P q := fun _ h => absurd h List.not_mem_nil
theorem am_allc {α : Type} {P : α → Prop} {a : α} {l : List α} (h : P a) (t : ∀ q ∈ l, P q) : ∀ q ∈ a :: l, P q := fun q hq => by
  rcases List.mem_cons.mp hq with e | e
  · rw [e]; exact h
  · exact t q e
end
section
/-! names, classes, fields; the words that all methods share -/
def gw_all : List Cond := lw_tbl.filter goodWord
theorem gw_mem {w : Cond} (i : Nat) (h : (lw_tbl[i]? == some w && goodWord w) = true) : w ∈ gw_all := by
  rw [Bool.and_eq_true] at h
  have h1 : lw_tbl[i]? = some w := by simpa using h.1
  exact List.mem_filter.mpr ⟨List.mem_of_getElem? h1, h.2⟩
theorem gw_good : ∀ w ∈ gw_all, goodWord w = true := fun w h => (List.mem_filter.mp h).2
theorem gw_ws {R : String} {F : u_T} {N : Nat} (ix : List Nat) (h : (List.range N).all (fun k => lw_tbl[ix.getD k 0]? == some (u_lay R F k) && goodWord (u_lay R F k)) = true) : ∀ w ∈ u_ws R F N, w ∈ gw_all := by
  intro w hw
  obtain ⟨k, hk, rfl⟩ := List.mem_map.mp hw
  exact gw_mem (ix.getD k 0) (List.all_eq_true.mp h k hk)
def hn_R0 : String := "HoleTemplates$Compilation"
def hn_T0 : u_T := fun k => match k with
  | 0 => ("HoleTemplates$Compilation", "symbols", "LHoleTemplates$Symbols;", true)
  | 1 => ("HoleTemplates$Compilation", "context", "LHoleTemplates$Context;", true)
  | 2 => ("HoleTemplates$Compilation", "holeCodes", "[I", true)
  | 3 => ("HoleTemplates$Compilation", "openSymbols", "[I", true)
  | 4 => ("HoleTemplates$Compilation", "openContexts", "[I", true)
  | 5 => ("HoleTemplates$Compilation", "turnContexts", "[I", true)
  | 6 => ("HoleTemplates$Compilation", "openCount", "I", false)
  | 7 => ("HoleTemplates$Compilation", "holeCount", "I", false)
  | 8 => ("HoleTemplates$Compilation", "faultPlace", "I", false)
  | _ => ("HoleTemplates$Compilation", "compiled", "Z", false)
def hn_y0 : Nat → FieldType := fun k => match k with
  | 0 => .object "HoleTemplates$Symbols"
  | 1 => .object "HoleTemplates$Context"
  | 2 => .array .int
  | 3 => .array .int
  | 4 => .array .int
  | 5 => .array .int
  | 6 => .int
  | 7 => .int
  | 8 => .int
  | _ => .boolean
theorem hn_nm0 : ∀ a, a < 10 → ∀ b, b < 10 → a ≠ b → (hn_T0 a).2.1 ≠ (hn_T0 b).2.1 := by decide +kernel
theorem hn_ok0 : ∀ k, k < 10 → parseFieldDescriptor (hn_T0 k).2.2.1 = some (hn_y0 k) := by decide +kernel
theorem hn_in0 : ∀ w ∈ u_ws hn_R0 hn_T0 10, w ∈ gw_all := gw_ws [230, 232, 234, 236, 238, 240, 242, 244, 246, 248] (by decide +kernel)
def hn_R1 : String := "HoleTemplates$Context"
def hn_T1 : u_T := fun k => match k with
  | 0 => ("HoleTemplates$Context", "name", "I", false)
  | 1 => ("HoleTemplates$Context", "element", "I", false)
  | 2 => ("HoleTemplates$Context", "quote", "C", false)
  | 3 => ("HoleTemplates$Context", "kind", "I", false)
  | _ => ("HoleTemplates$Context", "part", "I", false)
def hn_y1 : Nat → FieldType := fun k => match k with
  | 0 => .int
  | 1 => .int
  | 2 => .char
  | 3 => .int
  | _ => .int
theorem hn_nm1 : ∀ a, a < 5 → ∀ b, b < 5 → a ≠ b → (hn_T1 a).2.1 ≠ (hn_T1 b).2.1 := by decide +kernel
theorem hn_ok1 : ∀ k, k < 5 → parseFieldDescriptor (hn_T1 k).2.2.1 = some (hn_y1 k) := by decide +kernel
theorem hn_in1 : ∀ w ∈ u_ws hn_R1 hn_T1 5, w ∈ gw_all := gw_ws [205, 207, 209, 211, 213] (by decide +kernel)
def hn_R2 : String := "HoleTemplates$Items"
def hn_T2 : u_T := fun k => match k with
  | 0 => ("HoleTemplates$Items", "chars", "[C", true)
  | 1 => ("HoleTemplates$Items", "lengths", "[I", true)
  | 2 => ("HoleTemplates$Items", "counts", "[I", true)
  | _ => ("HoleTemplates$Items", "alone", "[I", true)
def hn_y2 : Nat → FieldType := fun k => match k with
  | 0 => .array .char
  | 1 => .array .int
  | 2 => .array .int
  | _ => .array .int
theorem hn_nm2 : ∀ a, a < 4 → ∀ b, b < 4 → a ≠ b → (hn_T2 a).2.1 ≠ (hn_T2 b).2.1 := by decide +kernel
theorem hn_ok2 : ∀ k, k < 4 → parseFieldDescriptor (hn_T2 k).2.2.1 = some (hn_y2 k) := by decide +kernel
theorem hn_in2 : ∀ w ∈ u_ws hn_R2 hn_T2 4, w ∈ gw_all := gw_ws [134, 136, 138, 140] (by decide +kernel)
def hn_R3 : String := "HoleTemplates$Pieces"
def hn_T3 : u_T := fun _ => ("", "", "", false)
def hn_y3 : Nat → FieldType := fun _ => .int
theorem hn_nm3 : ∀ a, a < 0 → ∀ b, b < 0 → a ≠ b → (hn_T3 a).2.1 ≠ (hn_T3 b).2.1 := by decide +kernel
theorem hn_ok3 : ∀ k, k < 0 → parseFieldDescriptor (hn_T3 k).2.2.1 = some (hn_y3 k) := by decide +kernel
theorem hn_in3 : ∀ w ∈ u_ws hn_R3 hn_T3 0, w ∈ gw_all := gw_ws [] (by decide +kernel)
def hn_R4 : String := "HoleTemplates$Signs"
def hn_T4 : u_T := fun _ => ("", "", "", false)
def hn_y4 : Nat → FieldType := fun _ => .int
theorem hn_nm4 : ∀ a, a < 0 → ∀ b, b < 0 → a ≠ b → (hn_T4 a).2.1 ≠ (hn_T4 b).2.1 := by decide +kernel
theorem hn_ok4 : ∀ k, k < 0 → parseFieldDescriptor (hn_T4 k).2.2.1 = some (hn_y4 k) := by decide +kernel
theorem hn_in4 : ∀ w ∈ u_ws hn_R4 hn_T4 0, w ∈ gw_all := gw_ws [] (by decide +kernel)
def hn_R5 : String := "HoleTemplates$Symbols"
def hn_T5 : u_T := fun k => match k with
  | 0 => ("HoleTemplates$Symbols", "kinds", "[I", true)
  | 1 => ("HoleTemplates$Symbols", "signs", "[C", true)
  | 2 => ("HoleTemplates$Symbols", "variables", "[I", true)
  | 3 => ("HoleTemplates$Symbols", "places", "[I", true)
  | 4 => ("HoleTemplates$Symbols", "turns", "[I", true)
  | 5 => ("HoleTemplates$Symbols", "closes", "[I", true)
  | 6 => ("HoleTemplates$Symbols", "codes", "[I", true)
  | 7 => ("HoleTemplates$Symbols", "count", "I", false)
  | _ => ("HoleTemplates$Symbols", "templateLength", "I", false)
def hn_y5 : Nat → FieldType := fun k => match k with
  | 0 => .array .int
  | 1 => .array .char
  | 2 => .array .int
  | 3 => .array .int
  | 4 => .array .int
  | 5 => .array .int
  | 6 => .array .int
  | 7 => .int
  | _ => .int
theorem hn_nm5 : ∀ a, a < 9 → ∀ b, b < 9 → a ≠ b → (hn_T5 a).2.1 ≠ (hn_T5 b).2.1 := by decide +kernel
theorem hn_ok5 : ∀ k, k < 9 → parseFieldDescriptor (hn_T5 k).2.2.1 = some (hn_y5 k) := by decide +kernel
theorem hn_in5 : ∀ w ∈ u_ws hn_R5 hn_T5 9, w ∈ gw_all := gw_ws [168, 170, 172, 174, 176, 178, 180, 182, 184] (by decide +kernel)
def hn_R6 : String := "HoleTemplates$Text"
def hn_T6 : u_T := fun k => match k with
  | 0 => ("HoleTemplates$Text", "chars", "[C", true)
  | 1 => ("HoleTemplates$Text", "length", "I", false)
  | _ => ("HoleTemplates$Text", "spilled", "Z", false)
def hn_y6 : Nat → FieldType := fun k => match k with
  | 0 => .array .char
  | 1 => .int
  | _ => .boolean
theorem hn_nm6 : ∀ a, a < 3 → ∀ b, b < 3 → a ≠ b → (hn_T6 a).2.1 ≠ (hn_T6 b).2.1 := by decide +kernel
theorem hn_ok6 : ∀ k, k < 3 → parseFieldDescriptor (hn_T6 k).2.2.1 = some (hn_y6 k) := by decide +kernel
theorem hn_in6 : ∀ w ∈ u_ws hn_R6 hn_T6 3, w ∈ gw_all := gw_ws [116, 118, 120] (by decide +kernel)
def hn_R7 : String := "HoleTemplates$Values"
def hn_T7 : u_T := fun _ => ("", "", "", false)
def hn_y7 : Nat → FieldType := fun _ => .int
theorem hn_nm7 : ∀ a, a < 0 → ∀ b, b < 0 → a ≠ b → (hn_T7 a).2.1 ≠ (hn_T7 b).2.1 := by decide +kernel
theorem hn_ok7 : ∀ k, k < 0 → parseFieldDescriptor (hn_T7 k).2.2.1 = some (hn_y7 k) := by decide +kernel
theorem hn_in7 : ∀ w ∈ u_ws hn_R7 hn_T7 0, w ∈ gw_all := gw_ws [] (by decide +kernel)
def hn_R8 : String := "HoleTemplates$Writer"
def hn_T8 : u_T := fun k => match k with
  | _ => ("HoleTemplates$Writer", "out", "LHoleTemplates$Text;", true)
def hn_y8 : Nat → FieldType := fun k => match k with
  | _ => .object "HoleTemplates$Text"
theorem hn_nm8 : ∀ a, a < 1 → ∀ b, b < 1 → a ≠ b → (hn_T8 a).2.1 ≠ (hn_T8 b).2.1 := by decide +kernel
theorem hn_ok8 : ∀ k, k < 1 → parseFieldDescriptor (hn_T8 k).2.2.1 = some (hn_y8 k) := by decide +kernel
theorem hn_in8 : ∀ w ∈ u_ws hn_R8 hn_T8 1, w ∈ gw_all := gw_ws [261] (by decide +kernel)
def hn_R9 : String := "HoleTemplates"
def hn_T9 : u_T := fun k => match k with
  | 0 => ("HoleTemplates", "row", "LHoleTemplates$Text;", true)
  | 1 => ("HoleTemplates", "template", "LHoleTemplates$Text;", true)
  | 2 => ("HoleTemplates", "items", "LHoleTemplates$Items;", true)
  | 3 => ("HoleTemplates", "compilation", "LHoleTemplates$Compilation;", true)
  | _ => ("HoleTemplates", "writer", "LHoleTemplates$Writer;", true)
def hn_y9 : Nat → FieldType := fun k => match k with
  | 0 => .object "HoleTemplates$Text"
  | 1 => .object "HoleTemplates$Text"
  | 2 => .object "HoleTemplates$Items"
  | 3 => .object "HoleTemplates$Compilation"
  | _ => .object "HoleTemplates$Writer"
theorem hn_nm9 : ∀ a, a < 5 → ∀ b, b < 5 → a ≠ b → (hn_T9 a).2.1 ≠ (hn_T9 b).2.1 := by decide +kernel
theorem hn_ok9 : ∀ k, k < 5 → parseFieldDescriptor (hn_T9 k).2.2.1 = some (hn_y9 k) := by decide +kernel
theorem hn_in9 : ∀ w ∈ u_ws hn_R9 hn_T9 5, w ∈ gw_all := gw_ws [269, 271, 273, 275, 277] (by decide +kernel)
def hn_R10 : String := "HoleTemplatesModel"
def hn_T10 : u_T := fun k => match k with
  | 0 => ("HoleTemplatesModel", "thrown", "I", false)
  | 1 => ("HoleTemplatesModel", "typed", "I", false)
  | 2 => ("HoleTemplatesModel", "row", "[C", false)
  | 3 => ("HoleTemplatesModel", "length", "I", false)
  | 4 => ("HoleTemplatesModel", "template", "[C", false)
  | 5 => ("HoleTemplatesModel", "symbols", "I", false)
  | 6 => ("HoleTemplatesModel", "sort", "[I", false)
  | 7 => ("HoleTemplatesModel", "sign", "[C", false)
  | 8 => ("HoleTemplatesModel", "place", "[I", false)
  | 9 => ("HoleTemplatesModel", "marked", "[I", false)
  | 10 => ("HoleTemplatesModel", "other", "[I", false)
  | 11 => ("HoleTemplatesModel", "closing", "[I", false)
  | 12 => ("HoleTemplatesModel", "opener", "[I", false)
  | 13 => ("HoleTemplatesModel", "compiled", "Z", false)
  | 14 => ("HoleTemplatesModel", "fault", "I", false)
  | 15 => ("HoleTemplatesModel", "holes", "I", false)
  | 16 => ("HoleTemplatesModel", "contexts", "[I", false)
  | 17 => ("HoleTemplatesModel", "context", "I", false)
  | 18 => ("HoleTemplatesModel", "element", "I", false)
  | 19 => ("HoleTemplatesModel", "quote", "C", false)
  | 20 => ("HoleTemplatesModel", "kind", "I", false)
  | 21 => ("HoleTemplatesModel", "part", "I", false)
  | 22 => ("HoleTemplatesModel", "open", "I", false)
  | 23 => ("HoleTemplatesModel", "opened", "[I", false)
  | 24 => ("HoleTemplatesModel", "before", "[I", false)
  | 25 => ("HoleTemplatesModel", "ended", "[I", false)
  | 26 => ("HoleTemplatesModel", "divided", "[Z", false)
  | 27 => ("HoleTemplatesModel", "counts", "[I", false)
  | 28 => ("HoleTemplatesModel", "lengths", "[I", false)
  | 29 => ("HoleTemplatesModel", "items", "[C", false)
  | 30 => ("HoleTemplatesModel", "alone", "[I", false)
  | 31 => ("HoleTemplatesModel", "deep", "I", false)
  | 32 => ("HoleTemplatesModel", "loops", "[I", false)
  | 33 => ("HoleTemplatesModel", "saved", "[I", false)
  | 34 => ("HoleTemplatesModel", "size", "I", false)
  | 35 => ("HoleTemplatesModel", "out", "[C", false)
  | _ => ("HoleTemplatesModel", "full", "Z", false)
def hn_y10 : Nat → FieldType := fun k => match k with
  | 0 => .int
  | 1 => .int
  | 2 => .array .char
  | 3 => .int
  | 4 => .array .char
  | 5 => .int
  | 6 => .array .int
  | 7 => .array .char
  | 8 => .array .int
  | 9 => .array .int
  | 10 => .array .int
  | 11 => .array .int
  | 12 => .array .int
  | 13 => .boolean
  | 14 => .int
  | 15 => .int
  | 16 => .array .int
  | 17 => .int
  | 18 => .int
  | 19 => .char
  | 20 => .int
  | 21 => .int
  | 22 => .int
  | 23 => .array .int
  | 24 => .array .int
  | 25 => .array .int
  | 26 => .array .boolean
  | 27 => .array .int
  | 28 => .array .int
  | 29 => .array .char
  | 30 => .array .int
  | 31 => .int
  | 32 => .array .int
  | 33 => .array .int
  | 34 => .int
  | 35 => .array .char
  | _ => .boolean
theorem hn_nm10 : ∀ a, a < 37 → ∀ b, b < 37 → a ≠ b → (hn_T10 a).2.1 ≠ (hn_T10 b).2.1 := by decide +kernel
theorem hn_ok10 : ∀ k, k < 37 → parseFieldDescriptor (hn_T10 k).2.2.1 = some (hn_y10 k) := by decide +kernel
theorem hn_in10 : ∀ w ∈ u_ws hn_R10 hn_T10 37, w ∈ gw_all := gw_ws [1009, 1011, 1013, 1015, 1017, 1019, 1021, 1023, 1025, 1027, 1029, 1031, 1033, 1035, 1037, 1039, 1041, 1043, 1045, 1047, 1049, 1051, 1053, 1055, 1057, 1059, 1061, 1063, 1065, 1067, 1069, 1071, 1073, 1075, 1077, 1079, 1081] (by decide +kernel)
abbrev hn_cl : List vw_C := [(hn_R0, hn_T0, 10), (hn_R1, hn_T1, 5), (hn_R2, hn_T2, 4), (hn_R3, hn_T3, 0), (hn_R4, hn_T4, 0), (hn_R5, hn_T5, 9), (hn_R6, hn_T6, 3), (hn_R7, hn_T7, 0), (hn_R8, hn_T8, 1), (hn_R9, hn_T9, 5), (hn_R10, hn_T10, 37)]
def hn_ty (c k : Nat) : FieldType := match c with
  | 0 => hn_y0 k
  | 1 => hn_y1 k
  | 2 => hn_y2 k
  | 3 => hn_y3 k
  | 4 => hn_y4 k
  | 5 => hn_y5 k
  | 6 => hn_y6 k
  | 7 => hn_y7 k
  | 8 => hn_y8 k
  | 9 => hn_y9 k
  | _ => hn_y10 k
/-- first values -/
def hn_d0 : List am_V := [.inr (.inr 0), .inr (.inr 0), .inr (.inr 0), .inr (.inr 0), .inr (.inr 0), .inr (.inr 0), .inl 0, .inl 0, .inl 0, .inl 0]
def hn_d1 : List am_V := [.inl 0, .inl 0, .inl 0, .inl 0, .inl 0]
def hn_d2 : List am_V := [.inr (.inr 0), .inr (.inr 0), .inr (.inr 0), .inr (.inr 0)]
def hn_d3 : List am_V := []
def hn_d4 : List am_V := []
def hn_d5 : List am_V := [.inr (.inr 0), .inr (.inr 0), .inr (.inr 0), .inr (.inr 0), .inr (.inr 0), .inr (.inr 0), .inr (.inr 0), .inl 0, .inl 0]
def hn_d6 : List am_V := [.inr (.inr 0), .inl 0, .inl 0]
def hn_d7 : List am_V := []
def hn_d8 : List am_V := [.inr (.inr 0)]
def hn_d9 : List am_V := [.inr (.inr 0), .inr (.inr 0), .inr (.inr 0), .inr (.inr 0), .inr (.inr 0)]
def hn_d10 : List am_V := [.inl 0, .inl 0, .inr (.inr 0), .inl 0, .inr (.inr 0), .inl 0, .inr (.inr 0), .inr (.inr 0), .inr (.inr 0), .inr (.inr 0), .inr (.inr 0), .inr (.inr 0), .inr (.inr 0), .inl 0, .inl 0, .inl 0, .inr (.inr 0), .inl 0, .inl 0, .inl 0, .inl 0, .inl 0, .inl 0, .inr (.inr 0), .inr (.inr 0), .inr (.inr 0), .inr (.inr 0), .inr (.inr 0), .inr (.inr 0), .inr (.inr 0), .inr (.inr 0), .inl 0, .inr (.inr 0), .inr (.inr 0), .inl 0, .inr (.inr 0), .inl 0]
end
section
/-! THE MACHINE WITHOUT COUNTING: an instruction goes on at one place, or not at all; so the ends that some count reaches make one function, am_lf -/
def am_pt (F : (am_S → Option am_Z) → Option am_Z) : Prop := ∀ (kt : am_S → Option am_Z) (z : am_Z), F kt = some z → (∃ st' : am_S, kt st' = some z ∧ ∀ kt' : am_S → Option am_Z, kt' st' = some z → F kt' = some z) ∨ ∀ kt' : am_S → Option am_Z, F kt' = some z
theorem am_pt_c (r : Option am_Z) : am_pt (fun _ => r) := fun _ _ h => Or.inr fun _ => h
theorem am_pt_k (st : am_S) : am_pt (fun kt => kt st) := fun _ _ h => Or.inl ⟨st, h, fun _ h' => h'⟩
theorem am_pt_b {b : Bool} {F G : (am_S → Option am_Z) → Option am_Z} (hF : am_pt F) (hG : am_pt G) : am_pt (fun kt => bif b then F kt else G kt) := by
  cases b
  · exact hG
  · exact hF
theorem am_pt_i {c : Prop} {d : Decidable c} {F G : (am_S → Option am_Z) → Option am_Z} (hF : am_pt F) (hG : am_pt G) : am_pt (fun kt => @ite _ c d (F kt) (G kt)) := by
  by_cases hc : c
  · have e : (fun kt => @ite _ c d (F kt) (G kt)) = F := funext fun kt => if_pos hc
    rw [e]
    exact hF
  · have e : (fun kt => @ite _ c d (F kt) (G kt)) = G := funext fun kt => if_neg hc
    rw [e]
    exact hG
section AMPT
variable {T : am_T} {len pc : Nat} {L : List (Option am_V)} {S : List am_V} {w : List am_C} {k j : Nat}
theorem am_pt_nx {want : Nat} : am_pt (fun kt => am_nx len pc kt want L S w k j) := am_pt_b (am_pt_k _) (am_pt_c _)
theorem am_pt_sx {want : Nat} : am_pt (fun kt => am_sx len pc kt want L S w k j) := am_pt_i am_pt_nx (am_pt_c _)
theorem am_pt_jp {off : Int} : am_pt (fun kt => am_jp len pc L w k j kt off S) := am_pt_b (am_pt_k _) (am_pt_c _)
theorem am_pt_jw {off : Int} : am_pt (fun kt => am_jw pc L w k j kt off S) := am_pt_b (am_pt_k _) (am_pt_c _)
theorem am_pt_ch {b : Bool} {F : (am_S → Option am_Z) → Option am_Z} (hF : am_pt F) : am_pt (fun kt => am_chk b (F kt)) := am_pt_i hF (am_pt_c _)
theorem am_pt_cq {b : Bool} {F : (am_S → Option am_Z) → Option am_Z} (hF : am_pt F) : am_pt (fun kt => am_chq b (F kt)) := am_pt_i hF (am_pt_c _)
theorem am_pt_fi {ty : FieldType} {v : am_V} {F : (am_S → Option am_Z) → Option am_Z} (hF : am_pt F) : am_pt (fun kt => am_fic ty v (F kt)) := by
  cases ty with
  | boolean => exact am_pt_ch hF
  | char => exact am_pt_ch hF
  | int => exact am_pt_b (b := am_fit .int v) hF (am_pt_c none)
  | byte => exact am_pt_b (b := am_fit .byte v) hF (am_pt_c none)
  | short => exact am_pt_b (b := am_fit .short v) hF (am_pt_c none)
  | long => exact am_pt_b (b := am_fit .long v) hF (am_pt_c none)
  | float => exact am_pt_b (b := am_fit .float v) hF (am_pt_c none)
  | double => exact am_pt_b (b := am_fit .double v) hF (am_pt_c none)
  | object n => exact am_pt_b (b := am_fit (.object n) v) hF (am_pt_c none)
  | array n => exact am_pt_b (b := am_fit (.array n) v) hF (am_pt_c none)
theorem am_pt_ild {want i : Nat} : am_pt (fun kt => am_ild len pc L S w k j kt want i) := by
  unfold am_ild
  rcases am_g L i with _ | (v | v)
  · exact am_pt_c _
  · exact am_pt_nx
  · exact am_pt_c _
theorem am_pt_ald {want i : Nat} : am_pt (fun kt => am_ald len pc L S w k j kt want i) := by
  unfold am_ald
  rcases am_g L i with _ | (v | v)
  · exact am_pt_c _
  · exact am_pt_c _
  · exact am_pt_nx
theorem am_pt_ist {want i : Nat} : am_pt (fun kt => am_ist T len pc L S w k j kt want i) := by
  unfold am_ist
  rcases S with _ | ⟨v | v, S⟩
  · exact am_pt_c _
  · exact am_pt_b am_pt_nx (am_pt_c _)
  · exact am_pt_c _
theorem am_pt_ast {want i : Nat} : am_pt (fun kt => am_ast T len pc L S w k j kt want i) := by
  unfold am_ast
  rcases S with _ | ⟨v | v, S⟩
  · exact am_pt_c _
  · exact am_pt_c _
  · exact am_pt_b am_pt_nx (am_pt_c _)
theorem am_pt_inc {i : Nat} {n : Int} : am_pt (fun kt => am_inc T len pc L S w k j kt i n) := by
  unfold am_inc
  rcases am_g L i with _ | (v | v)
  · exact am_pt_c _
  · exact am_pt_b am_pt_nx (am_pt_c _)
  · exact am_pt_c _
theorem am_pt_bin {f : Int32 → Int32 → Int32} : am_pt (fun kt => am_bin len pc L S w k j kt f) := by
  unfold am_bin
  rcases S with _ | ⟨v | v, _ | ⟨u | u, S⟩⟩ <;> first | exact am_pt_c _ | exact am_pt_nx
theorem am_pt_div {f : Int32 → Int32 → Int32} : am_pt (fun kt => am_div len pc L S w k j kt f) := by
  unfold am_div
  rcases S with _ | ⟨v | v, _ | ⟨u | u, S⟩⟩ <;> first | exact am_pt_c _ | exact am_pt_i (am_pt_c _) am_pt_nx
theorem am_pt_un {f : Int32 → Int32} : am_pt (fun kt => am_un len pc L S w k j kt f) := by
  unfold am_un
  rcases S with _ | ⟨v | v, S⟩ <;> first | exact am_pt_c _ | exact am_pt_nx
theorem am_pt_ifz {cd : ClassFile.Cond} {off : Int} : am_pt (fun kt => am_ifz len pc L S w k j kt cd off) := by
  unfold am_ifz
  rcases S with _ | ⟨v | v, S⟩
  · exact am_pt_c _
  · refine am_pt_b ?_ (am_pt_c _)
    cases cd <;> first | exact am_pt_i am_pt_jp am_pt_nx | exact am_pt_i am_pt_nx am_pt_jp
  · exact am_pt_c _
theorem am_pt_icm {cd : ClassFile.Cond} {off : Int} : am_pt (fun kt => am_icm len pc L S w k j kt cd off) := by
  unfold am_icm
  rcases S with _ | ⟨v | v, _ | ⟨u | u, S⟩⟩
  · exact am_pt_c _
  · exact am_pt_c _
  · refine am_pt_b ?_ (am_pt_c _)
    cases cd <;> first | exact am_pt_i am_pt_jp am_pt_nx | exact am_pt_i am_pt_nx am_pt_jp
  · exact am_pt_c _
  · exact am_pt_c _
  · exact am_pt_c _
  · exact am_pt_c _
theorem am_pt_sw {x : Int32} {ps : List (Int × Int)} {d : Int} {f : (am_S → Option am_Z) → Int → Option am_Z} (hf : ∀ o, am_pt (fun kt => f kt o)) : am_pt (fun kt => am_sw x ps d (f kt)) := by
  induction ps with
  | nil => exact hf d
  | cons q r ih => exact am_pt_i (hf q.2) ih
theorem am_pt_tsw {d lo hi : Int} {offs : List Int} : am_pt (fun kt => am_tsw pc L S w k j kt d lo hi offs) := by
  unfold am_tsw
  rcases S with _ | ⟨v | v, S⟩
  · exact am_pt_c _
  · exact am_pt_b (am_pt_sw (f := fun kt o => am_jw pc L w k j kt o S) (fun o => am_pt_jw)) (am_pt_c _)
  · exact am_pt_c _
theorem am_pt_lsw {d : Int} {ps : List (Int × Int)} : am_pt (fun kt => am_lsw pc L S w k j kt d ps) := by
  unfold am_lsw
  rcases S with _ | ⟨v | v, S⟩
  · exact am_pt_c _
  · exact am_pt_b (am_pt_sw (f := fun kt o => am_jw pc L w k j kt o S) (fun o => am_pt_jw)) (am_pt_c _)
  · exact am_pt_c _
theorem am_pt_gtf {x : Nat} : am_pt (fun kt => am_gtf T len pc L S w k j kt x) := by
  unfold am_gtf
  rcases S with _ | ⟨v | v | v, S⟩
  · exact am_pt_c _
  · exact am_pt_c _
  · dsimp only
    rcases w[v]? with _ | (y | ⟨ci, fs⟩)
    · exact am_pt_c _
    · rcases T.2.1 x with _ | u <;> exact am_pt_c _
    · rcases T.2.1 x with _ | ⟨cj, fi, mode⟩
      · exact am_pt_c _
      · refine am_pt_b ?_ (am_pt_c _)
        rcases fs[fi]? with _ | u
        · exact am_pt_c _
        · exact am_pt_nx
  · exact am_pt_c _
theorem am_pt_ptf {x : Nat} : am_pt (fun kt => am_ptf T len pc L S w k j kt x) := by
  unfold am_ptf
  rcases S with _ | ⟨v, _ | ⟨u | u | u, S⟩⟩
  · exact am_pt_c _
  · exact am_pt_c _
  · exact am_pt_c _
  · dsimp only
    rcases w[u]? with _ | (y | ⟨ci, fs⟩)
    · exact am_pt_c _
    · rcases T.2.1 x with _ | u <;> exact am_pt_c _
    · rcases T.2.1 x with _ | ⟨cj, fi, mode⟩
      · exact am_pt_c _
      · exact am_pt_b (am_pt_fi am_pt_sx) (am_pt_c _)
  · exact am_pt_c _
theorem am_pt_arl {ty : Nat} : am_pt (fun kt => am_arl T len pc L S w k j kt ty) := by
  unfold am_arl
  rcases S with _ | ⟨v | v, _ | ⟨u | u | u, S⟩⟩
  · exact am_pt_c _
  · exact am_pt_c _
  · exact am_pt_c _
  · dsimp only
    rcases w[u]? with _ | (⟨t, n, f⟩ | y)
    · exact am_pt_c _
    · exact am_pt_b (am_pt_ch am_pt_nx) (am_pt_c _)
    · exact am_pt_c _
  · rcases u with _ | u
    · exact am_pt_c _
    · dsimp only
      rcases T.2.2.2.2.2.2.1 u with _ | ⟨t, n, f⟩
      · exact am_pt_c _
      · exact am_pt_b (am_pt_ch am_pt_nx) (am_pt_c _)
  · exact am_pt_c _
  · exact am_pt_c _
  · exact am_pt_c _
  · exact am_pt_c _
theorem am_pt_ars {ty : Nat} : am_pt (fun kt => am_ars T len pc L S w k j kt ty) := by
  unfold am_ars
  rcases S with _ | ⟨v | v, _ | ⟨i | i, _ | ⟨u | u | u, S⟩⟩⟩ <;> first | exact am_pt_c _ | skip
  dsimp only
  rcases w[u]? with _ | (⟨t, n, f⟩ | y)
  · exact am_pt_c _
  · exact am_pt_b (am_pt_ch am_pt_sx) (am_pt_c _)
  · exact am_pt_c _
theorem am_pt_aln : am_pt (fun kt => am_aln T len pc L S w k j kt) := by
  unfold am_aln
  rcases S with _ | ⟨u | u | u, S⟩
  · exact am_pt_c _
  · exact am_pt_c _
  · dsimp only
    rcases w[u]? with _ | (⟨t, n, f⟩ | y)
    · exact am_pt_c _
    · exact am_pt_b am_pt_nx (am_pt_c _)
    · exact am_pt_c _
  · rcases u with _ | u
    · exact am_pt_c _
    · dsimp only
      rcases T.2.2.2.2.2.2.1 u with _ | ⟨t, n, f⟩
      · exact am_pt_c _
      · exact am_pt_nx
theorem am_pt_new {x : Nat} : am_pt (fun kt => am_new T len pc L S w k j kt x) := by
  unfold am_new
  rcases T.2.2.2.1 x with _ | ⟨ci, fs⟩
  · exact am_pt_c _
  · exact am_pt_b am_pt_nx (am_pt_c _)
theorem am_pt_nwa {a : ArrayType} : am_pt (fun kt => am_nwa T len pc L S w k j kt a) := by
  unfold am_nwa
  rcases am_tyn a with _ | t
  · exact am_pt_c _
  · rcases S with _ | ⟨v | v, S⟩
    · exact am_pt_c _
    · exact am_pt_b am_pt_nx (am_pt_c _)
    · exact am_pt_c _
theorem am_pt_inv : am_pt (fun kt => am_inv T len pc L w k j kt S) := by
  unfold am_inv
  rcases T.2.2.2.2.2.1 pc with _ | ⟨_ | sel, n, pre, f⟩
  · exact am_pt_c _
  · exact am_pt_b (am_pt_i (am_pt_ch (am_pt_b am_pt_nx (am_pt_c _))) (am_pt_c _)) (am_pt_c _)
  · exact am_pt_b (am_pt_cq (am_pt_b (am_pt_i (am_pt_cq (am_pt_b am_pt_sx (am_pt_c _))) (am_pt_c _)) (am_pt_c _))) (am_pt_c _)
theorem am_pt_do {i : Instr} : am_pt (fun kt => am_do T i len pc L S w k j kt) := by
  cases i with
  | iload_n x => exact am_pt_ild
  | iload x => exact am_pt_ild
  | aload_n x => exact am_pt_ald
  | aload x => exact am_pt_ald
  | istore_n x => exact am_pt_ist
  | istore x => exact am_pt_ist
  | astore_n x => exact am_pt_ast
  | astore x => exact am_pt_ast
  | iinc x n => exact am_pt_inc
  | iconst n => exact am_pt_nx
  | bipush n => exact am_pt_nx
  | sipush n => exact am_pt_nx
  | aconst_null => exact am_pt_nx
  | ldc x =>
    show am_pt (fun kt => match T.2.2.2.2.1 x with
      | some v => am_psh len pc L S w k j kt 2 v
      | none => none)
    rcases T.2.2.2.2.1 x with _ | v
    · exact am_pt_c _
    · exact am_pt_nx
  | iadd => exact am_pt_bin
  | isub => exact am_pt_bin
  | imul => exact am_pt_bin
  | iand => exact am_pt_bin
  | ior => exact am_pt_bin
  | ixor => exact am_pt_bin
  | ishl => exact am_pt_bin
  | ishr => exact am_pt_bin
  | iushr => exact am_pt_bin
  | idiv => exact am_pt_div
  | irem => exact am_pt_div
  | ineg => exact am_pt_un
  | i2c => exact am_pt_un
  | i2b => exact am_pt_un
  | dup => rcases S with _ | ⟨v, S⟩ <;> first | exact am_pt_c _ | exact am_pt_nx
  | pop => rcases S with _ | ⟨v, S⟩ <;> first | exact am_pt_c _ | exact am_pt_nx
  | dup2 => rcases S with _ | ⟨v, _ | ⟨u, S⟩⟩ <;> first | exact am_pt_c _ | exact am_pt_nx
  | dup_x1 => rcases S with _ | ⟨v, _ | ⟨u, S⟩⟩ <;> first | exact am_pt_c _ | exact am_pt_nx
  | dup_x2 => rcases S with _ | ⟨v, _ | ⟨u, _ | ⟨y, S⟩⟩⟩ <;> first | exact am_pt_c _ | exact am_pt_nx
  | ifCond cd off => exact am_pt_ifz
  | if_icmp cd off => exact am_pt_icm
  | goto off => exact am_pt_jp
  | tableswitch d lo hi offs => exact am_pt_tsw
  | lookupswitch d ps => exact am_pt_lsw
  | getfield x =>
    rcases S with _ | ⟨v | v | v, S⟩
    · exact am_pt_gtf (T := T) (len := len) (pc := pc) (L := L) (S := []) (w := w) (k := k) (j := j) (x := x)
    · exact am_pt_gtf (T := T) (len := len) (pc := pc) (L := L) (S := .inl v :: S) (w := w) (k := k) (j := j) (x := x)
    · exact am_pt_gtf (T := T) (len := len) (pc := pc) (L := L) (S := .inr (.inl v) :: S) (w := w) (k := k) (j := j) (x := x)
    · cases v with
      | zero => exact am_pt_gtf (T := T) (len := len) (pc := pc) (L := L) (S := .inr (.inr 0) :: S) (w := w) (k := k) (j := j) (x := x)
      | succ v => exact am_pt_inv (T := T) (len := len) (pc := pc) (L := L) (S := .inr (.inr (v + 1)) :: S) (w := w) (k := k) (j := j)
  | getstatic x => exact am_pt_inv
  | putfield x => exact am_pt_ptf
  | iaload => exact am_pt_arl
  | caload => exact am_pt_arl
  | baload => exact am_pt_arl
  | iastore => exact am_pt_ars
  | castore => exact am_pt_ars
  | bastore => exact am_pt_ars
  | arraylength => exact am_pt_aln
  | new x => exact am_pt_new
  | newarray a => exact am_pt_nwa
  | invokevirtual x => exact am_pt_inv
  | invokestatic x => exact am_pt_inv
  | invokespecial x => exact am_pt_inv
  | _ => exact am_pt_c _
end AMPT
theorem am_pt_comp {F : (am_S → Option am_Z) → Option am_Z} {g : (am_S → Option am_Z) → am_S → Option am_Z} (hF : am_pt F) (hg : ∀ st, am_pt (fun kt => g kt st)) : am_pt (fun kt => F (g kt)) := by
  intro kt z h
  rcases hF (g kt) z h with ⟨st, h1, h2⟩ | h1
  · rcases hg st kt z h1 with ⟨st2, h3, h4⟩ | h3
    · exact Or.inl ⟨st2, h3, fun kt' h' => h2 (g kt') (h4 kt' h')⟩
    · exact Or.inr fun kt' => h2 (g kt') (h3 kt')
  · exact Or.inr fun kt' => h1 (g kt')
theorem am_pt_go (T : am_T) (cuts : List Nat) : ∀ (n : Nat) (st : am_S), am_pt (fun kt => am_go T cuts n st kt) := by
  intro n
  induction n with
  | zero => intro st; exact am_pt_c _
  | succ n ih =>
    rintro ⟨pc, L, S, w, k, j⟩
    show am_pt (fun kt => match am_at T.1 pc with
      | some (i, len) => am_do T i len pc L S w k j (fun st' => bif cuts.contains st'.1 then kt st' else am_go T cuts n st' kt)
      | none => none)
    rcases am_at T.1 pc with _ | ⟨i, len⟩
    · exact am_pt_c _
    · exact am_pt_comp (F := fun kt => am_do T i len pc L S w k j kt) (g := fun kt st' => bif cuts.contains st'.1 then kt st' else am_go T cuts n st' kt) am_pt_do (fun st => am_pt_b (am_pt_k st) (ih st))
/-- the end that some count reaches -/
noncomputable def am_lf (T : am_T) (cuts : List Nat) (st : am_S) : Option am_Z := @dite _ (∃ z : am_Z, ∃ n : Nat, am_ev T cuts n st = some z) (Classical.propDecidable _) (fun h => some h.choose) (fun _ => none)
theorem am_lf_ev {T : am_T} {cuts : List Nat} {st : am_S} {z : am_Z} (h : am_lf T cuts st = some z) : ∃ n, am_ev T cuts n st = some z := by
  unfold am_lf at h
  split at h
  · rename_i hh
    have h1 := hh.choose_spec
    rw [Option.some.inj h] at h1
    exact h1
  · cases h
theorem am_lf_eq {T : am_T} {cuts : List Nat} {st : am_S} {z : am_Z} (h : am_go T cuts 400 st (am_lf T cuts) = some z) : am_lf T cuts st = some z := by
  have key : ∃ n, am_ev T cuts n st = some z := by
    rcases am_pt_go T cuts 400 st (am_lf T cuts) z h with ⟨st', h1, h2⟩ | h1
    · obtain ⟨n, hn⟩ := am_lf_ev h1
      exact ⟨n + 1, h2 (am_ev T cuts n) hn⟩
    · exact ⟨0 + 1, h1 (am_ev T cuts 0)⟩
  have uniq : ∀ (n : Nat) (st : am_S) (m : Nat) (z z' : am_Z), am_ev T cuts n st = some z → am_ev T cuts m st = some z' → z = z' := by
    intro n
    induction n with
    | zero => intro st m z z' h; cases h
    | succ n ih =>
      intro st m z z' h h'
      cases m with
      | zero => cases h'
      | succ m =>
        have h : am_go T cuts 400 st (am_ev T cuts n) = some z := h
        have h' : am_go T cuts 400 st (am_ev T cuts m) = some z' := h'
        rcases am_pt_go T cuts 400 st (am_ev T cuts n) z h with ⟨st', h1, h2⟩ | h1
        · cases hm : am_ev T cuts m st' with
          | some y =>
            have e := ih st' m z y h1 hm
            subst e
            have h3 := h2 (am_ev T cuts m) hm
            exact Option.some.inj (h3.symm.trans h')
          | none =>
            -- the other count gives nothing where the first one goes on: compare over a third way on
            obtain ⟨K, k1, k2⟩ : ∃ K : am_S → Option am_Z, K st' = some z ∧ ∀ s, ¬ s = st' → K s = am_ev T cuts m s := ⟨fun s => @ite _ (s = st') (Classical.propDecidable _) (some z) (am_ev T cuts m s), if_pos rfl, fun s hs => if_neg hs⟩
            have h3 := h2 K k1
            rcases am_pt_go T cuts 400 st (am_ev T cuts m) z' h' with ⟨st2, g1, g2⟩ | g1
            · by_cases hs : st2 = st'
              · subst hs; rw [hm] at g1; cases g1
              · have h4 := g2 K ((k2 st2 hs).trans g1)
                exact Option.some.inj (h3.symm.trans h4)
            · exact Option.some.inj (h3.symm.trans (g1 K))
        · exact Option.some.inj ((h1 (am_ev T cuts m)).symm.trans h')
  unfold am_lf
  have hh : ∃ z : am_Z, ∃ n : Nat, am_ev T cuts n st = some z := ⟨z, key⟩
  rw [dif_pos hh]
  obtain ⟨n, hn⟩ := hh.choose_spec
  obtain ⟨m, hm⟩ := key
  rw [uniq n st m _ z hn hm]
end
section
/-! calls of nest mates; Object.<init> -/
section AMCN
variable {p : Program} {l : Launch} {e : Env} {R : Room} {s : State} {m : MethodId} {args : Array Value} {below : List Frame} {meth : Method} {c : Code} {cc bytes : ByteArray} {D : va_G} {cl : List vw_C} {tys : List (ClassId × FieldType)} {A : Nat → Prop} {Ts ws ws' : List Jvm.Cond} {own : String} {nL nt fr lo pc n maxL idx : Nat} {ou : Nat → Nat} {ca : Nat → ClassId} {E : (Nat → Prop) → State → Prop} {y : MethodName} {pre : List am_V → List am_C → Prop} {f : am_M} {ret : Option FieldType}
theorem am_ck_SN (X : am_X p s m args c cc own Ts D cl tys A nL ca nt) (hEs : E A s) (hEC : am_EC E) (hM : am_Met l E D cl tys ou ca y ws fr lo pre f) (hG : GoodIn Ts ws) (hw : ws = Jvm.Cond.code y bytes maxL ret :: ws') (hini : Jvm.Cond.initialized y.cls ∈ Ts) {host : String} (hlk : va_Nw (.methodLinkNest own idx y host) s) (hst : Jvm.Cond.static y ∈ Ts)
    (hdd : y.cls ≠ "java/lang/invoke/MethodHandle" ∧ y.cls ≠ "java/lang/invoke/VarHandle" ∧ (parseMethodDescriptor y.desc).map (fun d => d.parameters.length) = some n) (hR : fr + 1 ≤ R.frames ∧ 8 + (maxL + 11) + lo ≤ R.locals) (hd : decode cc pc = .ok (.invokestatic idx, 3)) : am_CK p l e R s m args below meth c D cl A ou ca nL pc n pre f := by
  intro a wc ad H locs ls k j rest han hp hP hD hS hsz hW hk hj
  exact va_runSN (nL := nL) (Ts := Ts) (own := own) (bytes := bytes) (maxL := maxL) (ret := ret) (As := a.map (am_v ad ou)) ⟨X.1, X.2.1, X.2.2.1, X.2.2.2.1, X.2.2.2.2.1⟩ (hM ad H.size a wc hp) ⟨va_cnB n X.2.2.2.2.1 hG hw rfl rfl hlk (X.2.2.2.2.1 _ hini) hdd hR, X.2.2.2.2.1 _ hst, trivial⟩ (am_pre X hEs hEC hP hD hS) rfl (by rw [List.length_map]; exact han) hsz rfl (lv_room hW) hd ⟨hk, hj⟩
theorem am_ck_IN (X : am_X p s m args c cc own Ts D cl tys A nL ca nt) (hEs : E A s) (hEC : am_EC E) (hM : am_Met l E D cl tys ou ca y ws fr lo pre f) (hG : GoodIn Ts ws) (hw : ws = Jvm.Cond.code y bytes maxL none :: ws') (hini : Jvm.Cond.initialized y.cls ∈ Ts) {host : String} (hlk : va_Nw (.methodLinkNest own idx y host) s) (hin : Jvm.Cond.instanceMethod y ∈ Ts) (hy1 : y.name = "<init>") (hpa : ∀ a w, pre a w → ∃ q a', a = .inr (.inl q) :: a')
    (hdd : y.cls ≠ "java/lang/invoke/MethodHandle" ∧ y.cls ≠ "java/lang/invoke/VarHandle" ∧ (parseMethodDescriptor y.desc).map (fun d => d.parameters.length) = some n) (hR : fr + 1 ≤ R.frames ∧ 8 + (maxL + 11) + lo ≤ R.locals) (hd : decode cc pc = .ok (.invokespecial idx, 3)) : am_CK p l e R s m args below meth c D cl A ou ca nL pc (n + 1) pre f := by
  intro a wc ad H locs ls k j rest han hp hP hD hS hsz hW hk hj
  obtain ⟨q, a', rfl⟩ := hpa a wc hp
  exact va_runIN (nL := nL) (Ts := Ts) (own := own) (bytes := bytes) (maxL := maxL) (n := n) (As := a'.map (am_v ad ou)) (b := ad q) ⟨X.1, X.2.1, X.2.2.1, X.2.2.2.1, X.2.2.2.2.1⟩ (hM ad H.size _ wc hp) ⟨va_cnB n X.2.2.2.2.1 hG hw rfl rfl hlk (X.2.2.2.2.1 _ hini) hdd hR, hy1, X.2.2.2.2.1 _ hin⟩ (am_pre X hEs hEC hP hD hS) rfl (by rw [List.length_map]; simpa using han) hsz (by simp [am_v]) (lv_room hW) hd ⟨hk, hj⟩
theorem am_ck_VN (X : am_X p s m args c cc own Ts D cl tys A nL ca nt) (hEs : E A s) (hEC : am_EC E) (hM : am_Met l E D cl tys ou ca y ws fr lo pre f) (hG : GoodIn Ts ws) (hw : ws = Jvm.Cond.code y bytes maxL ret :: ws') (hini : Jvm.Cond.initialized y.cls ∈ Ts) {host : String} (hlk : va_Nw (.methodLinkNest own idx y host) s) (hin : Jvm.Cond.instanceMethod y ∈ Ts) (hsel : Jvm.Cond.selects y.cls y y ∈ Ts) (hpa : ∀ a w, pre a w → ∃ q a' ci fs r, a = .inr (.inl q) :: a' ∧ w[q]? = some (.inr (ci, fs)) ∧ cl[ci]? = some r ∧ r.1 = y.cls)
    (hdd : y.cls ≠ "java/lang/invoke/MethodHandle" ∧ y.cls ≠ "java/lang/invoke/VarHandle" ∧ (parseMethodDescriptor y.desc).map (fun d => d.parameters.length) = some n) (hR : fr + 1 ≤ R.frames ∧ 8 + (maxL + 11) + lo ≤ R.locals) (hd : decode cc pc = .ok (.invokevirtual idx, 3)) : am_CK p l e R s m args below meth c D cl A ou ca nL pc (n + 1) pre f := by
  intro a wc ad H locs ls k j rest han hp hP hD hS hsz hW hk hj
  obtain ⟨q, a', ci, fs, r, rfl, hq, hc, hr⟩ := hpa a wc hp
  have hrec := va_recv X.2.2.2.2.2.1 hP hc (am_w_get hq)
  rw [hr] at hrec
  have hpre := am_pre (a := .inr (.inl q) :: a') X hEs hEC hP hD hS
  exact va_runVN (C := y.cls) (nL := nL) (Ts := Ts) (own := own) (bytes := bytes) (maxL := maxL) (ret := ret) (n := n) (As := a'.map (am_v ad ou)) (b := ad q) ⟨X.1, X.2.1, X.2.2.1, X.2.2.2.1, X.2.2.2.2.1⟩ (hM ad H.size _ wc hp) ⟨va_cnB n X.2.2.2.2.1 hG hw rfl rfl hlk (X.2.2.2.2.1 _ hini) hdd hR, X.2.2.2.2.1 _ hin, X.2.2.2.2.1 _ hsel⟩ ⟨hpre.1, hrec, hpre.2⟩ rfl (by rw [List.length_map]; simpa using han) hsz (by simp [am_v]) (lv_room hW) hd ⟨hk, hj⟩
theorem am_ck_O (X : am_X p s m args c cc own Ts D cl tys A nL ca nt) (hlk : Jvm.Cond.methodLink own idx Lib.objectInit ∈ Ts) (hin : Jvm.Cond.instanceMethod Lib.objectInit ∈ Ts) (hcd : Jvm.Cond.code Lib.objectInit ⟨#[0xb1]⟩ 1 none ∈ Ts) (hR : 1 ≤ R.frames ∧ 40 ≤ R.locals) (hd : decode cc pc = .ok (.invokespecial idx, 3)) : am_CK p l e R s m args below meth c D cl A ou ca nL pc 1 (fun a _ => ∃ q, a = [.inr (.inl q)]) (fun _ w => (none, w, 0, 0)) := by
  rintro a wc ad H locs ls k j rest han ⟨q, rfl⟩ hP hD hS hsz hW hk hj
  intro T hT X0
  obtain ⟨vm', X', st⟩ := X0.initObject X.1 X.2.2.2.1 (X.2.2.2.2.1 _ hlk) (X.2.2.2.2.1 _ hin) (X.2.2.2.2.1 _ hcd) (g := F0 m pc ls (.ref (ad q) :: rest)) rfl (by rw [X.2.2.1]; exact hsz) rfl (by rw [X.2.1]; exact hd) hR.1 (by have h9 : 2 * (F0 m pc ls (.ref (ad q) :: rest)).monitorRoom = 0 := rfl; have h8 := hR.2; omega)
  refine ⟨none, T, T.setVm vm', T.setVm vm', [], hT, ?_, ?_, rfl, rfl, ⟨⟨ad, fun _ _ => rfl, rfl, ?_, hD.self⟩, Nat.le_refl _, fun _ _ _ => rfl⟩, st⟩
  · rw [List.append_nil]
    exact X'
  · intro q hq
    cases hq
  · show va_P D cl (am_w ad ou ca wc) T.heap
    rw [hT]
    exact hP
/-- an instruction of three bytes that the machine takes for a call -/
theorem am_ck_W {pr0 : List am_V → Prop} {val : List am_V → am_V} (hrow : ∀ (a : List am_V) (ad : Nat → Nat) (H : Heap) (locs : List Loc) (ls : Array Slot) (k j : Nat) (rest : List Value) (Q : State → Prop), pr0 a → va_S A s.heap H locs → ls.size = nL → W p l e R s m args below meth c H locs k j Q (F0 m (pc + 3) ls (am_v ad ou (val a) :: rest)) → W p l e R s m args below meth c H locs k j Q (F0 m pc ls ((a.map (am_v ad ou)).reverse ++ rest))) : am_CK p l e R s m args below meth c D cl A ou ca nL pc n (fun a w => w = [] ∧ pr0 a) (fun a _ => (some (val a), [], 0, 0)) := by
  rintro a wc ad H locs ls k j rest han ⟨rfl, hp⟩ hP hD hS hsz hW hk hj
  intro T hT X0
  obtain ⟨t, st, T', hT', X', rfl⟩ := hrow a ad H locs ls k j rest (fun t => ∃ T' : State, T'.heap = H ∧ Stand p l e R s m args below meth c T' locs k j ∧ t = T'.setTop (F0 m (pc + 3) ls (am_v ad ou (val a) :: rest))) hp hS hsz (fun T' hT' X' => ⟨_, Steps.refl _, T', hT', X', rfl⟩) T hT X0
  refine ⟨some (am_v ad ou (val a)), T, T', T', [], hT, ?_, ?_, rfl, rfl, ⟨⟨ad, fun _ _ => rfl, rfl, ?_, hD.self⟩, ?_, ?_⟩, fun target h => st.trans h⟩
  · rw [List.append_nil]
    exact X'
  · intro q hq
    cases hq
  · show va_P D cl (am_w ad ou ca []) T'.heap
    rw [hT']
    exact hP
  · rw [hT, hT']
    exact Nat.le_refl _
  · intro q _ _
    rw [hT, hT']
end AMCN
end
section
/-! fields by pool index -/
def kf0 : List (Nat × Nat × Nat × Nat) := [(12, 0, 0, 3), (21, 0, 1, 3), (25, 0, 2, 3), (29, 0, 3, 3), (32, 0, 4, 3), (35, 0, 5, 3), (38, 0, 8, 0), (50, 0, 6, 0), (53, 0, 7, 0), (56, 5, 7, 1), (78, 1, 0, 1), (81, 0, 9, 0), (109, 1, 4, 1)]
def kf0i : List (Nat × Nat × Nat × Nat) := [(12, 0, 0, 2), (21, 0, 1, 2), (25, 0, 2, 2), (29, 0, 3, 2), (32, 0, 4, 2), (35, 0, 5, 2), (38, 0, 8, 0), (50, 0, 6, 0), (53, 0, 7, 0), (56, 5, 7, 1), (78, 1, 0, 1), (81, 0, 9, 0), (109, 1, 4, 1)]
def kf1 : List (Nat × Nat × Nat × Nat) := [(9, 1, 0, 0), (15, 1, 1, 0), (18, 1, 2, 0), (22, 1, 3, 0), (25, 1, 4, 0)]
def kf2 : List (Nat × Nat × Nat × Nat) := [(9, 2, 0, 3), (15, 2, 1, 3), (19, 2, 2, 3), (22, 2, 3, 3), (29, 6, 1, 1)]
def kf2i : List (Nat × Nat × Nat × Nat) := [(9, 2, 0, 2), (15, 2, 1, 2), (19, 2, 2, 2), (22, 2, 3, 2), (29, 6, 1, 1)]
def kf3 : List (Nat × Nat × Nat × Nat) := [(9, 1, 0, 1), (85, 5, 7, 1), (94, 1, 1, 1), (127, 1, 2, 1), (131, 1, 4, 1), (134, 1, 3, 1)]
def kf4 : List (Nat × Nat × Nat × Nat) := []
def kf5 : List (Nat × Nat × Nat × Nat) := [(9, 5, 0, 3), (15, 5, 1, 3), (19, 5, 2, 3), (22, 5, 3, 3), (25, 5, 4, 3), (28, 5, 5, 3), (31, 5, 6, 3), (34, 5, 7, 0), (38, 6, 1, 1), (43, 5, 8, 0)]
def kf5i : List (Nat × Nat × Nat × Nat) := [(9, 5, 0, 2), (15, 5, 1, 2), (19, 5, 2, 2), (22, 5, 3, 2), (25, 5, 4, 2), (28, 5, 5, 2), (31, 5, 6, 2), (34, 5, 7, 0), (38, 6, 1, 1), (43, 5, 8, 0)]
def kf6 : List (Nat × Nat × Nat × Nat) := [(15, 6, 0, 3), (21, 6, 1, 0), (25, 6, 2, 0)]
def kf6i : List (Nat × Nat × Nat × Nat) := [(15, 6, 0, 2), (21, 6, 1, 0), (25, 6, 2, 0)]
def kf7 : List (Nat × Nat × Nat × Nat) := []
def kf8 : List (Nat × Nat × Nat × Nat) := [(14, 8, 0, 3), (24, 5, 7, 1), (34, 6, 2, 1)]
def kf8i : List (Nat × Nat × Nat × Nat) := [(14, 8, 0, 2), (24, 5, 7, 1), (34, 6, 2, 1)]
def kf9 : List (Nat × Nat × Nat × Nat) := [(14, 9, 0, 3), (18, 9, 1, 3), (24, 9, 2, 3), (31, 9, 3, 3), (38, 9, 4, 3), (55, 6, 1, 1), (70, 0, 9, 1), (83, 0, 7, 1), (86, 0, 8, 1), (119, 0, 0, 4), (129, 8, 0, 4)]
def kf9i : List (Nat × Nat × Nat × Nat) := [(14, 9, 0, 2), (18, 9, 1, 2), (24, 9, 2, 2), (31, 9, 3, 2), (38, 9, 4, 2), (55, 6, 1, 1), (70, 0, 9, 1), (83, 0, 7, 1), (86, 0, 8, 1), (119, 0, 0, 4), (129, 8, 0, 4)]
def kf10 : List (Nat × Nat × Nat × Nat) := [(7, 10, 2, 0), (13, 10, 4, 0), (16, 10, 6, 0), (20, 10, 7, 0), (23, 10, 8, 0), (26, 10, 9, 0), (29, 10, 10, 0), (32, 10, 11, 0), (35, 10, 12, 0), (38, 10, 14, 0), (42, 10, 16, 0), (45, 10, 23, 0), (48, 10, 24, 0), (51, 10, 25, 0), (54, 10, 26, 0), (58, 10, 27, 0), (61, 10, 28, 0), (64, 10, 29, 0), (67, 10, 30, 0), (70, 10, 32, 0), (73, 10, 33, 0), (76, 10, 35, 0), (79, 10, 0, 0), (82, 10, 1, 0), (85, 10, 3, 0), (88, 10, 13, 0), (92, 10, 5, 0), (124, 10, 17, 0), (127, 10, 18, 0), (130, 10, 19, 0), (134, 10, 20, 0), (137, 10, 21, 0), (213, 10, 15, 0), (216, 10, 22, 0), (250, 10, 36, 0), (253, 10, 34, 0), (309, 10, 31, 0)]
def am_gx (w : List am_C) (b k : Nat) : Int32 := match w[b]? with
  | some (.inr (_, fs)) => (match fs[k]? with
    | some (.inl v) => v
    | _ => 0)
  | _ => 0
def am_ga (w : List am_C) (k : Nat) : Nat → Int32 := match w[k]? with
  | some (.inl (_, _, f)) => f
  | _ => fun _ => 0
def am_gn (w : List am_C) (k : Nat) : Nat := match w[k]? with
  | some (.inl (_, n, _)) => n
  | _ => 0
def am_i (v : am_V) : Int32 := match v with
  | .inl x => x
  | _ => 0
def am_n (v : am_V) : Nat := match v with
  | .inr (.inr (k + 1)) => k
  | _ => 0
def am_an (a : List am_V) (k : Nat) : am_V := a.getD k (.inl 0)
/-! states -/
abbrev hs : Type := Int32 × Int32 × Int32 × Int32 × Int32 × Int32 × Int32 × Int32 × Int32 × Int32 × Int32 × Int32 × Int32 × Int32 × Int32 × Int32 × (Nat → Int32) × (Nat → Int32) × (Nat → Int32) × (Nat → Int32) × (Nat → Int32) × (Nat → Int32) × (Nat → Int32) × (Nat → Int32) × (Nat → Int32) × (Nat → Int32) × (Nat → Int32) × (Nat → Int32) × (Nat → Int32) × (Nat → Int32) × (Nat → Int32) × (Nat → Int32) × (Nat → Int32) × (Nat → Int32) × (Nat → Int32) × (Nat → Int32) × (Nat → Int32)
def hm_thrown (s : hs) : Int32 := s.1
def hu_thrown (s : hs) (v : Int32) : hs := (v, s.2)
def hm_typed (s : hs) : Int32 := s.2.1
def hu_typed (s : hs) (v : Int32) : hs := (s.1, v, s.2.2)
def hm_length (s : hs) : Int32 := s.2.2.1
def hu_length (s : hs) (v : Int32) : hs := (s.1, s.2.1, v, s.2.2.2)
def hm_symbols (s : hs) : Int32 := s.2.2.2.1
def hu_symbols (s : hs) (v : Int32) : hs := (s.1, s.2.1, s.2.2.1, v, s.2.2.2.2)
def hm_compiled (s : hs) : Int32 := s.2.2.2.2.1
def hu_compiled (s : hs) (v : Int32) : hs := (s.1, s.2.1, s.2.2.1, s.2.2.2.1, v, s.2.2.2.2.2)
def hm_fault (s : hs) : Int32 := s.2.2.2.2.2.1
def hu_fault (s : hs) (v : Int32) : hs := (s.1, s.2.1, s.2.2.1, s.2.2.2.1, s.2.2.2.2.1, v, s.2.2.2.2.2.2)
def hm_holes (s : hs) : Int32 := s.2.2.2.2.2.2.1
def hu_holes (s : hs) (v : Int32) : hs := (s.1, s.2.1, s.2.2.1, s.2.2.2.1, s.2.2.2.2.1, s.2.2.2.2.2.1, v, s.2.2.2.2.2.2.2)
def hm_context (s : hs) : Int32 := s.2.2.2.2.2.2.2.1
def hu_context (s : hs) (v : Int32) : hs := (s.1, s.2.1, s.2.2.1, s.2.2.2.1, s.2.2.2.2.1, s.2.2.2.2.2.1, s.2.2.2.2.2.2.1, v, s.2.2.2.2.2.2.2.2)
def hm_element (s : hs) : Int32 := s.2.2.2.2.2.2.2.2.1
def hu_element (s : hs) (v : Int32) : hs := (s.1, s.2.1, s.2.2.1, s.2.2.2.1, s.2.2.2.2.1, s.2.2.2.2.2.1, s.2.2.2.2.2.2.1, s.2.2.2.2.2.2.2.1, v, s.2.2.2.2.2.2.2.2.2)
def hm_quote (s : hs) : Int32 := s.2.2.2.2.2.2.2.2.2.1
def hu_quote (s : hs) (v : Int32) : hs := (s.1, s.2.1, s.2.2.1, s.2.2.2.1, s.2.2.2.2.1, s.2.2.2.2.2.1, s.2.2.2.2.2.2.1, s.2.2.2.2.2.2.2.1, s.2.2.2.2.2.2.2.2.1, v, s.2.2.2.2.2.2.2.2.2.2)
def hm_kind (s : hs) : Int32 := s.2.2.2.2.2.2.2.2.2.2.1
def hu_kind (s : hs) (v : Int32) : hs := (s.1, s.2.1, s.2.2.1, s.2.2.2.1, s.2.2.2.2.1, s.2.2.2.2.2.1, s.2.2.2.2.2.2.1, s.2.2.2.2.2.2.2.1, s.2.2.2.2.2.2.2.2.1, s.2.2.2.2.2.2.2.2.2.1, v, s.2.2.2.2.2.2.2.2.2.2.2)
def hm_part (s : hs) : Int32 := s.2.2.2.2.2.2.2.2.2.2.2.1
def hu_part (s : hs) (v : Int32) : hs := (s.1, s.2.1, s.2.2.1, s.2.2.2.1, s.2.2.2.2.1, s.2.2.2.2.2.1, s.2.2.2.2.2.2.1, s.2.2.2.2.2.2.2.1, s.2.2.2.2.2.2.2.2.1, s.2.2.2.2.2.2.2.2.2.1, s.2.2.2.2.2.2.2.2.2.2.1, v, s.2.2.2.2.2.2.2.2.2.2.2.2)
def hm_open (s : hs) : Int32 := s.2.2.2.2.2.2.2.2.2.2.2.2.1
def hu_open (s : hs) (v : Int32) : hs := (s.1, s.2.1, s.2.2.1, s.2.2.2.1, s.2.2.2.2.1, s.2.2.2.2.2.1, s.2.2.2.2.2.2.1, s.2.2.2.2.2.2.2.1, s.2.2.2.2.2.2.2.2.1, s.2.2.2.2.2.2.2.2.2.1, s.2.2.2.2.2.2.2.2.2.2.1, s.2.2.2.2.2.2.2.2.2.2.2.1, v, s.2.2.2.2.2.2.2.2.2.2.2.2.2)
def hm_deep (s : hs) : Int32 := s.2.2.2.2.2.2.2.2.2.2.2.2.2.1
def hu_deep (s : hs) (v : Int32) : hs := (s.1, s.2.1, s.2.2.1, s.2.2.2.1, s.2.2.2.2.1, s.2.2.2.2.2.1, s.2.2.2.2.2.2.1, s.2.2.2.2.2.2.2.1, s.2.2.2.2.2.2.2.2.1, s.2.2.2.2.2.2.2.2.2.1, s.2.2.2.2.2.2.2.2.2.2.1, s.2.2.2.2.2.2.2.2.2.2.2.1, s.2.2.2.2.2.2.2.2.2.2.2.2.1, v, s.2.2.2.2.2.2.2.2.2.2.2.2.2.2)
def hm_size (s : hs) : Int32 := s.2.2.2.2.2.2.2.2.2.2.2.2.2.2.1
def hu_size (s : hs) (v : Int32) : hs := (s.1, s.2.1, s.2.2.1, s.2.2.2.1, s.2.2.2.2.1, s.2.2.2.2.2.1, s.2.2.2.2.2.2.1, s.2.2.2.2.2.2.2.1, s.2.2.2.2.2.2.2.2.1, s.2.2.2.2.2.2.2.2.2.1, s.2.2.2.2.2.2.2.2.2.2.1, s.2.2.2.2.2.2.2.2.2.2.2.1, s.2.2.2.2.2.2.2.2.2.2.2.2.1, s.2.2.2.2.2.2.2.2.2.2.2.2.2.1, v, s.2.2.2.2.2.2.2.2.2.2.2.2.2.2.2)
def hm_full (s : hs) : Int32 := s.2.2.2.2.2.2.2.2.2.2.2.2.2.2.2.1
def hu_full (s : hs) (v : Int32) : hs := (s.1, s.2.1, s.2.2.1, s.2.2.2.1, s.2.2.2.2.1, s.2.2.2.2.2.1, s.2.2.2.2.2.2.1, s.2.2.2.2.2.2.2.1, s.2.2.2.2.2.2.2.2.1, s.2.2.2.2.2.2.2.2.2.1, s.2.2.2.2.2.2.2.2.2.2.1, s.2.2.2.2.2.2.2.2.2.2.2.1, s.2.2.2.2.2.2.2.2.2.2.2.2.1, s.2.2.2.2.2.2.2.2.2.2.2.2.2.1, s.2.2.2.2.2.2.2.2.2.2.2.2.2.2.1, v, s.2.2.2.2.2.2.2.2.2.2.2.2.2.2.2.2)
def hm_row (s : hs) : Nat → Int32 := s.2.2.2.2.2.2.2.2.2.2.2.2.2.2.2.2.1
def hu_row (s : hs) (v : Nat → Int32) : hs := (s.1, s.2.1, s.2.2.1, s.2.2.2.1, s.2.2.2.2.1, s.2.2.2.2.2.1, s.2.2.2.2.2.2.1, s.2.2.2.2.2.2.2.1, s.2.2.2.2.2.2.2.2.1, s.2.2.2.2.2.2.2.2.2.1, s.2.2.2.2.2.2.2.2.2.2.1, s.2.2.2.2.2.2.2.2.2.2.2.1, s.2.2.2.2.2.2.2.2.2.2.2.2.1, s.2.2.2.2.2.2.2.2.2.2.2.2.2.1, s.2.2.2.2.2.2.2.2.2.2.2.2.2.2.1, s.2.2.2.2.2.2.2.2.2.2.2.2.2.2.2.1, v, s.2.2.2.2.2.2.2.2.2.2.2.2.2.2.2.2.2)
def ha_row (s : hs) (i : Nat) (y : Int32) : hs := hu_row s (upd (hm_row s) i y)
def hm_template (s : hs) : Nat → Int32 := s.2.2.2.2.2.2.2.2.2.2.2.2.2.2.2.2.2.1
def hu_template (s : hs) (v : Nat → Int32) : hs := (s.1, s.2.1, s.2.2.1, s.2.2.2.1, s.2.2.2.2.1, s.2.2.2.2.2.1, s.2.2.2.2.2.2.1, s.2.2.2.2.2.2.2.1, s.2.2.2.2.2.2.2.2.1, s.2.2.2.2.2.2.2.2.2.1, s.2.2.2.2.2.2.2.2.2.2.1, s.2.2.2.2.2.2.2.2.2.2.2.1, s.2.2.2.2.2.2.2.2.2.2.2.2.1, s.2.2.2.2.2.2.2.2.2.2.2.2.2.1, s.2.2.2.2.2.2.2.2.2.2.2.2.2.2.1, s.2.2.2.2.2.2.2.2.2.2.2.2.2.2.2.1, s.2.2.2.2.2.2.2.2.2.2.2.2.2.2.2.2.1, v, s.2.2.2.2.2.2.2.2.2.2.2.2.2.2.2.2.2.2)
def ha_template (s : hs) (i : Nat) (y : Int32) : hs := hu_template s (upd (hm_template s) i y)
def hm_sort (s : hs) : Nat → Int32 := s.2.2.2.2.2.2.2.2.2.2.2.2.2.2.2.2.2.2.1
def hu_sort (s : hs) (v : Nat → Int32) : hs := (s.1, s.2.1, s.2.2.1, s.2.2.2.1, s.2.2.2.2.1, s.2.2.2.2.2.1, s.2.2.2.2.2.2.1, s.2.2.2.2.2.2.2.1, s.2.2.2.2.2.2.2.2.1, s.2.2.2.2.2.2.2.2.2.1, s.2.2.2.2.2.2.2.2.2.2.1, s.2.2.2.2.2.2.2.2.2.2.2.1, s.2.2.2.2.2.2.2.2.2.2.2.2.1, s.2.2.2.2.2.2.2.2.2.2.2.2.2.1, s.2.2.2.2.2.2.2.2.2.2.2.2.2.2.1, s.2.2.2.2.2.2.2.2.2.2.2.2.2.2.2.1, s.2.2.2.2.2.2.2.2.2.2.2.2.2.2.2.2.1, s.2.2.2.2.2.2.2.2.2.2.2.2.2.2.2.2.2.1, v, s.2.2.2.2.2.2.2.2.2.2.2.2.2.2.2.2.2.2.2)
def ha_sort (s : hs) (i : Nat) (y : Int32) : hs := hu_sort s (upd (hm_sort s) i y)
def hm_sign (s : hs) : Nat → Int32 := s.2.2.2.2.2.2.2.2.2.2.2.2.2.2.2.2.2.2.2.1
def hu_sign (s : hs) (v : Nat → Int32) : hs := (s.1, s.2.1, s.2.2.1, s.2.2.2.1, s.2.2.2.2.1, s.2.2.2.2.2.1, s.2.2.2.2.2.2.1, s.2.2.2.2.2.2.2.1, s.2.2.2.2.2.2.2.2.1, s.2.2.2.2.2.2.2.2.2.1, s.2.2.2.2.2.2.2.2.2.2.1, s.2.2.2.2.2.2.2.2.2.2.2.1, s.2.2.2.2.2.2.2.2.2.2.2.2.1, s.2.2.2.2.2.2.2.2.2.2.2.2.2.1, s.2.2.2.2.2.2.2.2.2.2.2.2.2.2.1, s.2.2.2.2.2.2.2.2.2.2.2.2.2.2.2.1, s.2.2.2.2.2.2.2.2.2.2.2.2.2.2.2.2.1, s.2.2.2.2.2.2.2.2.2.2.2.2.2.2.2.2.2.1, s.2.2.2.2.2.2.2.2.2.2.2.2.2.2.2.2.2.2.1, v, s.2.2.2.2.2.2.2.2.2.2.2.2.2.2.2.2.2.2.2.2)
def ha_sign (s : hs) (i : Nat) (y : Int32) : hs := hu_sign s (upd (hm_sign s) i y)
def hm_place (s : hs) : Nat → Int32 := s.2.2.2.2.2.2.2.2.2.2.2.2.2.2.2.2.2.2.2.2.1
def hu_place (s : hs) (v : Nat → Int32) : hs := (s.1, s.2.1, s.2.2.1, s.2.2.2.1, s.2.2.2.2.1, s.2.2.2.2.2.1, s.2.2.2.2.2.2.1, s.2.2.2.2.2.2.2.1, s.2.2.2.2.2.2.2.2.1, s.2.2.2.2.2.2.2.2.2.1, s.2.2.2.2.2.2.2.2.2.2.1, s.2.2.2.2.2.2.2.2.2.2.2.1, s.2.2.2.2.2.2.2.2.2.2.2.2.1, s.2.2.2.2.2.2.2.2.2.2.2.2.2.1, s.2.2.2.2.2.2.2.2.2.2.2.2.2.2.1, s.2.2.2.2.2.2.2.2.2.2.2.2.2.2.2.1, s.2.2.2.2.2.2.2.2.2.2.2.2.2.2.2.2.1, s.2.2.2.2.2.2.2.2.2.2.2.2.2.2.2.2.2.1, s.2.2.2.2.2.2.2.2.2.2.2.2.2.2.2.2.2.2.1, s.2.2.2.2.2.2.2.2.2.2.2.2.2.2.2.2.2.2.2.1, v, s.2.2.2.2.2.2.2.2.2.2.2.2.2.2.2.2.2.2.2.2.2)
def ha_place (s : hs) (i : Nat) (y : Int32) : hs := hu_place s (upd (hm_place s) i y)
def hm_marked (s : hs) : Nat → Int32 := s.2.2.2.2.2.2.2.2.2.2.2.2.2.2.2.2.2.2.2.2.2.1
def hu_marked (s : hs) (v : Nat → Int32) : hs := (s.1, s.2.1, s.2.2.1, s.2.2.2.1, s.2.2.2.2.1, s.2.2.2.2.2.1, s.2.2.2.2.2.2.1, s.2.2.2.2.2.2.2.1, s.2.2.2.2.2.2.2.2.1, s.2.2.2.2.2.2.2.2.2.1, s.2.2.2.2.2.2.2.2.2.2.1, s.2.2.2.2.2.2.2.2.2.2.2.1, s.2.2.2.2.2.2.2.2.2.2.2.2.1, s.2.2.2.2.2.2.2.2.2.2.2.2.2.1, s.2.2.2.2.2.2.2.2.2.2.2.2.2.2.1, s.2.2.2.2.2.2.2.2.2.2.2.2.2.2.2.1, s.2.2.2.2.2.2.2.2.2.2.2.2.2.2.2.2.1, s.2.2.2.2.2.2.2.2.2.2.2.2.2.2.2.2.2.1, s.2.2.2.2.2.2.2.2.2.2.2.2.2.2.2.2.2.2.1, s.2.2.2.2.2.2.2.2.2.2.2.2.2.2.2.2.2.2.2.1, s.2.2.2.2.2.2.2.2.2.2.2.2.2.2.2.2.2.2.2.2.1, v, s.2.2.2.2.2.2.2.2.2.2.2.2.2.2.2.2.2.2.2.2.2.2)
def ha_marked (s : hs) (i : Nat) (y : Int32) : hs := hu_marked s (upd (hm_marked s) i y)
def hm_other (s : hs) : Nat → Int32 := s.2.2.2.2.2.2.2.2.2.2.2.2.2.2.2.2.2.2.2.2.2.2.1
def hu_other (s : hs) (v : Nat → Int32) : hs := (s.1, s.2.1, s.2.2.1, s.2.2.2.1, s.2.2.2.2.1, s.2.2.2.2.2.1, s.2.2.2.2.2.2.1, s.2.2.2.2.2.2.2.1, s.2.2.2.2.2.2.2.2.1, s.2.2.2.2.2.2.2.2.2.1, s.2.2.2.2.2.2.2.2.2.2.1, s.2.2.2.2.2.2.2.2.2.2.2.1, s.2.2.2.2.2.2.2.2.2.2.2.2.1, s.2.2.2.2.2.2.2.2.2.2.2.2.2.1, s.2.2.2.2.2.2.2.2.2.2.2.2.2.2.1, s.2.2.2.2.2.2.2.2.2.2.2.2.2.2.2.1, s.2.2.2.2.2.2.2.2.2.2.2.2.2.2.2.2.1, s.2.2.2.2.2.2.2.2.2.2.2.2.2.2.2.2.2.1, s.2.2.2.2.2.2.2.2.2.2.2.2.2.2.2.2.2.2.1, s.2.2.2.2.2.2.2.2.2.2.2.2.2.2.2.2.2.2.2.1, s.2.2.2.2.2.2.2.2.2.2.2.2.2.2.2.2.2.2.2.2.1, s.2.2.2.2.2.2.2.2.2.2.2.2.2.2.2.2.2.2.2.2.2.1, v, s.2.2.2.2.2.2.2.2.2.2.2.2.2.2.2.2.2.2.2.2.2.2.2)
def ha_other (s : hs) (i : Nat) (y : Int32) : hs := hu_other s (upd (hm_other s) i y)
def hm_closing (s : hs) : Nat → Int32 := s.2.2.2.2.2.2.2.2.2.2.2.2.2.2.2.2.2.2.2.2.2.2.2.1
def hu_closing (s : hs) (v : Nat → Int32) : hs := (s.1, s.2.1, s.2.2.1, s.2.2.2.1, s.2.2.2.2.1, s.2.2.2.2.2.1, s.2.2.2.2.2.2.1, s.2.2.2.2.2.2.2.1, s.2.2.2.2.2.2.2.2.1, s.2.2.2.2.2.2.2.2.2.1, s.2.2.2.2.2.2.2.2.2.2.1, s.2.2.2.2.2.2.2.2.2.2.2.1, s.2.2.2.2.2.2.2.2.2.2.2.2.1, s.2.2.2.2.2.2.2.2.2.2.2.2.2.1, s.2.2.2.2.2.2.2.2.2.2.2.2.2.2.1, s.2.2.2.2.2.2.2.2.2.2.2.2.2.2.2.1, s.2.2.2.2.2.2.2.2.2.2.2.2.2.2.2.2.1, s.2.2.2.2.2.2.2.2.2.2.2.2.2.2.2.2.2.1, s.2.2.2.2.2.2.2.2.2.2.2.2.2.2.2.2.2.2.1, s.2.2.2.2.2.2.2.2.2.2.2.2.2.2.2.2.2.2.2.1, s.2.2.2.2.2.2.2.2.2.2.2.2.2.2.2.2.2.2.2.2.1, s.2.2.2.2.2.2.2.2.2.2.2.2.2.2.2.2.2.2.2.2.2.1, s.2.2.2.2.2.2.2.2.2.2.2.2.2.2.2.2.2.2.2.2.2.2.1, v, s.2.2.2.2.2.2.2.2.2.2.2.2.2.2.2.2.2.2.2.2.2.2.2.2)
def ha_closing (s : hs) (i : Nat) (y : Int32) : hs := hu_closing s (upd (hm_closing s) i y)
def hm_opener (s : hs) : Nat → Int32 := s.2.2.2.2.2.2.2.2.2.2.2.2.2.2.2.2.2.2.2.2.2.2.2.2.1
def hu_opener (s : hs) (v : Nat → Int32) : hs := (s.1, s.2.1, s.2.2.1, s.2.2.2.1, s.2.2.2.2.1, s.2.2.2.2.2.1, s.2.2.2.2.2.2.1, s.2.2.2.2.2.2.2.1, s.2.2.2.2.2.2.2.2.1, s.2.2.2.2.2.2.2.2.2.1, s.2.2.2.2.2.2.2.2.2.2.1, s.2.2.2.2.2.2.2.2.2.2.2.1, s.2.2.2.2.2.2.2.2.2.2.2.2.1, s.2.2.2.2.2.2.2.2.2.2.2.2.2.1, s.2.2.2.2.2.2.2.2.2.2.2.2.2.2.1, s.2.2.2.2.2.2.2.2.2.2.2.2.2.2.2.1, s.2.2.2.2.2.2.2.2.2.2.2.2.2.2.2.2.1, s.2.2.2.2.2.2.2.2.2.2.2.2.2.2.2.2.2.1, s.2.2.2.2.2.2.2.2.2.2.2.2.2.2.2.2.2.2.1, s.2.2.2.2.2.2.2.2.2.2.2.2.2.2.2.2.2.2.2.1, s.2.2.2.2.2.2.2.2.2.2.2.2.2.2.2.2.2.2.2.2.1, s.2.2.2.2.2.2.2.2.2.2.2.2.2.2.2.2.2.2.2.2.2.1, s.2.2.2.2.2.2.2.2.2.2.2.2.2.2.2.2.2.2.2.2.2.2.1, s.2.2.2.2.2.2.2.2.2.2.2.2.2.2.2.2.2.2.2.2.2.2.2.1, v, s.2.2.2.2.2.2.2.2.2.2.2.2.2.2.2.2.2.2.2.2.2.2.2.2.2)
def ha_opener (s : hs) (i : Nat) (y : Int32) : hs := hu_opener s (upd (hm_opener s) i y)
def hm_contexts (s : hs) : Nat → Int32 := s.2.2.2.2.2.2.2.2.2.2.2.2.2.2.2.2.2.2.2.2.2.2.2.2.2.1
def hu_contexts (s : hs) (v : Nat → Int32) : hs := (s.1, s.2.1, s.2.2.1, s.2.2.2.1, s.2.2.2.2.1, s.2.2.2.2.2.1, s.2.2.2.2.2.2.1, s.2.2.2.2.2.2.2.1, s.2.2.2.2.2.2.2.2.1, s.2.2.2.2.2.2.2.2.2.1, s.2.2.2.2.2.2.2.2.2.2.1, s.2.2.2.2.2.2.2.2.2.2.2.1, s.2.2.2.2.2.2.2.2.2.2.2.2.1, s.2.2.2.2.2.2.2.2.2.2.2.2.2.1, s.2.2.2.2.2.2.2.2.2.2.2.2.2.2.1, s.2.2.2.2.2.2.2.2.2.2.2.2.2.2.2.1, s.2.2.2.2.2.2.2.2.2.2.2.2.2.2.2.2.1, s.2.2.2.2.2.2.2.2.2.2.2.2.2.2.2.2.2.1, s.2.2.2.2.2.2.2.2.2.2.2.2.2.2.2.2.2.2.1, s.2.2.2.2.2.2.2.2.2.2.2.2.2.2.2.2.2.2.2.1, s.2.2.2.2.2.2.2.2.2.2.2.2.2.2.2.2.2.2.2.2.1, s.2.2.2.2.2.2.2.2.2.2.2.2.2.2.2.2.2.2.2.2.2.1, s.2.2.2.2.2.2.2.2.2.2.2.2.2.2.2.2.2.2.2.2.2.2.1, s.2.2.2.2.2.2.2.2.2.2.2.2.2.2.2.2.2.2.2.2.2.2.2.1, s.2.2.2.2.2.2.2.2.2.2.2.2.2.2.2.2.2.2.2.2.2.2.2.2.1, v, s.2.2.2.2.2.2.2.2.2.2.2.2.2.2.2.2.2.2.2.2.2.2.2.2.2.2)
def ha_contexts (s : hs) (i : Nat) (y : Int32) : hs := hu_contexts s (upd (hm_contexts s) i y)
def hm_opened (s : hs) : Nat → Int32 := s.2.2.2.2.2.2.2.2.2.2.2.2.2.2.2.2.2.2.2.2.2.2.2.2.2.2.1
def hu_opened (s : hs) (v : Nat → Int32) : hs := (s.1, s.2.1, s.2.2.1, s.2.2.2.1, s.2.2.2.2.1, s.2.2.2.2.2.1, s.2.2.2.2.2.2.1, s.2.2.2.2.2.2.2.1, s.2.2.2.2.2.2.2.2.1, s.2.2.2.2.2.2.2.2.2.1, s.2.2.2.2.2.2.2.2.2.2.1, s.2.2.2.2.2.2.2.2.2.2.2.1, s.2.2.2.2.2.2.2.2.2.2.2.2.1, s.2.2.2.2.2.2.2.2.2.2.2.2.2.1, s.2.2.2.2.2.2.2.2.2.2.2.2.2.2.1, s.2.2.2.2.2.2.2.2.2.2.2.2.2.2.2.1, s.2.2.2.2.2.2.2.2.2.2.2.2.2.2.2.2.1, s.2.2.2.2.2.2.2.2.2.2.2.2.2.2.2.2.2.1, s.2.2.2.2.2.2.2.2.2.2.2.2.2.2.2.2.2.2.1, s.2.2.2.2.2.2.2.2.2.2.2.2.2.2.2.2.2.2.2.1, s.2.2.2.2.2.2.2.2.2.2.2.2.2.2.2.2.2.2.2.2.1, s.2.2.2.2.2.2.2.2.2.2.2.2.2.2.2.2.2.2.2.2.2.1, s.2.2.2.2.2.2.2.2.2.2.2.2.2.2.2.2.2.2.2.2.2.2.1, s.2.2.2.2.2.2.2.2.2.2.2.2.2.2.2.2.2.2.2.2.2.2.2.1, s.2.2.2.2.2.2.2.2.2.2.2.2.2.2.2.2.2.2.2.2.2.2.2.2.1, s.2.2.2.2.2.2.2.2.2.2.2.2.2.2.2.2.2.2.2.2.2.2.2.2.2.1, v, s.2.2.2.2.2.2.2.2.2.2.2.2.2.2.2.2.2.2.2.2.2.2.2.2.2.2.2)
def ha_opened (s : hs) (i : Nat) (y : Int32) : hs := hu_opened s (upd (hm_opened s) i y)
def hm_before (s : hs) : Nat → Int32 := s.2.2.2.2.2.2.2.2.2.2.2.2.2.2.2.2.2.2.2.2.2.2.2.2.2.2.2.1
def hu_before (s : hs) (v : Nat → Int32) : hs := (s.1, s.2.1, s.2.2.1, s.2.2.2.1, s.2.2.2.2.1, s.2.2.2.2.2.1, s.2.2.2.2.2.2.1, s.2.2.2.2.2.2.2.1, s.2.2.2.2.2.2.2.2.1, s.2.2.2.2.2.2.2.2.2.1, s.2.2.2.2.2.2.2.2.2.2.1, s.2.2.2.2.2.2.2.2.2.2.2.1, s.2.2.2.2.2.2.2.2.2.2.2.2.1, s.2.2.2.2.2.2.2.2.2.2.2.2.2.1, s.2.2.2.2.2.2.2.2.2.2.2.2.2.2.1, s.2.2.2.2.2.2.2.2.2.2.2.2.2.2.2.1, s.2.2.2.2.2.2.2.2.2.2.2.2.2.2.2.2.1, s.2.2.2.2.2.2.2.2.2.2.2.2.2.2.2.2.2.1, s.2.2.2.2.2.2.2.2.2.2.2.2.2.2.2.2.2.2.1, s.2.2.2.2.2.2.2.2.2.2.2.2.2.2.2.2.2.2.2.1, s.2.2.2.2.2.2.2.2.2.2.2.2.2.2.2.2.2.2.2.2.1, s.2.2.2.2.2.2.2.2.2.2.2.2.2.2.2.2.2.2.2.2.2.1, s.2.2.2.2.2.2.2.2.2.2.2.2.2.2.2.2.2.2.2.2.2.2.1, s.2.2.2.2.2.2.2.2.2.2.2.2.2.2.2.2.2.2.2.2.2.2.2.1, s.2.2.2.2.2.2.2.2.2.2.2.2.2.2.2.2.2.2.2.2.2.2.2.2.1, s.2.2.2.2.2.2.2.2.2.2.2.2.2.2.2.2.2.2.2.2.2.2.2.2.2.1, s.2.2.2.2.2.2.2.2.2.2.2.2.2.2.2.2.2.2.2.2.2.2.2.2.2.2.1, v, s.2.2.2.2.2.2.2.2.2.2.2.2.2.2.2.2.2.2.2.2.2.2.2.2.2.2.2.2)
def ha_before (s : hs) (i : Nat) (y : Int32) : hs := hu_before s (upd (hm_before s) i y)
def hm_ended (s : hs) : Nat → Int32 := s.2.2.2.2.2.2.2.2.2.2.2.2.2.2.2.2.2.2.2.2.2.2.2.2.2.2.2.2.1
def hu_ended (s : hs) (v : Nat → Int32) : hs := (s.1, s.2.1, s.2.2.1, s.2.2.2.1, s.2.2.2.2.1, s.2.2.2.2.2.1, s.2.2.2.2.2.2.1, s.2.2.2.2.2.2.2.1, s.2.2.2.2.2.2.2.2.1, s.2.2.2.2.2.2.2.2.2.1, s.2.2.2.2.2.2.2.2.2.2.1, s.2.2.2.2.2.2.2.2.2.2.2.1, s.2.2.2.2.2.2.2.2.2.2.2.2.1, s.2.2.2.2.2.2.2.2.2.2.2.2.2.1, s.2.2.2.2.2.2.2.2.2.2.2.2.2.2.1, s.2.2.2.2.2.2.2.2.2.2.2.2.2.2.2.1, s.2.2.2.2.2.2.2.2.2.2.2.2.2.2.2.2.1, s.2.2.2.2.2.2.2.2.2.2.2.2.2.2.2.2.2.1, s.2.2.2.2.2.2.2.2.2.2.2.2.2.2.2.2.2.2.1, s.2.2.2.2.2.2.2.2.2.2.2.2.2.2.2.2.2.2.2.1, s.2.2.2.2.2.2.2.2.2.2.2.2.2.2.2.2.2.2.2.2.1, s.2.2.2.2.2.2.2.2.2.2.2.2.2.2.2.2.2.2.2.2.2.1, s.2.2.2.2.2.2.2.2.2.2.2.2.2.2.2.2.2.2.2.2.2.2.1, s.2.2.2.2.2.2.2.2.2.2.2.2.2.2.2.2.2.2.2.2.2.2.2.1, s.2.2.2.2.2.2.2.2.2.2.2.2.2.2.2.2.2.2.2.2.2.2.2.2.1, s.2.2.2.2.2.2.2.2.2.2.2.2.2.2.2.2.2.2.2.2.2.2.2.2.2.1, s.2.2.2.2.2.2.2.2.2.2.2.2.2.2.2.2.2.2.2.2.2.2.2.2.2.2.1, s.2.2.2.2.2.2.2.2.2.2.2.2.2.2.2.2.2.2.2.2.2.2.2.2.2.2.2.1, v, s.2.2.2.2.2.2.2.2.2.2.2.2.2.2.2.2.2.2.2.2.2.2.2.2.2.2.2.2.2)
def ha_ended (s : hs) (i : Nat) (y : Int32) : hs := hu_ended s (upd (hm_ended s) i y)
def hm_divided (s : hs) : Nat → Int32 := s.2.2.2.2.2.2.2.2.2.2.2.2.2.2.2.2.2.2.2.2.2.2.2.2.2.2.2.2.2.1
def hu_divided (s : hs) (v : Nat → Int32) : hs := (s.1, s.2.1, s.2.2.1, s.2.2.2.1, s.2.2.2.2.1, s.2.2.2.2.2.1, s.2.2.2.2.2.2.1, s.2.2.2.2.2.2.2.1, s.2.2.2.2.2.2.2.2.1, s.2.2.2.2.2.2.2.2.2.1, s.2.2.2.2.2.2.2.2.2.2.1, s.2.2.2.2.2.2.2.2.2.2.2.1, s.2.2.2.2.2.2.2.2.2.2.2.2.1, s.2.2.2.2.2.2.2.2.2.2.2.2.2.1, s.2.2.2.2.2.2.2.2.2.2.2.2.2.2.1, s.2.2.2.2.2.2.2.2.2.2.2.2.2.2.2.1, s.2.2.2.2.2.2.2.2.2.2.2.2.2.2.2.2.1, s.2.2.2.2.2.2.2.2.2.2.2.2.2.2.2.2.2.1, s.2.2.2.2.2.2.2.2.2.2.2.2.2.2.2.2.2.2.1, s.2.2.2.2.2.2.2.2.2.2.2.2.2.2.2.2.2.2.2.1, s.2.2.2.2.2.2.2.2.2.2.2.2.2.2.2.2.2.2.2.2.1, s.2.2.2.2.2.2.2.2.2.2.2.2.2.2.2.2.2.2.2.2.2.1, s.2.2.2.2.2.2.2.2.2.2.2.2.2.2.2.2.2.2.2.2.2.2.1, s.2.2.2.2.2.2.2.2.2.2.2.2.2.2.2.2.2.2.2.2.2.2.2.1, s.2.2.2.2.2.2.2.2.2.2.2.2.2.2.2.2.2.2.2.2.2.2.2.2.1, s.2.2.2.2.2.2.2.2.2.2.2.2.2.2.2.2.2.2.2.2.2.2.2.2.2.1, s.2.2.2.2.2.2.2.2.2.2.2.2.2.2.2.2.2.2.2.2.2.2.2.2.2.2.1, s.2.2.2.2.2.2.2.2.2.2.2.2.2.2.2.2.2.2.2.2.2.2.2.2.2.2.2.1, s.2.2.2.2.2.2.2.2.2.2.2.2.2.2.2.2.2.2.2.2.2.2.2.2.2.2.2.2.1, v, s.2.2.2.2.2.2.2.2.2.2.2.2.2.2.2.2.2.2.2.2.2.2.2.2.2.2.2.2.2.2)
def ha_divided (s : hs) (i : Nat) (y : Int32) : hs := hu_divided s (upd (hm_divided s) i y)
def hm_counts (s : hs) : Nat → Int32 := s.2.2.2.2.2.2.2.2.2.2.2.2.2.2.2.2.2.2.2.2.2.2.2.2.2.2.2.2.2.2.1
def hu_counts (s : hs) (v : Nat → Int32) : hs := (s.1, s.2.1, s.2.2.1, s.2.2.2.1, s.2.2.2.2.1, s.2.2.2.2.2.1, s.2.2.2.2.2.2.1, s.2.2.2.2.2.2.2.1, s.2.2.2.2.2.2.2.2.1, s.2.2.2.2.2.2.2.2.2.1, s.2.2.2.2.2.2.2.2.2.2.1, s.2.2.2.2.2.2.2.2.2.2.2.1, s.2.2.2.2.2.2.2.2.2.2.2.2.1, s.2.2.2.2.2.2.2.2.2.2.2.2.2.1, s.2.2.2.2.2.2.2.2.2.2.2.2.2.2.1, s.2.2.2.2.2.2.2.2.2.2.2.2.2.2.2.1, s.2.2.2.2.2.2.2.2.2.2.2.2.2.2.2.2.1, s.2.2.2.2.2.2.2.2.2.2.2.2.2.2.2.2.2.1, s.2.2.2.2.2.2.2.2.2.2.2.2.2.2.2.2.2.2.1, s.2.2.2.2.2.2.2.2.2.2.2.2.2.2.2.2.2.2.2.1, s.2.2.2.2.2.2.2.2.2.2.2.2.2.2.2.2.2.2.2.2.1, s.2.2.2.2.2.2.2.2.2.2.2.2.2.2.2.2.2.2.2.2.2.1, s.2.2.2.2.2.2.2.2.2.2.2.2.2.2.2.2.2.2.2.2.2.2.1, s.2.2.2.2.2.2.2.2.2.2.2.2.2.2.2.2.2.2.2.2.2.2.2.1, s.2.2.2.2.2.2.2.2.2.2.2.2.2.2.2.2.2.2.2.2.2.2.2.2.1, s.2.2.2.2.2.2.2.2.2.2.2.2.2.2.2.2.2.2.2.2.2.2.2.2.2.1, s.2.2.2.2.2.2.2.2.2.2.2.2.2.2.2.2.2.2.2.2.2.2.2.2.2.2.1, s.2.2.2.2.2.2.2.2.2.2.2.2.2.2.2.2.2.2.2.2.2.2.2.2.2.2.2.1, s.2.2.2.2.2.2.2.2.2.2.2.2.2.2.2.2.2.2.2.2.2.2.2.2.2.2.2.2.1, s.2.2.2.2.2.2.2.2.2.2.2.2.2.2.2.2.2.2.2.2.2.2.2.2.2.2.2.2.2.1, v, s.2.2.2.2.2.2.2.2.2.2.2.2.2.2.2.2.2.2.2.2.2.2.2.2.2.2.2.2.2.2.2)
def ha_counts (s : hs) (i : Nat) (y : Int32) : hs := hu_counts s (upd (hm_counts s) i y)
def hm_lengths (s : hs) : Nat → Int32 := s.2.2.2.2.2.2.2.2.2.2.2.2.2.2.2.2.2.2.2.2.2.2.2.2.2.2.2.2.2.2.2.1
def hu_lengths (s : hs) (v : Nat → Int32) : hs := (s.1, s.2.1, s.2.2.1, s.2.2.2.1, s.2.2.2.2.1, s.2.2.2.2.2.1, s.2.2.2.2.2.2.1, s.2.2.2.2.2.2.2.1, s.2.2.2.2.2.2.2.2.1, s.2.2.2.2.2.2.2.2.2.1, s.2.2.2.2.2.2.2.2.2.2.1, s.2.2.2.2.2.2.2.2.2.2.2.1, s.2.2.2.2.2.2.2.2.2.2.2.2.1, s.2.2.2.2.2.2.2.2.2.2.2.2.2.1, s.2.2.2.2.2.2.2.2.2.2.2.2.2.2.1, s.2.2.2.2.2.2.2.2.2.2.2.2.2.2.2.1, s.2.2.2.2.2.2.2.2.2.2.2.2.2.2.2.2.1, s.2.2.2.2.2.2.2.2.2.2.2.2.2.2.2.2.2.1, s.2.2.2.2.2.2.2.2.2.2.2.2.2.2.2.2.2.2.1, s.2.2.2.2.2.2.2.2.2.2.2.2.2.2.2.2.2.2.2.1, s.2.2.2.2.2.2.2.2.2.2.2.2.2.2.2.2.2.2.2.2.1, s.2.2.2.2.2.2.2.2.2.2.2.2.2.2.2.2.2.2.2.2.2.1, s.2.2.2.2.2.2.2.2.2.2.2.2.2.2.2.2.2.2.2.2.2.2.1, s.2.2.2.2.2.2.2.2.2.2.2.2.2.2.2.2.2.2.2.2.2.2.2.1, s.2.2.2.2.2.2.2.2.2.2.2.2.2.2.2.2.2.2.2.2.2.2.2.2.1, s.2.2.2.2.2.2.2.2.2.2.2.2.2.2.2.2.2.2.2.2.2.2.2.2.2.1, s.2.2.2.2.2.2.2.2.2.2.2.2.2.2.2.2.2.2.2.2.2.2.2.2.2.2.1, s.2.2.2.2.2.2.2.2.2.2.2.2.2.2.2.2.2.2.2.2.2.2.2.2.2.2.2.1, s.2.2.2.2.2.2.2.2.2.2.2.2.2.2.2.2.2.2.2.2.2.2.2.2.2.2.2.2.1, s.2.2.2.2.2.2.2.2.2.2.2.2.2.2.2.2.2.2.2.2.2.2.2.2.2.2.2.2.2.1, s.2.2.2.2.2.2.2.2.2.2.2.2.2.2.2.2.2.2.2.2.2.2.2.2.2.2.2.2.2.2.1, v, s.2.2.2.2.2.2.2.2.2.2.2.2.2.2.2.2.2.2.2.2.2.2.2.2.2.2.2.2.2.2.2.2)
def ha_lengths (s : hs) (i : Nat) (y : Int32) : hs := hu_lengths s (upd (hm_lengths s) i y)
def hm_items (s : hs) : Nat → Int32 := s.2.2.2.2.2.2.2.2.2.2.2.2.2.2.2.2.2.2.2.2.2.2.2.2.2.2.2.2.2.2.2.2.1
def hu_items (s : hs) (v : Nat → Int32) : hs := (s.1, s.2.1, s.2.2.1, s.2.2.2.1, s.2.2.2.2.1, s.2.2.2.2.2.1, s.2.2.2.2.2.2.1, s.2.2.2.2.2.2.2.1, s.2.2.2.2.2.2.2.2.1, s.2.2.2.2.2.2.2.2.2.1, s.2.2.2.2.2.2.2.2.2.2.1, s.2.2.2.2.2.2.2.2.2.2.2.1, s.2.2.2.2.2.2.2.2.2.2.2.2.1, s.2.2.2.2.2.2.2.2.2.2.2.2.2.1, s.2.2.2.2.2.2.2.2.2.2.2.2.2.2.1, s.2.2.2.2.2.2.2.2.2.2.2.2.2.2.2.1, s.2.2.2.2.2.2.2.2.2.2.2.2.2.2.2.2.1, s.2.2.2.2.2.2.2.2.2.2.2.2.2.2.2.2.2.1, s.2.2.2.2.2.2.2.2.2.2.2.2.2.2.2.2.2.2.1, s.2.2.2.2.2.2.2.2.2.2.2.2.2.2.2.2.2.2.2.1, s.2.2.2.2.2.2.2.2.2.2.2.2.2.2.2.2.2.2.2.2.1, s.2.2.2.2.2.2.2.2.2.2.2.2.2.2.2.2.2.2.2.2.2.1, s.2.2.2.2.2.2.2.2.2.2.2.2.2.2.2.2.2.2.2.2.2.2.1, s.2.2.2.2.2.2.2.2.2.2.2.2.2.2.2.2.2.2.2.2.2.2.2.1, s.2.2.2.2.2.2.2.2.2.2.2.2.2.2.2.2.2.2.2.2.2.2.2.2.1, s.2.2.2.2.2.2.2.2.2.2.2.2.2.2.2.2.2.2.2.2.2.2.2.2.2.1, s.2.2.2.2.2.2.2.2.2.2.2.2.2.2.2.2.2.2.2.2.2.2.2.2.2.2.1, s.2.2.2.2.2.2.2.2.2.2.2.2.2.2.2.2.2.2.2.2.2.2.2.2.2.2.2.1, s.2.2.2.2.2.2.2.2.2.2.2.2.2.2.2.2.2.2.2.2.2.2.2.2.2.2.2.2.1, s.2.2.2.2.2.2.2.2.2.2.2.2.2.2.2.2.2.2.2.2.2.2.2.2.2.2.2.2.2.1, s.2.2.2.2.2.2.2.2.2.2.2.2.2.2.2.2.2.2.2.2.2.2.2.2.2.2.2.2.2.2.1, s.2.2.2.2.2.2.2.2.2.2.2.2.2.2.2.2.2.2.2.2.2.2.2.2.2.2.2.2.2.2.2.1, v, s.2.2.2.2.2.2.2.2.2.2.2.2.2.2.2.2.2.2.2.2.2.2.2.2.2.2.2.2.2.2.2.2.2)
def ha_items (s : hs) (i : Nat) (y : Int32) : hs := hu_items s (upd (hm_items s) i y)
def hm_alone (s : hs) : Nat → Int32 := s.2.2.2.2.2.2.2.2.2.2.2.2.2.2.2.2.2.2.2.2.2.2.2.2.2.2.2.2.2.2.2.2.2.1
def hu_alone (s : hs) (v : Nat → Int32) : hs := (s.1, s.2.1, s.2.2.1, s.2.2.2.1, s.2.2.2.2.1, s.2.2.2.2.2.1, s.2.2.2.2.2.2.1, s.2.2.2.2.2.2.2.1, s.2.2.2.2.2.2.2.2.1, s.2.2.2.2.2.2.2.2.2.1, s.2.2.2.2.2.2.2.2.2.2.1, s.2.2.2.2.2.2.2.2.2.2.2.1, s.2.2.2.2.2.2.2.2.2.2.2.2.1, s.2.2.2.2.2.2.2.2.2.2.2.2.2.1, s.2.2.2.2.2.2.2.2.2.2.2.2.2.2.1, s.2.2.2.2.2.2.2.2.2.2.2.2.2.2.2.1, s.2.2.2.2.2.2.2.2.2.2.2.2.2.2.2.2.1, s.2.2.2.2.2.2.2.2.2.2.2.2.2.2.2.2.2.1, s.2.2.2.2.2.2.2.2.2.2.2.2.2.2.2.2.2.2.1, s.2.2.2.2.2.2.2.2.2.2.2.2.2.2.2.2.2.2.2.1, s.2.2.2.2.2.2.2.2.2.2.2.2.2.2.2.2.2.2.2.2.1, s.2.2.2.2.2.2.2.2.2.2.2.2.2.2.2.2.2.2.2.2.2.1, s.2.2.2.2.2.2.2.2.2.2.2.2.2.2.2.2.2.2.2.2.2.2.1, s.2.2.2.2.2.2.2.2.2.2.2.2.2.2.2.2.2.2.2.2.2.2.2.1, s.2.2.2.2.2.2.2.2.2.2.2.2.2.2.2.2.2.2.2.2.2.2.2.2.1, s.2.2.2.2.2.2.2.2.2.2.2.2.2.2.2.2.2.2.2.2.2.2.2.2.2.1, s.2.2.2.2.2.2.2.2.2.2.2.2.2.2.2.2.2.2.2.2.2.2.2.2.2.2.1, s.2.2.2.2.2.2.2.2.2.2.2.2.2.2.2.2.2.2.2.2.2.2.2.2.2.2.2.1, s.2.2.2.2.2.2.2.2.2.2.2.2.2.2.2.2.2.2.2.2.2.2.2.2.2.2.2.2.1, s.2.2.2.2.2.2.2.2.2.2.2.2.2.2.2.2.2.2.2.2.2.2.2.2.2.2.2.2.2.1, s.2.2.2.2.2.2.2.2.2.2.2.2.2.2.2.2.2.2.2.2.2.2.2.2.2.2.2.2.2.2.1, s.2.2.2.2.2.2.2.2.2.2.2.2.2.2.2.2.2.2.2.2.2.2.2.2.2.2.2.2.2.2.2.1, s.2.2.2.2.2.2.2.2.2.2.2.2.2.2.2.2.2.2.2.2.2.2.2.2.2.2.2.2.2.2.2.2.1, v, s.2.2.2.2.2.2.2.2.2.2.2.2.2.2.2.2.2.2.2.2.2.2.2.2.2.2.2.2.2.2.2.2.2.2)
def ha_alone (s : hs) (i : Nat) (y : Int32) : hs := hu_alone s (upd (hm_alone s) i y)
def hm_loops (s : hs) : Nat → Int32 := s.2.2.2.2.2.2.2.2.2.2.2.2.2.2.2.2.2.2.2.2.2.2.2.2.2.2.2.2.2.2.2.2.2.2.1
def hu_loops (s : hs) (v : Nat → Int32) : hs := (s.1, s.2.1, s.2.2.1, s.2.2.2.1, s.2.2.2.2.1, s.2.2.2.2.2.1, s.2.2.2.2.2.2.1, s.2.2.2.2.2.2.2.1, s.2.2.2.2.2.2.2.2.1, s.2.2.2.2.2.2.2.2.2.1, s.2.2.2.2.2.2.2.2.2.2.1, s.2.2.2.2.2.2.2.2.2.2.2.1, s.2.2.2.2.2.2.2.2.2.2.2.2.1, s.2.2.2.2.2.2.2.2.2.2.2.2.2.1, s.2.2.2.2.2.2.2.2.2.2.2.2.2.2.1, s.2.2.2.2.2.2.2.2.2.2.2.2.2.2.2.1, s.2.2.2.2.2.2.2.2.2.2.2.2.2.2.2.2.1, s.2.2.2.2.2.2.2.2.2.2.2.2.2.2.2.2.2.1, s.2.2.2.2.2.2.2.2.2.2.2.2.2.2.2.2.2.2.1, s.2.2.2.2.2.2.2.2.2.2.2.2.2.2.2.2.2.2.2.1, s.2.2.2.2.2.2.2.2.2.2.2.2.2.2.2.2.2.2.2.2.1, s.2.2.2.2.2.2.2.2.2.2.2.2.2.2.2.2.2.2.2.2.2.1, s.2.2.2.2.2.2.2.2.2.2.2.2.2.2.2.2.2.2.2.2.2.2.1, s.2.2.2.2.2.2.2.2.2.2.2.2.2.2.2.2.2.2.2.2.2.2.2.1, s.2.2.2.2.2.2.2.2.2.2.2.2.2.2.2.2.2.2.2.2.2.2.2.2.1, s.2.2.2.2.2.2.2.2.2.2.2.2.2.2.2.2.2.2.2.2.2.2.2.2.2.1, s.2.2.2.2.2.2.2.2.2.2.2.2.2.2.2.2.2.2.2.2.2.2.2.2.2.2.1, s.2.2.2.2.2.2.2.2.2.2.2.2.2.2.2.2.2.2.2.2.2.2.2.2.2.2.2.1, s.2.2.2.2.2.2.2.2.2.2.2.2.2.2.2.2.2.2.2.2.2.2.2.2.2.2.2.2.1, s.2.2.2.2.2.2.2.2.2.2.2.2.2.2.2.2.2.2.2.2.2.2.2.2.2.2.2.2.2.1, s.2.2.2.2.2.2.2.2.2.2.2.2.2.2.2.2.2.2.2.2.2.2.2.2.2.2.2.2.2.2.1, s.2.2.2.2.2.2.2.2.2.2.2.2.2.2.2.2.2.2.2.2.2.2.2.2.2.2.2.2.2.2.2.1, s.2.2.2.2.2.2.2.2.2.2.2.2.2.2.2.2.2.2.2.2.2.2.2.2.2.2.2.2.2.2.2.2.1, s.2.2.2.2.2.2.2.2.2.2.2.2.2.2.2.2.2.2.2.2.2.2.2.2.2.2.2.2.2.2.2.2.2.1, v, s.2.2.2.2.2.2.2.2.2.2.2.2.2.2.2.2.2.2.2.2.2.2.2.2.2.2.2.2.2.2.2.2.2.2.2)
def ha_loops (s : hs) (i : Nat) (y : Int32) : hs := hu_loops s (upd (hm_loops s) i y)
def hm_saved (s : hs) : Nat → Int32 := s.2.2.2.2.2.2.2.2.2.2.2.2.2.2.2.2.2.2.2.2.2.2.2.2.2.2.2.2.2.2.2.2.2.2.2.1
def hu_saved (s : hs) (v : Nat → Int32) : hs := (s.1, s.2.1, s.2.2.1, s.2.2.2.1, s.2.2.2.2.1, s.2.2.2.2.2.1, s.2.2.2.2.2.2.1, s.2.2.2.2.2.2.2.1, s.2.2.2.2.2.2.2.2.1, s.2.2.2.2.2.2.2.2.2.1, s.2.2.2.2.2.2.2.2.2.2.1, s.2.2.2.2.2.2.2.2.2.2.2.1, s.2.2.2.2.2.2.2.2.2.2.2.2.1, s.2.2.2.2.2.2.2.2.2.2.2.2.2.1, s.2.2.2.2.2.2.2.2.2.2.2.2.2.2.1, s.2.2.2.2.2.2.2.2.2.2.2.2.2.2.2.1, s.2.2.2.2.2.2.2.2.2.2.2.2.2.2.2.2.1, s.2.2.2.2.2.2.2.2.2.2.2.2.2.2.2.2.2.1, s.2.2.2.2.2.2.2.2.2.2.2.2.2.2.2.2.2.2.1, s.2.2.2.2.2.2.2.2.2.2.2.2.2.2.2.2.2.2.2.1, s.2.2.2.2.2.2.2.2.2.2.2.2.2.2.2.2.2.2.2.2.1, s.2.2.2.2.2.2.2.2.2.2.2.2.2.2.2.2.2.2.2.2.2.1, s.2.2.2.2.2.2.2.2.2.2.2.2.2.2.2.2.2.2.2.2.2.2.1, s.2.2.2.2.2.2.2.2.2.2.2.2.2.2.2.2.2.2.2.2.2.2.2.1, s.2.2.2.2.2.2.2.2.2.2.2.2.2.2.2.2.2.2.2.2.2.2.2.2.1, s.2.2.2.2.2.2.2.2.2.2.2.2.2.2.2.2.2.2.2.2.2.2.2.2.2.1, s.2.2.2.2.2.2.2.2.2.2.2.2.2.2.2.2.2.2.2.2.2.2.2.2.2.2.1, s.2.2.2.2.2.2.2.2.2.2.2.2.2.2.2.2.2.2.2.2.2.2.2.2.2.2.2.1, s.2.2.2.2.2.2.2.2.2.2.2.2.2.2.2.2.2.2.2.2.2.2.2.2.2.2.2.2.1, s.2.2.2.2.2.2.2.2.2.2.2.2.2.2.2.2.2.2.2.2.2.2.2.2.2.2.2.2.2.1, s.2.2.2.2.2.2.2.2.2.2.2.2.2.2.2.2.2.2.2.2.2.2.2.2.2.2.2.2.2.2.1, s.2.2.2.2.2.2.2.2.2.2.2.2.2.2.2.2.2.2.2.2.2.2.2.2.2.2.2.2.2.2.2.1, s.2.2.2.2.2.2.2.2.2.2.2.2.2.2.2.2.2.2.2.2.2.2.2.2.2.2.2.2.2.2.2.2.1, s.2.2.2.2.2.2.2.2.2.2.2.2.2.2.2.2.2.2.2.2.2.2.2.2.2.2.2.2.2.2.2.2.2.1, s.2.2.2.2.2.2.2.2.2.2.2.2.2.2.2.2.2.2.2.2.2.2.2.2.2.2.2.2.2.2.2.2.2.2.1, v, s.2.2.2.2.2.2.2.2.2.2.2.2.2.2.2.2.2.2.2.2.2.2.2.2.2.2.2.2.2.2.2.2.2.2.2.2)
def ha_saved (s : hs) (i : Nat) (y : Int32) : hs := hu_saved s (upd (hm_saved s) i y)
def hm_out (s : hs) : Nat → Int32 := s.2.2.2.2.2.2.2.2.2.2.2.2.2.2.2.2.2.2.2.2.2.2.2.2.2.2.2.2.2.2.2.2.2.2.2.2
def hu_out (s : hs) (v : Nat → Int32) : hs := (s.1, s.2.1, s.2.2.1, s.2.2.2.1, s.2.2.2.2.1, s.2.2.2.2.2.1, s.2.2.2.2.2.2.1, s.2.2.2.2.2.2.2.1, s.2.2.2.2.2.2.2.2.1, s.2.2.2.2.2.2.2.2.2.1, s.2.2.2.2.2.2.2.2.2.2.1, s.2.2.2.2.2.2.2.2.2.2.2.1, s.2.2.2.2.2.2.2.2.2.2.2.2.1, s.2.2.2.2.2.2.2.2.2.2.2.2.2.1, s.2.2.2.2.2.2.2.2.2.2.2.2.2.2.1, s.2.2.2.2.2.2.2.2.2.2.2.2.2.2.2.1, s.2.2.2.2.2.2.2.2.2.2.2.2.2.2.2.2.1, s.2.2.2.2.2.2.2.2.2.2.2.2.2.2.2.2.2.1, s.2.2.2.2.2.2.2.2.2.2.2.2.2.2.2.2.2.2.1, s.2.2.2.2.2.2.2.2.2.2.2.2.2.2.2.2.2.2.2.1, s.2.2.2.2.2.2.2.2.2.2.2.2.2.2.2.2.2.2.2.2.1, s.2.2.2.2.2.2.2.2.2.2.2.2.2.2.2.2.2.2.2.2.2.1, s.2.2.2.2.2.2.2.2.2.2.2.2.2.2.2.2.2.2.2.2.2.2.1, s.2.2.2.2.2.2.2.2.2.2.2.2.2.2.2.2.2.2.2.2.2.2.2.1, s.2.2.2.2.2.2.2.2.2.2.2.2.2.2.2.2.2.2.2.2.2.2.2.2.1, s.2.2.2.2.2.2.2.2.2.2.2.2.2.2.2.2.2.2.2.2.2.2.2.2.2.1, s.2.2.2.2.2.2.2.2.2.2.2.2.2.2.2.2.2.2.2.2.2.2.2.2.2.2.1, s.2.2.2.2.2.2.2.2.2.2.2.2.2.2.2.2.2.2.2.2.2.2.2.2.2.2.2.1, s.2.2.2.2.2.2.2.2.2.2.2.2.2.2.2.2.2.2.2.2.2.2.2.2.2.2.2.2.1, s.2.2.2.2.2.2.2.2.2.2.2.2.2.2.2.2.2.2.2.2.2.2.2.2.2.2.2.2.2.1, s.2.2.2.2.2.2.2.2.2.2.2.2.2.2.2.2.2.2.2.2.2.2.2.2.2.2.2.2.2.2.1, s.2.2.2.2.2.2.2.2.2.2.2.2.2.2.2.2.2.2.2.2.2.2.2.2.2.2.2.2.2.2.2.1, s.2.2.2.2.2.2.2.2.2.2.2.2.2.2.2.2.2.2.2.2.2.2.2.2.2.2.2.2.2.2.2.2.1, s.2.2.2.2.2.2.2.2.2.2.2.2.2.2.2.2.2.2.2.2.2.2.2.2.2.2.2.2.2.2.2.2.2.1, s.2.2.2.2.2.2.2.2.2.2.2.2.2.2.2.2.2.2.2.2.2.2.2.2.2.2.2.2.2.2.2.2.2.2.1, s.2.2.2.2.2.2.2.2.2.2.2.2.2.2.2.2.2.2.2.2.2.2.2.2.2.2.2.2.2.2.2.2.2.2.2.1, v)
def ha_out (s : hs) (i : Nat) (y : Int32) : hs := hu_out s (upd (hm_out s) i y)
def hm_st (w : List am_C) (b : Nat) : hs := (am_gx w b 0, am_gx w b 1, am_gx w b 3, am_gx w b 5, am_gx w b 13, am_gx w b 14, am_gx w b 15, am_gx w b 17, am_gx w b 18, am_gx w b 19, am_gx w b 20, am_gx w b 21, am_gx w b 22, am_gx w b 31, am_gx w b 34, am_gx w b 36, am_ga w (b + 1), am_ga w (b + 2), am_ga w (b + 3), am_ga w (b + 4), am_ga w (b + 5), am_ga w (b + 6), am_ga w (b + 7), am_ga w (b + 8), am_ga w (b + 9), am_ga w (b + 10), am_ga w (b + 11), am_ga w (b + 12), am_ga w (b + 13), am_ga w (b + 14), am_ga w (b + 15), am_ga w (b + 16), am_ga w (b + 17), am_ga w (b + 18), am_ga w (b + 19), am_ga w (b + 20), am_ga w (b + 21))
def kl_R_0 (s : hs) : List am_V := [.inl (hm_thrown s), .inl (hm_typed s), .inr (.inl 1), .inl (hm_length s), .inr (.inl 2), .inl (hm_symbols s), .inr (.inl 3), .inr (.inl 4), .inr (.inl 5), .inr (.inl 6), .inr (.inl 7), .inr (.inl 8), .inr (.inl 9), .inl (hm_compiled s), .inl (hm_fault s), .inl (hm_holes s), .inr (.inl 10), .inl (hm_context s), .inl (hm_element s), .inl (hm_quote s), .inl (hm_kind s), .inl (hm_part s), .inl (hm_open s), .inr (.inl 11), .inr (.inl 12), .inr (.inl 13), .inr (.inl 14), .inr (.inl 15), .inr (.inl 16), .inr (.inl 17), .inr (.inl 18), .inl (hm_deep s), .inr (.inl 19), .inr (.inl 20), .inl (hm_size s), .inr (.inl 21), .inl (hm_full s)]
def hm_w (s : hs) : List am_C := [.inr (10, kl_R_0 s), .inl (1, 40, hm_row s), .inl (1, 240, hm_template s), .inl (0, 240, hm_sort s), .inl (1, 240, hm_sign s), .inl (0, 240, hm_place s), .inl (0, 240, hm_marked s), .inl (0, 240, hm_other s), .inl (0, 240, hm_closing s), .inl (0, 240, hm_opener s), .inl (0, 80, hm_contexts s), .inl (0, 6, hm_opened s), .inl (0, 6, hm_before s), .inl (0, 6, hm_ended s), .inl (2, 6, hm_divided s), .inl (0, 8, hm_counts s), .inl (0, 32, hm_lengths s), .inl (1, 1280, hm_items s), .inl (0, 8, hm_alone s), .inl (0, 6, hm_loops s), .inl (0, 6, hm_saved s), .inl (1, 1000, hm_out s)]
theorem kp_R_0_thrown (s : hs) (v : Int32) : (hm_w s).set 0 (.inr (10, (kl_R_0 s).set 0 (.inl v))) = (hm_w (hu_thrown s v)) := rfl
theorem kp_R_0_typed (s : hs) (v : Int32) : (hm_w s).set 0 (.inr (10, (kl_R_0 s).set 1 (.inl v))) = (hm_w (hu_typed s v)) := rfl
theorem kp_R_0_length (s : hs) (v : Int32) : (hm_w s).set 0 (.inr (10, (kl_R_0 s).set 3 (.inl v))) = (hm_w (hu_length s v)) := rfl
theorem kp_R_0_symbols (s : hs) (v : Int32) : (hm_w s).set 0 (.inr (10, (kl_R_0 s).set 5 (.inl v))) = (hm_w (hu_symbols s v)) := rfl
theorem kp_R_0_compiled (s : hs) (v : Int32) : (hm_w s).set 0 (.inr (10, (kl_R_0 s).set 13 (.inl v))) = (hm_w (hu_compiled s v)) := rfl
theorem kp_R_0_fault (s : hs) (v : Int32) : (hm_w s).set 0 (.inr (10, (kl_R_0 s).set 14 (.inl v))) = (hm_w (hu_fault s v)) := rfl
theorem kp_R_0_holes (s : hs) (v : Int32) : (hm_w s).set 0 (.inr (10, (kl_R_0 s).set 15 (.inl v))) = (hm_w (hu_holes s v)) := rfl
theorem kp_R_0_context (s : hs) (v : Int32) : (hm_w s).set 0 (.inr (10, (kl_R_0 s).set 17 (.inl v))) = (hm_w (hu_context s v)) := rfl
theorem kp_R_0_element (s : hs) (v : Int32) : (hm_w s).set 0 (.inr (10, (kl_R_0 s).set 18 (.inl v))) = (hm_w (hu_element s v)) := rfl
theorem kp_R_0_quote (s : hs) (v : Int32) : (hm_w s).set 0 (.inr (10, (kl_R_0 s).set 19 (.inl v))) = (hm_w (hu_quote s v)) := rfl
theorem kp_R_0_kind (s : hs) (v : Int32) : (hm_w s).set 0 (.inr (10, (kl_R_0 s).set 20 (.inl v))) = (hm_w (hu_kind s v)) := rfl
theorem kp_R_0_part (s : hs) (v : Int32) : (hm_w s).set 0 (.inr (10, (kl_R_0 s).set 21 (.inl v))) = (hm_w (hu_part s v)) := rfl
theorem kp_R_0_open (s : hs) (v : Int32) : (hm_w s).set 0 (.inr (10, (kl_R_0 s).set 22 (.inl v))) = (hm_w (hu_open s v)) := rfl
theorem kp_R_0_deep (s : hs) (v : Int32) : (hm_w s).set 0 (.inr (10, (kl_R_0 s).set 31 (.inl v))) = (hm_w (hu_deep s v)) := rfl
theorem kp_R_0_size (s : hs) (v : Int32) : (hm_w s).set 0 (.inr (10, (kl_R_0 s).set 34 (.inl v))) = (hm_w (hu_size s v)) := rfl
theorem kp_R_0_full (s : hs) (v : Int32) : (hm_w s).set 0 (.inr (10, (kl_R_0 s).set 36 (.inl v))) = (hm_w (hu_full s v)) := rfl
theorem kp_R_0_row (s : hs) (ix : Nat) (yv : Int32) : (hm_w s).set 1 (.inl (1, 40, upd (hm_row s) ix yv)) = (hm_w (ha_row s ix yv)) := rfl
theorem kp_R_0_template (s : hs) (ix : Nat) (yv : Int32) : (hm_w s).set 2 (.inl (1, 240, upd (hm_template s) ix yv)) = (hm_w (ha_template s ix yv)) := rfl
theorem kp_R_0_sort (s : hs) (ix : Nat) (yv : Int32) : (hm_w s).set 3 (.inl (0, 240, upd (hm_sort s) ix yv)) = (hm_w (ha_sort s ix yv)) := rfl
theorem kp_R_0_sign (s : hs) (ix : Nat) (yv : Int32) : (hm_w s).set 4 (.inl (1, 240, upd (hm_sign s) ix yv)) = (hm_w (ha_sign s ix yv)) := rfl
theorem kp_R_0_place (s : hs) (ix : Nat) (yv : Int32) : (hm_w s).set 5 (.inl (0, 240, upd (hm_place s) ix yv)) = (hm_w (ha_place s ix yv)) := rfl
theorem kp_R_0_marked (s : hs) (ix : Nat) (yv : Int32) : (hm_w s).set 6 (.inl (0, 240, upd (hm_marked s) ix yv)) = (hm_w (ha_marked s ix yv)) := rfl
theorem kp_R_0_other (s : hs) (ix : Nat) (yv : Int32) : (hm_w s).set 7 (.inl (0, 240, upd (hm_other s) ix yv)) = (hm_w (ha_other s ix yv)) := rfl
theorem kp_R_0_closing (s : hs) (ix : Nat) (yv : Int32) : (hm_w s).set 8 (.inl (0, 240, upd (hm_closing s) ix yv)) = (hm_w (ha_closing s ix yv)) := rfl
theorem kp_R_0_opener (s : hs) (ix : Nat) (yv : Int32) : (hm_w s).set 9 (.inl (0, 240, upd (hm_opener s) ix yv)) = (hm_w (ha_opener s ix yv)) := rfl
theorem kp_R_0_contexts (s : hs) (ix : Nat) (yv : Int32) : (hm_w s).set 10 (.inl (0, 80, upd (hm_contexts s) ix yv)) = (hm_w (ha_contexts s ix yv)) := rfl
theorem kp_R_0_opened (s : hs) (ix : Nat) (yv : Int32) : (hm_w s).set 11 (.inl (0, 6, upd (hm_opened s) ix yv)) = (hm_w (ha_opened s ix yv)) := rfl
theorem kp_R_0_before (s : hs) (ix : Nat) (yv : Int32) : (hm_w s).set 12 (.inl (0, 6, upd (hm_before s) ix yv)) = (hm_w (ha_before s ix yv)) := rfl
theorem kp_R_0_ended (s : hs) (ix : Nat) (yv : Int32) : (hm_w s).set 13 (.inl (0, 6, upd (hm_ended s) ix yv)) = (hm_w (ha_ended s ix yv)) := rfl
theorem kp_R_0_divided (s : hs) (ix : Nat) (yv : Int32) : (hm_w s).set 14 (.inl (2, 6, upd (hm_divided s) ix yv)) = (hm_w (ha_divided s ix yv)) := rfl
theorem kp_R_0_counts (s : hs) (ix : Nat) (yv : Int32) : (hm_w s).set 15 (.inl (0, 8, upd (hm_counts s) ix yv)) = (hm_w (ha_counts s ix yv)) := rfl
theorem kp_R_0_lengths (s : hs) (ix : Nat) (yv : Int32) : (hm_w s).set 16 (.inl (0, 32, upd (hm_lengths s) ix yv)) = (hm_w (ha_lengths s ix yv)) := rfl
theorem kp_R_0_items (s : hs) (ix : Nat) (yv : Int32) : (hm_w s).set 17 (.inl (1, 1280, upd (hm_items s) ix yv)) = (hm_w (ha_items s ix yv)) := rfl
theorem kp_R_0_alone (s : hs) (ix : Nat) (yv : Int32) : (hm_w s).set 18 (.inl (0, 8, upd (hm_alone s) ix yv)) = (hm_w (ha_alone s ix yv)) := rfl
theorem kp_R_0_loops (s : hs) (ix : Nat) (yv : Int32) : (hm_w s).set 19 (.inl (0, 6, upd (hm_loops s) ix yv)) = (hm_w (ha_loops s ix yv)) := rfl
theorem kp_R_0_saved (s : hs) (ix : Nat) (yv : Int32) : (hm_w s).set 20 (.inl (0, 6, upd (hm_saved s) ix yv)) = (hm_w (ha_saved s ix yv)) := rfl
theorem kp_R_0_out (s : hs) (ix : Nat) (yv : Int32) : (hm_w s).set 21 (.inl (1, 1000, upd (hm_out s) ix yv)) = (hm_w (ha_out s ix yv)) := rfl
end
section
/-! what all contracts share: array types, nest mates, the bundle of premises on E; rows that make tables' facts -/
def hg_tys (ca : Nat → ClassId) : List (ClassId × FieldType) := [(ca 0, .int), (ca 1, .char), (ca 2, .boolean), (ca 3, .byte), (ca 4, .long)]
theorem hg_tys_ok (ca : Nat → ClassId) : ∀ t, t < 5 → (hg_tys ca)[t]? = some (ca t, am_ty t) := by
  intro t ht
  match t, ht with
  | 0, _ => rfl
  | 1, _ => rfl
  | 2, _ => rfl
  | 3, _ => rfl
  | 4, _ => rfl
/-- a method's contract in this claim -/
def hg_Met (l : Launch) (E : (Nat → Prop) → State → Prop) (D : va_G) (ou : Nat → Nat) (ca : Nat → ClassId) (y : MethodName) (cc : ByteArray) (nL : Nat) (ret : Option FieldType) (h : Nat) (pre : List am_V → List am_C → Prop) (f : am_M) : Prop :=
  am_Met l E D hn_cl (hg_tys ca) ou ca y (Cond.code y cc nL ret :: gw_all) h (40 * h) pre f
theorem hg_good {x : Cond} {y : MethodName} {cc : ByteArray} {nL : Nat} {ret : Option FieldType} (h : Cond.code y cc nL ret ∈ gw_all) : GoodIn (x :: gw_all) (Cond.code y cc nL ret :: gw_all) := by
  intro w hw
  rcases List.mem_cons.mp hw with e | e
  · rw [e]
    exact ⟨List.mem_cons_of_mem _ h, good_of_word (gw_good _ h)⟩
  · exact ⟨List.mem_cons_of_mem _ e, good_of_word (gw_good _ e)⟩
theorem hg_fk {s : State} {args : Array Value} {meth : Method} {own : String} {x : Cond} {index ci fi mode : Nat} {C : String} {F : u_T} {N : Nat} {ty0 : Nat → FieldType} (hts : ∀ w ∈ x :: gw_all, w.before args s = true) (hc : hn_cl[ci]? = some (C, F, N)) (hfi : fi < N) (hin : ∀ w ∈ u_ws C F N, w ∈ gw_all) (hty : ∀ k, k < N → parseFieldDescriptor (F k).2.2.1 = some (ty0 k)) (hnm : ∀ a, a < N → ∀ b, b < N → a ≠ b → (F a).2.1 ≠ (F b).2.1) (he : ty0 fi = hn_ty ci fi) (hm : mode = 0 ∨ mode = 3) (i : Nat)
    (hw : (lw_tbl[i]? == some (Cond.fieldLink own index (F fi).1 (F fi).2.1 (F fi).2.2.1) && goodWord (Cond.fieldLink own index (F fi).1 (F fi).2.1 (F fi).2.2.1)) = true) (hf : mode = 0 → (F fi).2.2.2 = false) : am_FK s args meth own (x :: gw_all) hn_cl hn_ty index ci fi mode :=
  ⟨C, F, N, ty0, hc, hfi, fun w h => List.mem_cons_of_mem _ (hin w h), hty, hnm, he, fun _ => hts _ (List.mem_cons_of_mem _ (gw_mem i hw)), fun h => by omega, fun h => hf (by omega), fun h => by omega⟩
theorem am_no {α : Type} {y : α} (h : (none : Option α) = some y) : False := by cases h
theorem am_ev_s (T : am_T) (cuts : List Nat) (n : Nat) (st : am_S) : am_ev T cuts (n + 1) st = am_go T cuts 400 st (am_ev T cuts n) := rfl
theorem am_wl_ok {w1 : List am_C} {n : Nat} {x : Option am_V} {b : Bool} (hl : am_wl w1 n = true) (hr : am_loO n x = true) : (Nat.ble n w1.length && ((w1.length == n && (w1.all (am_loC n) && am_loO n x)) || b)) = true := by
  simp only [am_wl, Bool.and_eq_true] at hl
  have h1 : w1.length = n := by simpa using hl.1
  rw [hl.1, hl.2, hr, h1]
  simp
/-- a call with a selection of places -/
theorem am_cy {T : am_T} {len pc : Nat} {L : List (Option am_V)} {w w' wc : List am_C} {k j : Nat} {kt : am_S → Option am_Z} {a a' rest : List am_V} {sel : List Nat} {pre : List am_V → List am_C → Prop} {d1 : Decidable (am_sow w sel = true)} {d2 : Decidable (pre (a.map (am_dn sel)) (am_sub w sel))} {f : am_M} {z : Option am_Z} {r : Option am_V × List am_C × Nat × Nat} (hs : am_sow w sel = true) (hi : a.all (am_hin sel) = true) (ha : a.map (am_dn sel) = a') (hw : am_sub w sel = wc) (h : pre a' wc) (e : f a' wc = r) (hl : am_wl r.2.1 sel.length = true) (hr : am_loO sel.length r.1 = true) (hm : am_mix w sel r.2.1 = w')
    (q : (bif Nat.ble (k + r.2.2.1) (am_mc T) && (Nat.ble (j + r.2.2.2) (am_ms T) && Nat.ble rest.length 8) then am_nx len pc kt 3 L (am_ans sel w.length r.1 ++ rest) w' (k + r.2.2.1) (j + r.2.2.2) else none) = z) : @ite _ (am_sow w sel = true) d1 (bif a.all (am_hin sel) then @ite _ (pre (a.map (am_dn sel)) (am_sub w sel)) d2 (am_aft T len pc L w k j kt rest sel (f (a.map (am_dn sel)) (am_sub w sel))) none else none) none = z := by
  subst e ha hw hm
  rw [if_pos hs, hi]
  refine am_ci h ?_
  refine am_ci (am_wl_ok hl hr) ?_
  rw [am_sx, if_pos rfl]
  exact q
theorem am_cx {T : am_T} {len pc : Nat} {L : List (Option am_V)} {w : List am_C} {k j : Nat} {kt : am_S → Option am_Z} {a rest : List am_V} {pre : List am_V → List am_C → Prop} {d : Decidable (pre a w)} {f : am_M} {z : Option am_Z} {r : Option am_V × List am_C × Nat × Nat} (h : pre a w) (e : f a w = r) (hL : L.all (am_loO w.length) = true) (q : am_afx T len pc L w k j kt rest r = z) : @ite _ (pre a w) d (am_afw T len pc L w k j kt rest (f a w)) none = z := by
  subst e
  exact am_ci h (am_ci hL q)
theorem am_ac {n : Nat} {a : Option am_V} {r : List (Option am_V)} (h : am_loO n a = true) (k : r.all (am_loO n) = true) : (a :: r).all (am_loO n) = true := by
  rw [List.all_cons, h, k]
  rfl
theorem am_a0 {n : Nat} : ([] : List (Option am_V)).all (am_loO n) = true := rfl
/-- how often a loop may go round: a number that evaluation does not see -/
noncomputable def hg_fu : Nat := Classical.choose (⟨_, rfl⟩ : ∃ n : Nat, n = 1000)
theorem hg_fu_eq : hg_fu = 1000 := Classical.choose_spec (⟨_, rfl⟩ : ∃ n : Nat, n = 1000)
noncomputable def hg_fw : Nat := Classical.choose (⟨_, rfl⟩ : ∃ n : Nat, n = 1000000)
theorem hg_fw_eq : hg_fw = 1000000 := Classical.choose_spec (⟨_, rfl⟩ : ∃ n : Nat, n = 1000000)
theorem am_mix0 (w : List am_C) : am_mix w [] [] = w := rfl
theorem am_sow0 (w : List am_C) : am_sow w [] = true := rfl
theorem am_sub0 (w : List am_C) : am_sub w [] = [] := rfl
end
section
theorem hg_arr : ∀ t, t < 5 → Cond.arrayClass (am_ty t) ∈ gw_all := by
  intro t ht
  match t, ht with
  | 0, _ => exact gw_mem 143 (by decide +kernel)
  | 1, _ => exact gw_mem 123 (by decide +kernel)
  | 2, _ => exact gw_mem 1084 (by decide +kernel)
  | 3, _ => exact gw_mem 567 (by decide +kernel)
  | 4, _ => exact gw_mem 1375 (by decide +kernel)
def hy10_init : MethodName := ⟨hn_R10, "<init>", "()V"⟩
def hy10_thrown : MethodName := ⟨hn_R10, "thrown", "()I"⟩
def hy10_type : MethodName := ⟨hn_R10, "type", "(C)Z"⟩
def hy10_wipe : MethodName := ⟨hn_R10, "wipe", "()I"⟩
def hy10_add : MethodName := ⟨hn_R10, "add", "()I"⟩
def hy10_clear : MethodName := ⟨hn_R10, "clear", "()I"⟩
def hy10_at : MethodName := ⟨hn_R10, "at", "(I)C"⟩
def hy10_isVariable : MethodName := ⟨hn_R10, "isVariable", "(C)Z"⟩
def hy10_push : MethodName := ⟨hn_R10, "push", "(ICII)I"⟩
def hy10_pushOpening : MethodName := ⟨hn_R10, "pushOpening", "(I)I"⟩
def hy10_findSymbols : MethodName := ⟨hn_R10, "findSymbols", "()V"⟩
def hy10_ch : MethodName := ⟨hn_R10, "ch", "(I)C"⟩
def hy10_isLetter : MethodName := ⟨hn_R10, "isLetter", "(C)Z"⟩
def hy10_isWord : MethodName := ⟨hn_R10, "isWord", "(C)Z"⟩
def hy10_isBlank : MethodName := ⟨hn_R10, "isBlank", "(C)Z"⟩
def hy10_lettersFrom : MethodName := ⟨hn_R10, "lettersFrom", "(I)I"⟩
def hy10_blanksFrom : MethodName := ⟨hn_R10, "blanksFrom", "(I)I"⟩
def hy10_spells : MethodName := ⟨hn_R10, "spells", "(IIICCCCCC)Z"⟩
def hy10_isScript : MethodName := ⟨hn_R10, "isScript", "(II)Z"⟩
def hy10_isStyle : MethodName := ⟨hn_R10, "isStyle", "(II)Z"⟩
def hy10_isTitle : MethodName := ⟨hn_R10, "isTitle", "(II)Z"⟩
def hy10_go : MethodName := ⟨hn_R10, "go", "(I)V"⟩
def hy10_isAmpersand : MethodName := ⟨hn_R10, "isAmpersand", "(I)Z"⟩
def hy10_begins : MethodName := ⟨hn_R10, "begins", "(IC)Z"⟩
def hy10_textPiece : MethodName := ⟨hn_R10, "textPiece", "(I)I"⟩
def hy10_kindOf : MethodName := ⟨hn_R10, "kindOf", "(II)I"⟩
def hy10_attribute : MethodName := ⟨hn_R10, "attribute", "(I)I"⟩
def hy10_tagPiece : MethodName := ⟨hn_R10, "tagPiece", "(I)I"⟩
def hy10_urlPiece : MethodName := ⟨hn_R10, "urlPiece", "(I)I"⟩
def hy10_valuePiece : MethodName := ⟨hn_R10, "valuePiece", "(I)I"⟩
def hy10_openPiece : MethodName := ⟨hn_R10, "openPiece", "(IZ)I"⟩
def hy10_stringPiece : MethodName := ⟨hn_R10, "stringPiece", "(I)I"⟩
def hy10_codePiece : MethodName := ⟨hn_R10, "codePiece", "(IZ)I"⟩
def hy10_insidePiece : MethodName := ⟨hn_R10, "insidePiece", "(IZ)I"⟩
def hy10_titlePiece : MethodName := ⟨hn_R10, "titlePiece", "(I)I"⟩
def hy10_commentPiece : MethodName := ⟨hn_R10, "commentPiece", "(I)I"⟩
def hy10_piece : MethodName := ⟨hn_R10, "piece", "(I)I"⟩
def hy10_state : MethodName := ⟨hn_R10, "state", "()I"⟩
def hy10_restore : MethodName := ⟨hn_R10, "restore", "(I)V"⟩
def hy10_holeContext : MethodName := ⟨hn_R10, "holeContext", "()I"⟩
def hy10_readHole : MethodName := ⟨hn_R10, "readHole", "(I)Z"⟩
def hy10_readOpening : MethodName := ⟨hn_R10, "readOpening", "(I)Z"⟩
def hy10_readOtherwise : MethodName := ⟨hn_R10, "readOtherwise", "(I)Z"⟩
def hy10_readClose : MethodName := ⟨hn_R10, "readClose", "(I)Z"⟩
def hy10_readSymbol : MethodName := ⟨hn_R10, "readSymbol", "(I)Z"⟩
def hy10_build : MethodName := ⟨hn_R10, "build", "()Z"⟩
def hy10_compile : MethodName := ⟨hn_R10, "compile", "()I"⟩
def hy10_accepts : MethodName := ⟨hn_R10, "accepts", "()Z"⟩
def hy10_fault : MethodName := ⟨hn_R10, "fault", "()I"⟩
def hy10_hole : MethodName := ⟨hn_R10, "hole", "(I)I"⟩
def hy10_item : MethodName := ⟨hn_R10, "item", "(I)I"⟩
def hy10_forget : MethodName := ⟨hn_R10, "forget", "(I)I"⟩
def hy10_firstItem : MethodName := ⟨hn_R10, "firstItem", "(I)I"⟩
def hy10_put : MethodName := ⟨hn_R10, "put", "(C)V"⟩
def hy10_hex : MethodName := ⟨hn_R10, "hex", "(I)C"⟩
def hy10_putHex : MethodName := ⟨hn_R10, "putHex", "(C)V"⟩
def hy10_put5 : MethodName := ⟨hn_R10, "put5", "(CCCCC)V"⟩
def hy10_putPlain : MethodName := ⟨hn_R10, "putPlain", "(C)V"⟩
def hy10_staysInUrl : MethodName := ⟨hn_R10, "staysInUrl", "(C)Z"⟩
def hy10_putUrl : MethodName := ⟨hn_R10, "putUrl", "(CI)V"⟩
def hy10_small : MethodName := ⟨hn_R10, "small", "(C)C"⟩
def hy10_isSafe : MethodName := ⟨hn_R10, "isSafe", "(II)Z"⟩
def hy10_isOff : MethodName := ⟨hn_R10, "isOff", "(I)Z"⟩
def hy10_staysInCode : MethodName := ⟨hn_R10, "staysInCode", "(C)Z"⟩
def hy10_putCode : MethodName := ⟨hn_R10, "putCode", "(CZ)V"⟩
def hy10_isRule : MethodName := ⟨hn_R10, "isRule", "(I)Z"⟩
def hy10_putQuote : MethodName := ⟨hn_R10, "putQuote", "(I)V"⟩
def hy10_putItem : MethodName := ⟨hn_R10, "putItem", "(II)V"⟩
def hy10_variable : MethodName := ⟨hn_R10, "variable", "(I)I"⟩
def hy10_choose : MethodName := ⟨hn_R10, "choose", "(I)I"⟩
def hy10_beginLoop : MethodName := ⟨hn_R10, "beginLoop", "(I)I"⟩
def hy10_close : MethodName := ⟨hn_R10, "close", "(I)I"⟩
def hy10_write : MethodName := ⟨hn_R10, "write", "()I"⟩
def hy10_written : MethodName := ⟨hn_R10, "written", "()I"⟩
def hy10_letter : MethodName := ⟨hn_R10, "letter", "(I)C"⟩
theorem kf10_ok {s : State} {args : Array Value} {meth : Method} {x : Cond} (hts : ∀ w ∈ x :: gw_all, w.before args s = true) : ∀ q ∈ kf10, am_FK s args meth hn_R10 (x :: gw_all) hn_cl hn_ty q.1 q.2.1 q.2.2.1 q.2.2.2 :=
  am_allc (hg_fk hts rfl (by decide) hn_in10 hn_ok10 hn_nm10 rfl (by decide) 974 (by decide +kernel) (by decide)) (am_allc (hg_fk hts rfl (by decide) hn_in10 hn_ok10 hn_nm10 rfl (by decide) 976 (by decide +kernel) (by decide)) (am_allc (hg_fk hts rfl (by decide) hn_in10 hn_ok10 hn_nm10 rfl (by decide) 978 (by decide +kernel) (by decide)) (am_allc (hg_fk hts rfl (by decide) hn_in10 hn_ok10 hn_nm10 rfl (by decide) 979 (by decide +kernel) (by decide)) (am_allc (hg_fk hts rfl (by decide) hn_in10 hn_ok10 hn_nm10 rfl (by decide) 980 (by decide +kernel) (by decide)) (am_allc (hg_fk hts rfl (by decide) hn_in10 hn_ok10 hn_nm10 rfl (by decide) 981 (by decide +kernel) (by decide)) (am_allc (hg_fk hts rfl (by decide) hn_in10 hn_ok10 hn_nm10 rfl (by decide) 982 (by decide +kernel) (by decide)) (am_allc (hg_fk hts rfl (by decide) hn_in10 hn_ok10 hn_nm10 rfl (by decide) 983 (by decide +kernel) (by decide)) (am_allc (hg_fk hts rfl (by decide) hn_in10 hn_ok10 hn_nm10 rfl (by decide) 984 (by decide +kernel) (by decide)) (am_allc (hg_fk hts rfl (by decide) hn_in10 hn_ok10 hn_nm10 rfl (by decide) 986 (by decide +kernel) (by decide)) (am_allc (hg_fk hts rfl (by decide) hn_in10 hn_ok10 hn_nm10 rfl (by decide) 988 (by decide +kernel) (by decide)) (am_allc (hg_fk hts rfl (by decide) hn_in10 hn_ok10 hn_nm10 rfl (by decide) 995 (by decide +kernel) (by decide)) (am_allc (hg_fk hts rfl (by decide) hn_in10 hn_ok10 hn_nm10 rfl (by decide) 996 (by decide +kernel) (by decide)) (am_allc (hg_fk hts rfl (by decide) hn_in10 hn_ok10 hn_nm10 rfl (by decide) 997 (by decide +kernel) (by decide)) (am_allc (hg_fk hts rfl (by decide) hn_in10 hn_ok10 hn_nm10 rfl (by decide) 998 (by decide +kernel) (by decide)) (am_allc (hg_fk hts rfl (by decide) hn_in10 hn_ok10 hn_nm10 rfl (by decide) 999 (by decide +kernel) (by decide)) (am_allc (hg_fk hts rfl (by decide) hn_in10 hn_ok10 hn_nm10 rfl (by decide) 1000 (by decide +kernel) (by decide)) (am_allc (hg_fk hts rfl (by decide) hn_in10 hn_ok10 hn_nm10 rfl (by decide) 1001 (by decide +kernel) (by decide)) (am_allc (hg_fk hts rfl (by decide) hn_in10 hn_ok10 hn_nm10 rfl (by decide) 1002 (by decide +kernel) (by decide)) (am_allc (hg_fk hts rfl (by decide) hn_in10 hn_ok10 hn_nm10 rfl (by decide) 1004 (by decide +kernel) (by decide)) (am_allc (hg_fk hts rfl (by decide) hn_in10 hn_ok10 hn_nm10 rfl (by decide) 1005 (by decide +kernel) (by decide)) (am_allc (hg_fk hts rfl (by decide) hn_in10 hn_ok10 hn_nm10 rfl (by decide) 1007 (by decide +kernel) (by decide)) (am_allc (hg_fk hts rfl (by decide) hn_in10 hn_ok10 hn_nm10 rfl (by decide) 972 (by decide +kernel) (by decide)) (am_allc (hg_fk hts rfl (by decide) hn_in10 hn_ok10 hn_nm10 rfl (by decide) 973 (by decide +kernel) (by decide)) (am_allc (hg_fk hts rfl (by decide) hn_in10 hn_ok10 hn_nm10 rfl (by decide) 975 (by decide +kernel) (by decide)) (am_allc (hg_fk hts rfl (by decide) hn_in10 hn_ok10 hn_nm10 rfl (by decide) 985 (by decide +kernel) (by decide)) (am_allc (hg_fk hts rfl (by decide) hn_in10 hn_ok10 hn_nm10 rfl (by decide) 977 (by decide +kernel) (by decide)) (am_allc (hg_fk hts rfl (by decide) hn_in10 hn_ok10 hn_nm10 rfl (by decide) 989 (by decide +kernel) (by decide)) (am_allc (hg_fk hts rfl (by decide) hn_in10 hn_ok10 hn_nm10 rfl (by decide) 990 (by decide +kernel) (by decide)) (am_allc (hg_fk hts rfl (by decide) hn_in10 hn_ok10 hn_nm10 rfl (by decide) 991 (by decide +kernel) (by decide)) (am_allc (hg_fk hts rfl (by decide) hn_in10 hn_ok10 hn_nm10 rfl (by decide) 992 (by decide +kernel) (by decide)) (am_allc (hg_fk hts rfl (by decide) hn_in10 hn_ok10 hn_nm10 rfl (by decide) 993 (by decide +kernel) (by decide)) (am_allc (hg_fk hts rfl (by decide) hn_in10 hn_ok10 hn_nm10 rfl (by decide) 987 (by decide +kernel) (by decide)) (am_allc (hg_fk hts rfl (by decide) hn_in10 hn_ok10 hn_nm10 rfl (by decide) 994 (by decide +kernel) (by decide)) (am_allc (hg_fk hts rfl (by decide) hn_in10 hn_ok10 hn_nm10 rfl (by decide) 1008 (by decide +kernel) (by decide)) (am_allc (hg_fk hts rfl (by decide) hn_in10 hn_ok10 hn_nm10 rfl (by decide) 1006 (by decide +kernel) (by decide)) (am_allc (hg_fk hts rfl (by decide) hn_in10 hn_ok10 hn_nm10 rfl (by decide) 1003 (by decide +kernel) (by decide)) (am_all0)))))))))))))))))))))))))))))))))))))
end
section
/-! what the class rests on: nest mates, String constants, statics of the JDK -/
def hg_nws : List Cond := [.fieldLinkNest "HoleTemplates$Symbols" (38 : Nat) "HoleTemplates$Text" "length" "I" "HoleTemplates", .fieldLinkNest "HoleTemplates" (55 : Nat) "HoleTemplates$Text" "length" "I" "HoleTemplates", .fieldLinkNest "HoleTemplates$Items" (29 : Nat) "HoleTemplates$Text" "length" "I" "HoleTemplates", .fieldLinkNest "HoleTemplates$Writer" (34 : Nat) "HoleTemplates$Text" "spilled" "Z" "HoleTemplates", .fieldLinkNest "HoleTemplates$Writer" (24 : Nat) "HoleTemplates$Symbols" "count" "I" "HoleTemplates", .fieldLinkNest "HoleTemplates$Compilation" (56 : Nat) "HoleTemplates$Symbols" "count" "I" "HoleTemplates", .fieldLinkNest "HoleTemplates$Pieces" (85 : Nat) "HoleTemplates$Symbols" "count" "I" "HoleTemplates", .methodLinkNest "HoleTemplates$Compilation" (20 : Nat) ({ cls := "HoleTemplates$Context", name := "<init>", desc := "()V" } : Jvm.MethodName) "HoleTemplates", .fieldLinkNest "HoleTemplates$Pieces" (9 : Nat) "HoleTemplates$Context" "name" "I" "HoleTemplates", .fieldLinkNest "HoleTemplates$Compilation" (78 : Nat) "HoleTemplates$Context" "name" "I" "HoleTemplates", .fieldLinkNest "HoleTemplates$Pieces" (94 : Nat) "HoleTemplates$Context" "element" "I" "HoleTemplates", .fieldLinkNest "HoleTemplates$Pieces" (127 : Nat) "HoleTemplates$Context" "quote" "C" "HoleTemplates", .fieldLinkNest "HoleTemplates$Pieces" (134 : Nat) "HoleTemplates$Context" "kind" "I" "HoleTemplates", .fieldLinkNest "HoleTemplates$Compilation" (109 : Nat) "HoleTemplates$Context" "part" "I" "HoleTemplates", .fieldLinkNest "HoleTemplates$Pieces" (131 : Nat) "HoleTemplates$Context" "part" "I" "HoleTemplates", .fieldLinkNest "HoleTemplates" (119 : Nat) "HoleTemplates$Compilation" "symbols" "LHoleTemplates$Symbols;" "HoleTemplates", .fieldLinkNest "HoleTemplates" (83 : Nat) "HoleTemplates$Compilation" "holeCount" "I" "HoleTemplates", .fieldLinkNest "HoleTemplates" (86 : Nat) "HoleTemplates$Compilation" "faultPlace" "I" "HoleTemplates", .fieldLinkNest "HoleTemplates" (70 : Nat) "HoleTemplates$Compilation" "compiled" "Z" "HoleTemplates", .fieldLinkNest "HoleTemplates" (129 : Nat) "HoleTemplates$Writer" "out" "LHoleTemplates$Text;" "HoleTemplates"]
def hg_Nw (s : State) : Prop := ∀ w ∈ hg_nws, va_Nw w s
def hg_srs : List (String × Nat × String) := [("HoleTemplates$Pieces", 46, "<!--"), ("HoleTemplates$Pieces", 79, "script"), ("HoleTemplates$Pieces", 81, "style"), ("HoleTemplates$Pieces", 83, "title"), ("HoleTemplates$Pieces", 119, "href"), ("HoleTemplates$Pieces", 121, "src"), ("HoleTemplates$Pieces", 123, "action"), ("HoleTemplates$Pieces", 125, "on"), ("HoleTemplates$Pieces", 159, "</style>"), ("HoleTemplates$Pieces", 161, "</script>"), ("HoleTemplates$Pieces", 169, "</title>"), ("HoleTemplates$Pieces", 171, "-->"), ("HoleTemplates", 61, "the template would be too long"), ("HoleTemplates", 80, "the template is refused"), ("HoleTemplates", 99, "no such variable"), ("HoleTemplates", 106, "the variable has all its items"), ("HoleTemplates", 116, "the template is not compiled"), ("HoleTemplates$Values", 51, "&amp;"), ("HoleTemplates$Values", 53, "&lt;"), ("HoleTemplates$Values", 55, "&gt;"), ("HoleTemplates$Values", 57, "&#34;"), ("HoleTemplates$Values", 59, "&#39;"), ("HoleTemplates$Values", 83, ":/?#"), ("HoleTemplates$Values", 85, "http"), ("HoleTemplates$Values", 91, "https"), ("HoleTemplates$Values", 93, "mailto"), ("HoleTemplates$Values", 19, "#off"), ("HoleTemplates$Values", 70, "-._~"), ("HoleTemplates$Values", 77, "/:@!$*+,;=?#"), ("HoleTemplates$Signs", 11, "0123456789ABCDEF"), ("HoleTemplates$Values", 97, ""), ("HoleTemplates$Values", 99, "\""), ("HoleTemplates$Values", 95, " .,-_"), ("HoleTemplates$Values", 104, "\\x"), ("HoleTemplates$Values", 111, "-.%#"), ("HoleTemplates$Values", 109, "none"), ("HoleTemplates", 127, "the writing would be too long")]
def hg_bs : List (List Int32) := [[60, 33, 45, 45], [115, 99, 114, 105, 112, 116], [115, 116, 121, 108, 101], [116, 105, 116, 108, 101], [104, 114, 101, 102], [115, 114, 99], [97, 99, 116, 105, 111, 110], [111, 110], [60, 47, 115, 116, 121, 108, 101, 62], [60, 47, 115, 99, 114, 105, 112, 116, 62], [60, 47, 116, 105, 116, 108, 101, 62], [45, 45, 62], [116, 104, 101, 32, 116, 101, 109, 112, 108, 97, 116, 101, 32, 119, 111, 117, 108, 100, 32, 98, 101, 32, 116, 111, 111, 32, 108, 111, 110, 103], [116, 104, 101, 32, 116, 101, 109, 112, 108, 97, 116, 101, 32, 105, 115, 32, 114, 101, 102, 117, 115, 101, 100], [110, 111, 32, 115, 117, 99, 104, 32, 118, 97, 114, 105, 97, 98, 108, 101], [116, 104, 101, 32, 118, 97, 114, 105, 97, 98, 108, 101, 32, 104, 97, 115, 32, 97, 108, 108, 32, 105, 116, 115, 32, 105, 116, 101, 109, 115], [116, 104, 101, 32, 116, 101, 109, 112, 108, 97, 116, 101, 32, 105, 115, 32, 110, 111, 116, 32, 99, 111, 109, 112, 105, 108, 101, 100], [38, 97, 109, 112, 59], [38, 108, 116, 59], [38, 103, 116, 59], [38, 35, 51, 52, 59], [38, 35, 51, 57, 59], [58, 47, 63, 35], [104, 116, 116, 112], [104, 116, 116, 112, 115], [109, 97, 105, 108, 116, 111], [35, 111, 102, 102], [45, 46, 95, 126], [47, 58, 64, 33, 36, 42, 43, 44, 59, 61, 63, 35], [48, 49, 50, 51, 52, 53, 54, 55, 56, 57, 65, 66, 67, 68, 69, 70], [], [34], [32, 46, 44, 45, 95], [92, 120], [45, 46, 37, 35], [110, 111, 110, 101], [116, 104, 101, 32, 119, 114, 105, 116, 105, 110, 103, 32, 119, 111, 117, 108, 100, 32, 98, 101, 32, 116, 111, 111, 32, 108, 111, 110, 103]]
def hg_ln : List Nat := [4, 6, 5, 5, 4, 3, 6, 2, 8, 9, 8, 3, 30, 23, 16, 30, 28, 5, 4, 4, 5, 5, 4, 4, 5, 6, 4, 4, 12, 16, 0, 1, 5, 2, 4, 4, 29]
def hg_St (ou : Nat → Nat) (A : Nat → Prop) (s : State) : Prop := (∀ k q, hg_srs[k]? = some q → vk_R q.1 q.2.1 q.2.2 (ou k) s) ∧ vk_S 37 hg_ln hg_bs ou (fun i => ou (37 + i)) A s s.heap ∧ va_Z "java/lang/String" "COMPACT_STRINGS" "Z" (.int 1) A s s.heap
def hg_E (E : (Nat → Prop) → State → Prop) (ou : Nat → Nat) : Prop := am_EC E ∧ (∀ (A : Nat → Prop) (s : State), E A s → hg_Nw s ∧ hg_St ou A s) ∧ ∃ z : Nat, ∀ (A : Nat → Prop) (s : State), E A s → va_Z "jdk/internal/util/Preconditions" "SIOOBE_FORMATTER" "Ljava/util/function/BiFunction;" (am_v ou ou (.inr (.inr z))) A s s.heap
theorem hg_lk {ou : Nat → Nat} {A : Nat → Prop} {s : State} {args : Array Value} (h : hg_St ou A s) {own : String} {x : Nat} {tx : String} (k : Nat) (hq : hg_srs[k]? = some (own, x, tx)) : am_LK s own args ou x (.inr (.inr (k + 1))) := Or.inr ⟨k, tx, rfl, h.1 k _ hq⟩
theorem hg_fkN {s : State} {args : Array Value} {meth : Method} {own host : String} {x : Cond} {index ci fi mode : Nat} {C : String} {F : u_T} {N : Nat} {ty0 : Nat → FieldType} (hN : hg_Nw s) (hc : hn_cl[ci]? = some (C, F, N)) (hfi : fi < N) (hin : ∀ w ∈ u_ws C F N, w ∈ gw_all) (hty : ∀ k, k < N → parseFieldDescriptor (F k).2.2.1 = some (ty0 k)) (hnm : ∀ a, a < N → ∀ b, b < N → a ≠ b → (F a).2.1 ≠ (F b).2.1) (he : ty0 fi = hn_ty ci fi) (hm : mode = 1 ∨ mode = 4) (i : Nat)
    (hw : hg_nws[i]? = some (Cond.fieldLinkNest own index (F fi).1 (F fi).2.1 (F fi).2.2.1 host)) (hf : mode = 1 → (F fi).2.2.2 = false) : am_FK s args meth own (x :: gw_all) hn_cl hn_ty index ci fi mode :=
  ⟨C, F, N, ty0, hc, hfi, fun w h => List.mem_cons_of_mem _ (hin w h), hty, hnm, he, fun h => absurd hm h, fun _ => ⟨host, va_Nw.use rfl (hN _ (List.mem_of_getElem? hw))⟩, fun h => hf (by omega), fun h => by omega⟩
/-- a method of a String constant -/
theorem am_ck_VS {p : Program} {l : Launch} {e : Env} {R : Room} {s : State} {m : MethodId} {args : Array Value} {below : List Frame} {meth : Method} {c : Code} {cc bytes : ByteArray} {D : va_G} {cl : List vw_C} {tys : List (ClassId × FieldType)} {A : Nat → Prop} {Ts ws ws' : List Jvm.Cond} {own : String} {nL nt fr lo pc n maxL idx : Nat} {ou : Nat → Nat} {ca : Nat → ClassId} {E : (Nat → Prop) → State → Prop} {y : MethodName} {pre : List am_V → List am_C → Prop} {f : am_M} {ret : Option FieldType} (X : am_X p s m args c cc own Ts D cl tys A nL ca nt) (hEs : E A s) (hE : hg_E E ou) (hM : am_Met l E D cl tys ou ca y ws fr lo pre f) (hG : GoodIn Ts ws) (hw : ws = Jvm.Cond.code y bytes maxL ret :: ws') (hini : Jvm.Cond.initialized y.cls ∈ Ts) (hlk : Jvm.Cond.methodLink own idx y ∈ Ts) (hin : Jvm.Cond.instanceMethod y ∈ Ts) (hsel : Jvm.Cond.selects y.cls y y ∈ Ts) (hy : y.cls = "java/lang/String") (hpa : ∀ a w, pre a w → ∃ k a', a = .inr (.inr (k + 1)) :: a' ∧ k < 37)
    (hdd : y.cls ≠ "java/lang/invoke/MethodHandle" ∧ y.cls ≠ "java/lang/invoke/VarHandle" ∧ (parseMethodDescriptor y.desc).map (fun d => d.parameters.length) = some n) (hR : fr + 1 ≤ R.frames ∧ 8 + (maxL + 11) + lo ≤ R.locals) (hd : decode cc pc = .ok (.invokevirtual idx, 3)) : am_CK p l e R s m args below meth c D cl A ou ca nL pc (n + 1) pre f := by
  intro a wc ad H locs ls k j rest han hp hP hD hS hsz hW hk hj
  obtain ⟨q, a', rfl, hq⟩ := hpa a wc hp
  have hrec := vk_recv (hE.2.1 A s hEs).2.2.1 hq hS
  rw [← hy] at hrec
  have hpre := am_pre (a := .inr (.inr (q + 1)) :: a') X hEs hE.1 hP hD hS
  exact va_runV (C := y.cls) (nL := nL) (Ts := Ts) (own := own) (bytes := bytes) (maxL := maxL) (ret := ret) (n := n) (As := a'.map (am_v ad ou)) (b := ou q) ⟨X.1, X.2.1, X.2.2.1, X.2.2.2.1, X.2.2.2.2.1⟩ (hM ad H.size _ wc hp) ⟨callB_of n X.2.2.2.2.1 hG hw rfl rfl (X.2.2.2.2.1 _ hini) (X.2.2.2.2.1 _ hlk) hdd hR, X.2.2.2.2.1 _ hin, X.2.2.2.2.1 _ hsel⟩ ⟨hpre.1, hrec, hpre.2⟩ rfl (by rw [List.length_map]; simpa using han) hsz (by simp [am_v]) (lv_room hW) hd ⟨hk, hj⟩
end
section
/-! the class's states and worlds -/
abbrev qt6 : Type := Int32 × Int32 × (Nat → Int32)
def qg6_length (s : qt6) : Int32 := s.1
def qu6_length (s : qt6) (v : Int32) : qt6 := (v, s.2)
def qg6_spilled (s : qt6) : Int32 := s.2.1
def qu6_spilled (s : qt6) (v : Int32) : qt6 := (s.1, v, s.2.2)
def qg6_chars (s : qt6) : Nat → Int32 := s.2.2
def qu6_chars (s : qt6) (v : Nat → Int32) : qt6 := (s.1, s.2.1, v)
def qa6_chars (s : qt6) (i : Nat) (y : Int32) : qt6 := qu6_chars s (upd (qg6_chars s) i y)
def qs6 (w : List am_C) (b : Nat) : qt6 := (am_gx w b 1, am_gx w b 2, am_ga w (b + 1))
abbrev qt2 : Type := (Nat → Int32) × (Nat → Int32) × (Nat → Int32) × (Nat → Int32)
def qg2_chars (s : qt2) : Nat → Int32 := s.1
def qu2_chars (s : qt2) (v : Nat → Int32) : qt2 := (v, s.2)
def qa2_chars (s : qt2) (i : Nat) (y : Int32) : qt2 := qu2_chars s (upd (qg2_chars s) i y)
def qg2_lengths (s : qt2) : Nat → Int32 := s.2.1
def qu2_lengths (s : qt2) (v : Nat → Int32) : qt2 := (s.1, v, s.2.2)
def qa2_lengths (s : qt2) (i : Nat) (y : Int32) : qt2 := qu2_lengths s (upd (qg2_lengths s) i y)
def qg2_counts (s : qt2) : Nat → Int32 := s.2.2.1
def qu2_counts (s : qt2) (v : Nat → Int32) : qt2 := (s.1, s.2.1, v, s.2.2.2)
def qa2_counts (s : qt2) (i : Nat) (y : Int32) : qt2 := qu2_counts s (upd (qg2_counts s) i y)
def qg2_alone (s : qt2) : Nat → Int32 := s.2.2.2
def qu2_alone (s : qt2) (v : Nat → Int32) : qt2 := (s.1, s.2.1, s.2.2.1, v)
def qa2_alone (s : qt2) (i : Nat) (y : Int32) : qt2 := qu2_alone s (upd (qg2_alone s) i y)
def qs2 (w : List am_C) (b : Nat) : qt2 := (am_ga w (b + 1), am_ga w (b + 2), am_ga w (b + 3), am_ga w (b + 4))
abbrev qt5 : Type := Int32 × Int32 × (Nat → Int32) × (Nat → Int32) × (Nat → Int32) × (Nat → Int32) × (Nat → Int32) × (Nat → Int32) × (Nat → Int32)
def qg5_count (s : qt5) : Int32 := s.1
def qu5_count (s : qt5) (v : Int32) : qt5 := (v, s.2)
def qg5_templateLength (s : qt5) : Int32 := s.2.1
def qu5_templateLength (s : qt5) (v : Int32) : qt5 := (s.1, v, s.2.2)
def qg5_kinds (s : qt5) : Nat → Int32 := s.2.2.1
def qu5_kinds (s : qt5) (v : Nat → Int32) : qt5 := (s.1, s.2.1, v, s.2.2.2)
def qa5_kinds (s : qt5) (i : Nat) (y : Int32) : qt5 := qu5_kinds s (upd (qg5_kinds s) i y)
def qg5_signs (s : qt5) : Nat → Int32 := s.2.2.2.1
def qu5_signs (s : qt5) (v : Nat → Int32) : qt5 := (s.1, s.2.1, s.2.2.1, v, s.2.2.2.2)
def qa5_signs (s : qt5) (i : Nat) (y : Int32) : qt5 := qu5_signs s (upd (qg5_signs s) i y)
def qg5_variables (s : qt5) : Nat → Int32 := s.2.2.2.2.1
def qu5_variables (s : qt5) (v : Nat → Int32) : qt5 := (s.1, s.2.1, s.2.2.1, s.2.2.2.1, v, s.2.2.2.2.2)
def qa5_variables (s : qt5) (i : Nat) (y : Int32) : qt5 := qu5_variables s (upd (qg5_variables s) i y)
def qg5_places (s : qt5) : Nat → Int32 := s.2.2.2.2.2.1
def qu5_places (s : qt5) (v : Nat → Int32) : qt5 := (s.1, s.2.1, s.2.2.1, s.2.2.2.1, s.2.2.2.2.1, v, s.2.2.2.2.2.2)
def qa5_places (s : qt5) (i : Nat) (y : Int32) : qt5 := qu5_places s (upd (qg5_places s) i y)
def qg5_turns (s : qt5) : Nat → Int32 := s.2.2.2.2.2.2.1
def qu5_turns (s : qt5) (v : Nat → Int32) : qt5 := (s.1, s.2.1, s.2.2.1, s.2.2.2.1, s.2.2.2.2.1, s.2.2.2.2.2.1, v, s.2.2.2.2.2.2.2)
def qa5_turns (s : qt5) (i : Nat) (y : Int32) : qt5 := qu5_turns s (upd (qg5_turns s) i y)
def qg5_closes (s : qt5) : Nat → Int32 := s.2.2.2.2.2.2.2.1
def qu5_closes (s : qt5) (v : Nat → Int32) : qt5 := (s.1, s.2.1, s.2.2.1, s.2.2.2.1, s.2.2.2.2.1, s.2.2.2.2.2.1, s.2.2.2.2.2.2.1, v, s.2.2.2.2.2.2.2.2)
def qa5_closes (s : qt5) (i : Nat) (y : Int32) : qt5 := qu5_closes s (upd (qg5_closes s) i y)
def qg5_codes (s : qt5) : Nat → Int32 := s.2.2.2.2.2.2.2.2
def qu5_codes (s : qt5) (v : Nat → Int32) : qt5 := (s.1, s.2.1, s.2.2.1, s.2.2.2.1, s.2.2.2.2.1, s.2.2.2.2.2.1, s.2.2.2.2.2.2.1, s.2.2.2.2.2.2.2.1, v)
def qa5_codes (s : qt5) (i : Nat) (y : Int32) : qt5 := qu5_codes s (upd (qg5_codes s) i y)
def qs5 (w : List am_C) (b : Nat) : qt5 := (am_gx w b 7, am_gx w b 8, am_ga w (b + 1), am_ga w (b + 2), am_ga w (b + 3), am_ga w (b + 4), am_ga w (b + 5), am_ga w (b + 6), am_ga w (b + 7))
abbrev qt1 : Type := Int32 × Int32 × Int32 × Int32 × Int32
def qg1_name (s : qt1) : Int32 := s.1
def qu1_name (s : qt1) (v : Int32) : qt1 := (v, s.2)
def qg1_element (s : qt1) : Int32 := s.2.1
def qu1_element (s : qt1) (v : Int32) : qt1 := (s.1, v, s.2.2)
def qg1_quote (s : qt1) : Int32 := s.2.2.1
def qu1_quote (s : qt1) (v : Int32) : qt1 := (s.1, s.2.1, v, s.2.2.2)
def qg1_kind (s : qt1) : Int32 := s.2.2.2.1
def qu1_kind (s : qt1) (v : Int32) : qt1 := (s.1, s.2.1, s.2.2.1, v, s.2.2.2.2)
def qg1_part (s : qt1) : Int32 := s.2.2.2.2
def qu1_part (s : qt1) (v : Int32) : qt1 := (s.1, s.2.1, s.2.2.1, s.2.2.2.1, v)
def qs1 (w : List am_C) (b : Nat) : qt1 := (am_gx w b 0, am_gx w b 1, am_gx w b 2, am_gx w b 3, am_gx w b 4)
abbrev qt0 : Type := Int32 × Int32 × Int32 × Int32 × (Nat → Int32) × (Nat → Int32) × (Nat → Int32) × (Nat → Int32)
def qg0_openCount (s : qt0) : Int32 := s.1
def qu0_openCount (s : qt0) (v : Int32) : qt0 := (v, s.2)
def qg0_holeCount (s : qt0) : Int32 := s.2.1
def qu0_holeCount (s : qt0) (v : Int32) : qt0 := (s.1, v, s.2.2)
def qg0_faultPlace (s : qt0) : Int32 := s.2.2.1
def qu0_faultPlace (s : qt0) (v : Int32) : qt0 := (s.1, s.2.1, v, s.2.2.2)
def qg0_compiled (s : qt0) : Int32 := s.2.2.2.1
def qu0_compiled (s : qt0) (v : Int32) : qt0 := (s.1, s.2.1, s.2.2.1, v, s.2.2.2.2)
def qg0_holeCodes (s : qt0) : Nat → Int32 := s.2.2.2.2.1
def qu0_holeCodes (s : qt0) (v : Nat → Int32) : qt0 := (s.1, s.2.1, s.2.2.1, s.2.2.2.1, v, s.2.2.2.2.2)
def qa0_holeCodes (s : qt0) (i : Nat) (y : Int32) : qt0 := qu0_holeCodes s (upd (qg0_holeCodes s) i y)
def qg0_openSymbols (s : qt0) : Nat → Int32 := s.2.2.2.2.2.1
def qu0_openSymbols (s : qt0) (v : Nat → Int32) : qt0 := (s.1, s.2.1, s.2.2.1, s.2.2.2.1, s.2.2.2.2.1, v, s.2.2.2.2.2.2)
def qa0_openSymbols (s : qt0) (i : Nat) (y : Int32) : qt0 := qu0_openSymbols s (upd (qg0_openSymbols s) i y)
def qg0_openContexts (s : qt0) : Nat → Int32 := s.2.2.2.2.2.2.1
def qu0_openContexts (s : qt0) (v : Nat → Int32) : qt0 := (s.1, s.2.1, s.2.2.1, s.2.2.2.1, s.2.2.2.2.1, s.2.2.2.2.2.1, v, s.2.2.2.2.2.2.2)
def qa0_openContexts (s : qt0) (i : Nat) (y : Int32) : qt0 := qu0_openContexts s (upd (qg0_openContexts s) i y)
def qg0_turnContexts (s : qt0) : Nat → Int32 := s.2.2.2.2.2.2.2
def qu0_turnContexts (s : qt0) (v : Nat → Int32) : qt0 := (s.1, s.2.1, s.2.2.1, s.2.2.2.1, s.2.2.2.2.1, s.2.2.2.2.2.1, s.2.2.2.2.2.2.1, v)
def qa0_turnContexts (s : qt0) (i : Nat) (y : Int32) : qt0 := qu0_turnContexts s (upd (qg0_turnContexts s) i y)
def qs0 (w : List am_C) (b : Nat) : qt0 := (am_gx w b 6, am_gx w b 7, am_gx w b 8, am_gx w b 9, am_ga w (b + 1), am_ga w (b + 2), am_ga w (b + 3), am_ga w (b + 4))
def kl_T_0 (t : qt6) : List am_V := [.inr (.inl 1), .inl (qg6_length t), .inl (qg6_spilled t)]
def kw_T (n : Nat) (t : qt6) : List am_C := [.inr (6, kl_T_0 t), .inl (1, n, qg6_chars t)]
theorem kp_T_0_length (n : Nat) (t : qt6) (v : Int32) : (kw_T n t).set 0 (.inr (6, (kl_T_0 t).set 1 (.inl v))) = (kw_T n (qu6_length t v)) := rfl
theorem kp_T_0_spilled (n : Nat) (t : qt6) (v : Int32) : (kw_T n t).set 0 (.inr (6, (kl_T_0 t).set 2 (.inl v))) = (kw_T n (qu6_spilled t v)) := rfl
theorem kp_T_0_chars (n : Nat) (t : qt6) (ix : Nat) (yv : Int32) : (kw_T n t).set 1 (.inl (1, n, upd (qg6_chars t) ix yv)) = (kw_T n (qa6_chars t ix yv)) := rfl
set_option maxRecDepth 100000 in
set_option maxHeartbeats 4000000 in
theorem kwl_T (n : Nat) (t : qt6) : am_wl (kw_T n t) 2 = true := rfl
def kl_I_0 (m : qt2) : List am_V := [.inr (.inl 1), .inr (.inl 2), .inr (.inl 3), .inr (.inl 4)]
def kw_I (m : qt2) : List am_C := [.inr (2, kl_I_0 m), .inl (1, 1280, qg2_chars m), .inl (0, 32, qg2_lengths m), .inl (0, 8, qg2_counts m), .inl (0, 8, qg2_alone m)]
theorem kp_I_0_chars (m : qt2) (ix : Nat) (yv : Int32) : (kw_I m).set 1 (.inl (1, 1280, upd (qg2_chars m) ix yv)) = (kw_I (qa2_chars m ix yv)) := rfl
theorem kp_I_0_lengths (m : qt2) (ix : Nat) (yv : Int32) : (kw_I m).set 2 (.inl (0, 32, upd (qg2_lengths m) ix yv)) = (kw_I (qa2_lengths m ix yv)) := rfl
theorem kp_I_0_counts (m : qt2) (ix : Nat) (yv : Int32) : (kw_I m).set 3 (.inl (0, 8, upd (qg2_counts m) ix yv)) = (kw_I (qa2_counts m ix yv)) := rfl
theorem kp_I_0_alone (m : qt2) (ix : Nat) (yv : Int32) : (kw_I m).set 4 (.inl (0, 8, upd (qg2_alone m) ix yv)) = (kw_I (qa2_alone m ix yv)) := rfl
set_option maxRecDepth 100000 in
set_option maxHeartbeats 4000000 in
theorem kwl_I (m : qt2) : am_wl (kw_I m) 5 = true := rfl
def kl_S_0 (x : qt5) : List am_V := [.inr (.inl 1), .inr (.inl 2), .inr (.inl 3), .inr (.inl 4), .inr (.inl 5), .inr (.inl 6), .inr (.inl 7), .inl (qg5_count x), .inl (qg5_templateLength x)]
def kw_S (x : qt5) : List am_C := [.inr (5, kl_S_0 x), .inl (0, 240, qg5_kinds x), .inl (1, 240, qg5_signs x), .inl (0, 240, qg5_variables x), .inl (0, 240, qg5_places x), .inl (0, 240, qg5_turns x), .inl (0, 240, qg5_closes x), .inl (0, 240, qg5_codes x)]
theorem kp_S_0_count (x : qt5) (v : Int32) : (kw_S x).set 0 (.inr (5, (kl_S_0 x).set 7 (.inl v))) = (kw_S (qu5_count x v)) := rfl
theorem kp_S_0_templateLength (x : qt5) (v : Int32) : (kw_S x).set 0 (.inr (5, (kl_S_0 x).set 8 (.inl v))) = (kw_S (qu5_templateLength x v)) := rfl
theorem kp_S_0_kinds (x : qt5) (ix : Nat) (yv : Int32) : (kw_S x).set 1 (.inl (0, 240, upd (qg5_kinds x) ix yv)) = (kw_S (qa5_kinds x ix yv)) := rfl
theorem kp_S_0_signs (x : qt5) (ix : Nat) (yv : Int32) : (kw_S x).set 2 (.inl (1, 240, upd (qg5_signs x) ix yv)) = (kw_S (qa5_signs x ix yv)) := rfl
theorem kp_S_0_variables (x : qt5) (ix : Nat) (yv : Int32) : (kw_S x).set 3 (.inl (0, 240, upd (qg5_variables x) ix yv)) = (kw_S (qa5_variables x ix yv)) := rfl
theorem kp_S_0_places (x : qt5) (ix : Nat) (yv : Int32) : (kw_S x).set 4 (.inl (0, 240, upd (qg5_places x) ix yv)) = (kw_S (qa5_places x ix yv)) := rfl
theorem kp_S_0_turns (x : qt5) (ix : Nat) (yv : Int32) : (kw_S x).set 5 (.inl (0, 240, upd (qg5_turns x) ix yv)) = (kw_S (qa5_turns x ix yv)) := rfl
theorem kp_S_0_closes (x : qt5) (ix : Nat) (yv : Int32) : (kw_S x).set 6 (.inl (0, 240, upd (qg5_closes x) ix yv)) = (kw_S (qa5_closes x ix yv)) := rfl
theorem kp_S_0_codes (x : qt5) (ix : Nat) (yv : Int32) : (kw_S x).set 7 (.inl (0, 240, upd (qg5_codes x) ix yv)) = (kw_S (qa5_codes x ix yv)) := rfl
set_option maxRecDepth 100000 in
set_option maxHeartbeats 4000000 in
theorem kwl_S (x : qt5) : am_wl (kw_S x) 8 = true := rfl
def kl_C_0 (c : qt1) : List am_V := [.inl (qg1_name c), .inl (qg1_element c), .inl (qg1_quote c), .inl (qg1_kind c), .inl (qg1_part c)]
def kw_C (c : qt1) : List am_C := [.inr (1, kl_C_0 c)]
theorem kp_C_0_name (c : qt1) (v : Int32) : (kw_C c).set 0 (.inr (1, (kl_C_0 c).set 0 (.inl v))) = (kw_C (qu1_name c v)) := rfl
theorem kp_C_0_element (c : qt1) (v : Int32) : (kw_C c).set 0 (.inr (1, (kl_C_0 c).set 1 (.inl v))) = (kw_C (qu1_element c v)) := rfl
theorem kp_C_0_quote (c : qt1) (v : Int32) : (kw_C c).set 0 (.inr (1, (kl_C_0 c).set 2 (.inl v))) = (kw_C (qu1_quote c v)) := rfl
theorem kp_C_0_kind (c : qt1) (v : Int32) : (kw_C c).set 0 (.inr (1, (kl_C_0 c).set 3 (.inl v))) = (kw_C (qu1_kind c v)) := rfl
theorem kp_C_0_part (c : qt1) (v : Int32) : (kw_C c).set 0 (.inr (1, (kl_C_0 c).set 4 (.inl v))) = (kw_C (qu1_part c v)) := rfl
set_option maxRecDepth 100000 in
set_option maxHeartbeats 4000000 in
theorem kwl_C (c : qt1) : am_wl (kw_C c) 1 = true := rfl
def kl_ST_0 (x : qt5) : List am_V := [.inr (.inl 1), .inr (.inl 2), .inr (.inl 3), .inr (.inl 4), .inr (.inl 5), .inr (.inl 6), .inr (.inl 7), .inl (qg5_count x), .inl (qg5_templateLength x)]
def kl_ST_1 (t : qt6) : List am_V := [.inr (.inl 9), .inl (qg6_length t), .inl (qg6_spilled t)]
def kw_ST (x : qt5) (t : qt6) : List am_C := [.inr (5, kl_ST_0 x), .inl (0, 240, qg5_kinds x), .inl (1, 240, qg5_signs x), .inl (0, 240, qg5_variables x), .inl (0, 240, qg5_places x), .inl (0, 240, qg5_turns x), .inl (0, 240, qg5_closes x), .inl (0, 240, qg5_codes x), .inr (6, kl_ST_1 t), .inl (1, 240, qg6_chars t)]
theorem kp_ST_0_count (x : qt5) (t : qt6) (v : Int32) : (kw_ST x t).set 0 (.inr (5, (kl_ST_0 x).set 7 (.inl v))) = (kw_ST (qu5_count x v) t) := rfl
theorem kp_ST_0_templateLength (x : qt5) (t : qt6) (v : Int32) : (kw_ST x t).set 0 (.inr (5, (kl_ST_0 x).set 8 (.inl v))) = (kw_ST (qu5_templateLength x v) t) := rfl
theorem kp_ST_0_kinds (x : qt5) (t : qt6) (ix : Nat) (yv : Int32) : (kw_ST x t).set 1 (.inl (0, 240, upd (qg5_kinds x) ix yv)) = (kw_ST (qa5_kinds x ix yv) t) := rfl
theorem kp_ST_0_signs (x : qt5) (t : qt6) (ix : Nat) (yv : Int32) : (kw_ST x t).set 2 (.inl (1, 240, upd (qg5_signs x) ix yv)) = (kw_ST (qa5_signs x ix yv) t) := rfl
theorem kp_ST_0_variables (x : qt5) (t : qt6) (ix : Nat) (yv : Int32) : (kw_ST x t).set 3 (.inl (0, 240, upd (qg5_variables x) ix yv)) = (kw_ST (qa5_variables x ix yv) t) := rfl
theorem kp_ST_0_places (x : qt5) (t : qt6) (ix : Nat) (yv : Int32) : (kw_ST x t).set 4 (.inl (0, 240, upd (qg5_places x) ix yv)) = (kw_ST (qa5_places x ix yv) t) := rfl
theorem kp_ST_0_turns (x : qt5) (t : qt6) (ix : Nat) (yv : Int32) : (kw_ST x t).set 5 (.inl (0, 240, upd (qg5_turns x) ix yv)) = (kw_ST (qa5_turns x ix yv) t) := rfl
theorem kp_ST_0_closes (x : qt5) (t : qt6) (ix : Nat) (yv : Int32) : (kw_ST x t).set 6 (.inl (0, 240, upd (qg5_closes x) ix yv)) = (kw_ST (qa5_closes x ix yv) t) := rfl
theorem kp_ST_0_codes (x : qt5) (t : qt6) (ix : Nat) (yv : Int32) : (kw_ST x t).set 7 (.inl (0, 240, upd (qg5_codes x) ix yv)) = (kw_ST (qa5_codes x ix yv) t) := rfl
theorem kp_ST_1_length (x : qt5) (t : qt6) (v : Int32) : (kw_ST x t).set 8 (.inr (6, (kl_ST_1 t).set 1 (.inl v))) = (kw_ST x (qu6_length t v)) := rfl
theorem kp_ST_1_spilled (x : qt5) (t : qt6) (v : Int32) : (kw_ST x t).set 8 (.inr (6, (kl_ST_1 t).set 2 (.inl v))) = (kw_ST x (qu6_spilled t v)) := rfl
theorem kp_ST_1_chars (x : qt5) (t : qt6) (ix : Nat) (yv : Int32) : (kw_ST x t).set 9 (.inl (1, 240, upd (qg6_chars t) ix yv)) = (kw_ST x (qa6_chars t ix yv)) := rfl
set_option maxRecDepth 100000 in
set_option maxHeartbeats 4000000 in
theorem kwl_ST (x : qt5) (t : qt6) : am_wl (kw_ST x t) 10 = true := rfl
def kl_IT_0 (m : qt2) : List am_V := [.inr (.inl 1), .inr (.inl 2), .inr (.inl 3), .inr (.inl 4)]
def kl_IT_1 (t : qt6) : List am_V := [.inr (.inl 6), .inl (qg6_length t), .inl (qg6_spilled t)]
def kw_IT (m : qt2) (t : qt6) : List am_C := [.inr (2, kl_IT_0 m), .inl (1, 1280, qg2_chars m), .inl (0, 32, qg2_lengths m), .inl (0, 8, qg2_counts m), .inl (0, 8, qg2_alone m), .inr (6, kl_IT_1 t), .inl (1, 40, qg6_chars t)]
theorem kp_IT_0_chars (m : qt2) (t : qt6) (ix : Nat) (yv : Int32) : (kw_IT m t).set 1 (.inl (1, 1280, upd (qg2_chars m) ix yv)) = (kw_IT (qa2_chars m ix yv) t) := rfl
theorem kp_IT_0_lengths (m : qt2) (t : qt6) (ix : Nat) (yv : Int32) : (kw_IT m t).set 2 (.inl (0, 32, upd (qg2_lengths m) ix yv)) = (kw_IT (qa2_lengths m ix yv) t) := rfl
theorem kp_IT_0_counts (m : qt2) (t : qt6) (ix : Nat) (yv : Int32) : (kw_IT m t).set 3 (.inl (0, 8, upd (qg2_counts m) ix yv)) = (kw_IT (qa2_counts m ix yv) t) := rfl
theorem kp_IT_0_alone (m : qt2) (t : qt6) (ix : Nat) (yv : Int32) : (kw_IT m t).set 4 (.inl (0, 8, upd (qg2_alone m) ix yv)) = (kw_IT (qa2_alone m ix yv) t) := rfl
theorem kp_IT_1_length (m : qt2) (t : qt6) (v : Int32) : (kw_IT m t).set 5 (.inr (6, (kl_IT_1 t).set 1 (.inl v))) = (kw_IT m (qu6_length t v)) := rfl
theorem kp_IT_1_spilled (m : qt2) (t : qt6) (v : Int32) : (kw_IT m t).set 5 (.inr (6, (kl_IT_1 t).set 2 (.inl v))) = (kw_IT m (qu6_spilled t v)) := rfl
theorem kp_IT_1_chars (m : qt2) (t : qt6) (ix : Nat) (yv : Int32) : (kw_IT m t).set 6 (.inl (1, 40, upd (qg6_chars t) ix yv)) = (kw_IT m (qa6_chars t ix yv)) := rfl
set_option maxRecDepth 100000 in
set_option maxHeartbeats 4000000 in
theorem kwl_IT (m : qt2) (t : qt6) : am_wl (kw_IT m t) 7 = true := rfl
def kl_SC_0 (x : qt5) : List am_V := [.inr (.inl 1), .inr (.inl 2), .inr (.inl 3), .inr (.inl 4), .inr (.inl 5), .inr (.inl 6), .inr (.inl 7), .inl (qg5_count x), .inl (qg5_templateLength x)]
def kl_SC_1 (c : qt1) : List am_V := [.inl (qg1_name c), .inl (qg1_element c), .inl (qg1_quote c), .inl (qg1_kind c), .inl (qg1_part c)]
def kw_SC (x : qt5) (c : qt1) : List am_C := [.inr (5, kl_SC_0 x), .inl (0, 240, qg5_kinds x), .inl (1, 240, qg5_signs x), .inl (0, 240, qg5_variables x), .inl (0, 240, qg5_places x), .inl (0, 240, qg5_turns x), .inl (0, 240, qg5_closes x), .inl (0, 240, qg5_codes x), .inr (1, kl_SC_1 c)]
theorem kp_SC_0_count (x : qt5) (c : qt1) (v : Int32) : (kw_SC x c).set 0 (.inr (5, (kl_SC_0 x).set 7 (.inl v))) = (kw_SC (qu5_count x v) c) := rfl
theorem kp_SC_0_templateLength (x : qt5) (c : qt1) (v : Int32) : (kw_SC x c).set 0 (.inr (5, (kl_SC_0 x).set 8 (.inl v))) = (kw_SC (qu5_templateLength x v) c) := rfl
theorem kp_SC_0_kinds (x : qt5) (c : qt1) (ix : Nat) (yv : Int32) : (kw_SC x c).set 1 (.inl (0, 240, upd (qg5_kinds x) ix yv)) = (kw_SC (qa5_kinds x ix yv) c) := rfl
theorem kp_SC_0_signs (x : qt5) (c : qt1) (ix : Nat) (yv : Int32) : (kw_SC x c).set 2 (.inl (1, 240, upd (qg5_signs x) ix yv)) = (kw_SC (qa5_signs x ix yv) c) := rfl
theorem kp_SC_0_variables (x : qt5) (c : qt1) (ix : Nat) (yv : Int32) : (kw_SC x c).set 3 (.inl (0, 240, upd (qg5_variables x) ix yv)) = (kw_SC (qa5_variables x ix yv) c) := rfl
theorem kp_SC_0_places (x : qt5) (c : qt1) (ix : Nat) (yv : Int32) : (kw_SC x c).set 4 (.inl (0, 240, upd (qg5_places x) ix yv)) = (kw_SC (qa5_places x ix yv) c) := rfl
theorem kp_SC_0_turns (x : qt5) (c : qt1) (ix : Nat) (yv : Int32) : (kw_SC x c).set 5 (.inl (0, 240, upd (qg5_turns x) ix yv)) = (kw_SC (qa5_turns x ix yv) c) := rfl
theorem kp_SC_0_closes (x : qt5) (c : qt1) (ix : Nat) (yv : Int32) : (kw_SC x c).set 6 (.inl (0, 240, upd (qg5_closes x) ix yv)) = (kw_SC (qa5_closes x ix yv) c) := rfl
theorem kp_SC_0_codes (x : qt5) (c : qt1) (ix : Nat) (yv : Int32) : (kw_SC x c).set 7 (.inl (0, 240, upd (qg5_codes x) ix yv)) = (kw_SC (qa5_codes x ix yv) c) := rfl
theorem kp_SC_1_name (x : qt5) (c : qt1) (v : Int32) : (kw_SC x c).set 8 (.inr (1, (kl_SC_1 c).set 0 (.inl v))) = (kw_SC x (qu1_name c v)) := rfl
theorem kp_SC_1_element (x : qt5) (c : qt1) (v : Int32) : (kw_SC x c).set 8 (.inr (1, (kl_SC_1 c).set 1 (.inl v))) = (kw_SC x (qu1_element c v)) := rfl
theorem kp_SC_1_quote (x : qt5) (c : qt1) (v : Int32) : (kw_SC x c).set 8 (.inr (1, (kl_SC_1 c).set 2 (.inl v))) = (kw_SC x (qu1_quote c v)) := rfl
theorem kp_SC_1_kind (x : qt5) (c : qt1) (v : Int32) : (kw_SC x c).set 8 (.inr (1, (kl_SC_1 c).set 3 (.inl v))) = (kw_SC x (qu1_kind c v)) := rfl
theorem kp_SC_1_part (x : qt5) (c : qt1) (v : Int32) : (kw_SC x c).set 8 (.inr (1, (kl_SC_1 c).set 4 (.inl v))) = (kw_SC x (qu1_part c v)) := rfl
set_option maxRecDepth 100000 in
set_option maxHeartbeats 4000000 in
theorem kwl_SC (x : qt5) (c : qt1) : am_wl (kw_SC x c) 9 = true := rfl
def kl_P_0 (y : qt0) : List am_V := [.inr (.inl 5), .inr (.inl 13), .inr (.inl 1), .inr (.inl 2), .inr (.inl 3), .inr (.inl 4), .inl (qg0_openCount y), .inl (qg0_holeCount y), .inl (qg0_faultPlace y), .inl (qg0_compiled y)]
def kl_P_1 (x : qt5) : List am_V := [.inr (.inl 6), .inr (.inl 7), .inr (.inl 8), .inr (.inl 9), .inr (.inl 10), .inr (.inl 11), .inr (.inl 12), .inl (qg5_count x), .inl (qg5_templateLength x)]
def kl_P_2 (c : qt1) : List am_V := [.inl (qg1_name c), .inl (qg1_element c), .inl (qg1_quote c), .inl (qg1_kind c), .inl (qg1_part c)]
def kw_P (y : qt0) (x : qt5) (c : qt1) : List am_C := [.inr (0, kl_P_0 y), .inl (0, 240, qg0_holeCodes y), .inl (0, 6, qg0_openSymbols y), .inl (0, 6, qg0_openContexts y), .inl (0, 6, qg0_turnContexts y), .inr (5, kl_P_1 x), .inl (0, 240, qg5_kinds x), .inl (1, 240, qg5_signs x), .inl (0, 240, qg5_variables x), .inl (0, 240, qg5_places x), .inl (0, 240, qg5_turns x), .inl (0, 240, qg5_closes x), .inl (0, 240, qg5_codes x), .inr (1, kl_P_2 c)]
theorem kp_P_0_openCount (y : qt0) (x : qt5) (c : qt1) (v : Int32) : (kw_P y x c).set 0 (.inr (0, (kl_P_0 y).set 6 (.inl v))) = (kw_P (qu0_openCount y v) x c) := rfl
theorem kp_P_0_holeCount (y : qt0) (x : qt5) (c : qt1) (v : Int32) : (kw_P y x c).set 0 (.inr (0, (kl_P_0 y).set 7 (.inl v))) = (kw_P (qu0_holeCount y v) x c) := rfl
theorem kp_P_0_faultPlace (y : qt0) (x : qt5) (c : qt1) (v : Int32) : (kw_P y x c).set 0 (.inr (0, (kl_P_0 y).set 8 (.inl v))) = (kw_P (qu0_faultPlace y v) x c) := rfl
theorem kp_P_0_compiled (y : qt0) (x : qt5) (c : qt1) (v : Int32) : (kw_P y x c).set 0 (.inr (0, (kl_P_0 y).set 9 (.inl v))) = (kw_P (qu0_compiled y v) x c) := rfl
theorem kp_P_0_holeCodes (y : qt0) (x : qt5) (c : qt1) (ix : Nat) (yv : Int32) : (kw_P y x c).set 1 (.inl (0, 240, upd (qg0_holeCodes y) ix yv)) = (kw_P (qa0_holeCodes y ix yv) x c) := rfl
theorem kp_P_0_openSymbols (y : qt0) (x : qt5) (c : qt1) (ix : Nat) (yv : Int32) : (kw_P y x c).set 2 (.inl (0, 6, upd (qg0_openSymbols y) ix yv)) = (kw_P (qa0_openSymbols y ix yv) x c) := rfl
theorem kp_P_0_openContexts (y : qt0) (x : qt5) (c : qt1) (ix : Nat) (yv : Int32) : (kw_P y x c).set 3 (.inl (0, 6, upd (qg0_openContexts y) ix yv)) = (kw_P (qa0_openContexts y ix yv) x c) := rfl
theorem kp_P_0_turnContexts (y : qt0) (x : qt5) (c : qt1) (ix : Nat) (yv : Int32) : (kw_P y x c).set 4 (.inl (0, 6, upd (qg0_turnContexts y) ix yv)) = (kw_P (qa0_turnContexts y ix yv) x c) := rfl
theorem kp_P_1_count (y : qt0) (x : qt5) (c : qt1) (v : Int32) : (kw_P y x c).set 5 (.inr (5, (kl_P_1 x).set 7 (.inl v))) = (kw_P y (qu5_count x v) c) := rfl
theorem kp_P_1_templateLength (y : qt0) (x : qt5) (c : qt1) (v : Int32) : (kw_P y x c).set 5 (.inr (5, (kl_P_1 x).set 8 (.inl v))) = (kw_P y (qu5_templateLength x v) c) := rfl
theorem kp_P_1_kinds (y : qt0) (x : qt5) (c : qt1) (ix : Nat) (yv : Int32) : (kw_P y x c).set 6 (.inl (0, 240, upd (qg5_kinds x) ix yv)) = (kw_P y (qa5_kinds x ix yv) c) := rfl
theorem kp_P_1_signs (y : qt0) (x : qt5) (c : qt1) (ix : Nat) (yv : Int32) : (kw_P y x c).set 7 (.inl (1, 240, upd (qg5_signs x) ix yv)) = (kw_P y (qa5_signs x ix yv) c) := rfl
theorem kp_P_1_variables (y : qt0) (x : qt5) (c : qt1) (ix : Nat) (yv : Int32) : (kw_P y x c).set 8 (.inl (0, 240, upd (qg5_variables x) ix yv)) = (kw_P y (qa5_variables x ix yv) c) := rfl
theorem kp_P_1_places (y : qt0) (x : qt5) (c : qt1) (ix : Nat) (yv : Int32) : (kw_P y x c).set 9 (.inl (0, 240, upd (qg5_places x) ix yv)) = (kw_P y (qa5_places x ix yv) c) := rfl
theorem kp_P_1_turns (y : qt0) (x : qt5) (c : qt1) (ix : Nat) (yv : Int32) : (kw_P y x c).set 10 (.inl (0, 240, upd (qg5_turns x) ix yv)) = (kw_P y (qa5_turns x ix yv) c) := rfl
theorem kp_P_1_closes (y : qt0) (x : qt5) (c : qt1) (ix : Nat) (yv : Int32) : (kw_P y x c).set 11 (.inl (0, 240, upd (qg5_closes x) ix yv)) = (kw_P y (qa5_closes x ix yv) c) := rfl
theorem kp_P_1_codes (y : qt0) (x : qt5) (c : qt1) (ix : Nat) (yv : Int32) : (kw_P y x c).set 12 (.inl (0, 240, upd (qg5_codes x) ix yv)) = (kw_P y (qa5_codes x ix yv) c) := rfl
theorem kp_P_2_name (y : qt0) (x : qt5) (c : qt1) (v : Int32) : (kw_P y x c).set 13 (.inr (1, (kl_P_2 c).set 0 (.inl v))) = (kw_P y x (qu1_name c v)) := rfl
theorem kp_P_2_element (y : qt0) (x : qt5) (c : qt1) (v : Int32) : (kw_P y x c).set 13 (.inr (1, (kl_P_2 c).set 1 (.inl v))) = (kw_P y x (qu1_element c v)) := rfl
theorem kp_P_2_quote (y : qt0) (x : qt5) (c : qt1) (v : Int32) : (kw_P y x c).set 13 (.inr (1, (kl_P_2 c).set 2 (.inl v))) = (kw_P y x (qu1_quote c v)) := rfl
theorem kp_P_2_kind (y : qt0) (x : qt5) (c : qt1) (v : Int32) : (kw_P y x c).set 13 (.inr (1, (kl_P_2 c).set 3 (.inl v))) = (kw_P y x (qu1_kind c v)) := rfl
theorem kp_P_2_part (y : qt0) (x : qt5) (c : qt1) (v : Int32) : (kw_P y x c).set 13 (.inr (1, (kl_P_2 c).set 4 (.inl v))) = (kw_P y x (qu1_part c v)) := rfl
set_option maxRecDepth 100000 in
set_option maxHeartbeats 4000000 in
theorem kwl_P (y : qt0) (x : qt5) (c : qt1) : am_wl (kw_P y x c) 14 = true := rfl
def kl_PT_0 (y : qt0) : List am_V := [.inr (.inl 5), .inr (.inl 13), .inr (.inl 1), .inr (.inl 2), .inr (.inl 3), .inr (.inl 4), .inl (qg0_openCount y), .inl (qg0_holeCount y), .inl (qg0_faultPlace y), .inl (qg0_compiled y)]
def kl_PT_1 (x : qt5) : List am_V := [.inr (.inl 6), .inr (.inl 7), .inr (.inl 8), .inr (.inl 9), .inr (.inl 10), .inr (.inl 11), .inr (.inl 12), .inl (qg5_count x), .inl (qg5_templateLength x)]
def kl_PT_2 (c : qt1) : List am_V := [.inl (qg1_name c), .inl (qg1_element c), .inl (qg1_quote c), .inl (qg1_kind c), .inl (qg1_part c)]
def kl_PT_3 (t : qt6) : List am_V := [.inr (.inl 15), .inl (qg6_length t), .inl (qg6_spilled t)]
def kw_PT (y : qt0) (x : qt5) (c : qt1) (t : qt6) : List am_C := [.inr (0, kl_PT_0 y), .inl (0, 240, qg0_holeCodes y), .inl (0, 6, qg0_openSymbols y), .inl (0, 6, qg0_openContexts y), .inl (0, 6, qg0_turnContexts y), .inr (5, kl_PT_1 x), .inl (0, 240, qg5_kinds x), .inl (1, 240, qg5_signs x), .inl (0, 240, qg5_variables x), .inl (0, 240, qg5_places x), .inl (0, 240, qg5_turns x), .inl (0, 240, qg5_closes x), .inl (0, 240, qg5_codes x), .inr (1, kl_PT_2 c), .inr (6, kl_PT_3 t), .inl (1, 240, qg6_chars t)]
theorem kp_PT_0_openCount (y : qt0) (x : qt5) (c : qt1) (t : qt6) (v : Int32) : (kw_PT y x c t).set 0 (.inr (0, (kl_PT_0 y).set 6 (.inl v))) = (kw_PT (qu0_openCount y v) x c t) := rfl
theorem kp_PT_0_holeCount (y : qt0) (x : qt5) (c : qt1) (t : qt6) (v : Int32) : (kw_PT y x c t).set 0 (.inr (0, (kl_PT_0 y).set 7 (.inl v))) = (kw_PT (qu0_holeCount y v) x c t) := rfl
theorem kp_PT_0_faultPlace (y : qt0) (x : qt5) (c : qt1) (t : qt6) (v : Int32) : (kw_PT y x c t).set 0 (.inr (0, (kl_PT_0 y).set 8 (.inl v))) = (kw_PT (qu0_faultPlace y v) x c t) := rfl
theorem kp_PT_0_compiled (y : qt0) (x : qt5) (c : qt1) (t : qt6) (v : Int32) : (kw_PT y x c t).set 0 (.inr (0, (kl_PT_0 y).set 9 (.inl v))) = (kw_PT (qu0_compiled y v) x c t) := rfl
theorem kp_PT_0_holeCodes (y : qt0) (x : qt5) (c : qt1) (t : qt6) (ix : Nat) (yv : Int32) : (kw_PT y x c t).set 1 (.inl (0, 240, upd (qg0_holeCodes y) ix yv)) = (kw_PT (qa0_holeCodes y ix yv) x c t) := rfl
theorem kp_PT_0_openSymbols (y : qt0) (x : qt5) (c : qt1) (t : qt6) (ix : Nat) (yv : Int32) : (kw_PT y x c t).set 2 (.inl (0, 6, upd (qg0_openSymbols y) ix yv)) = (kw_PT (qa0_openSymbols y ix yv) x c t) := rfl
theorem kp_PT_0_openContexts (y : qt0) (x : qt5) (c : qt1) (t : qt6) (ix : Nat) (yv : Int32) : (kw_PT y x c t).set 3 (.inl (0, 6, upd (qg0_openContexts y) ix yv)) = (kw_PT (qa0_openContexts y ix yv) x c t) := rfl
theorem kp_PT_0_turnContexts (y : qt0) (x : qt5) (c : qt1) (t : qt6) (ix : Nat) (yv : Int32) : (kw_PT y x c t).set 4 (.inl (0, 6, upd (qg0_turnContexts y) ix yv)) = (kw_PT (qa0_turnContexts y ix yv) x c t) := rfl
theorem kp_PT_1_count (y : qt0) (x : qt5) (c : qt1) (t : qt6) (v : Int32) : (kw_PT y x c t).set 5 (.inr (5, (kl_PT_1 x).set 7 (.inl v))) = (kw_PT y (qu5_count x v) c t) := rfl
theorem kp_PT_1_templateLength (y : qt0) (x : qt5) (c : qt1) (t : qt6) (v : Int32) : (kw_PT y x c t).set 5 (.inr (5, (kl_PT_1 x).set 8 (.inl v))) = (kw_PT y (qu5_templateLength x v) c t) := rfl
theorem kp_PT_1_kinds (y : qt0) (x : qt5) (c : qt1) (t : qt6) (ix : Nat) (yv : Int32) : (kw_PT y x c t).set 6 (.inl (0, 240, upd (qg5_kinds x) ix yv)) = (kw_PT y (qa5_kinds x ix yv) c t) := rfl
theorem kp_PT_1_signs (y : qt0) (x : qt5) (c : qt1) (t : qt6) (ix : Nat) (yv : Int32) : (kw_PT y x c t).set 7 (.inl (1, 240, upd (qg5_signs x) ix yv)) = (kw_PT y (qa5_signs x ix yv) c t) := rfl
theorem kp_PT_1_variables (y : qt0) (x : qt5) (c : qt1) (t : qt6) (ix : Nat) (yv : Int32) : (kw_PT y x c t).set 8 (.inl (0, 240, upd (qg5_variables x) ix yv)) = (kw_PT y (qa5_variables x ix yv) c t) := rfl
theorem kp_PT_1_places (y : qt0) (x : qt5) (c : qt1) (t : qt6) (ix : Nat) (yv : Int32) : (kw_PT y x c t).set 9 (.inl (0, 240, upd (qg5_places x) ix yv)) = (kw_PT y (qa5_places x ix yv) c t) := rfl
theorem kp_PT_1_turns (y : qt0) (x : qt5) (c : qt1) (t : qt6) (ix : Nat) (yv : Int32) : (kw_PT y x c t).set 10 (.inl (0, 240, upd (qg5_turns x) ix yv)) = (kw_PT y (qa5_turns x ix yv) c t) := rfl
theorem kp_PT_1_closes (y : qt0) (x : qt5) (c : qt1) (t : qt6) (ix : Nat) (yv : Int32) : (kw_PT y x c t).set 11 (.inl (0, 240, upd (qg5_closes x) ix yv)) = (kw_PT y (qa5_closes x ix yv) c t) := rfl
theorem kp_PT_1_codes (y : qt0) (x : qt5) (c : qt1) (t : qt6) (ix : Nat) (yv : Int32) : (kw_PT y x c t).set 12 (.inl (0, 240, upd (qg5_codes x) ix yv)) = (kw_PT y (qa5_codes x ix yv) c t) := rfl
theorem kp_PT_2_name (y : qt0) (x : qt5) (c : qt1) (t : qt6) (v : Int32) : (kw_PT y x c t).set 13 (.inr (1, (kl_PT_2 c).set 0 (.inl v))) = (kw_PT y x (qu1_name c v) t) := rfl
theorem kp_PT_2_element (y : qt0) (x : qt5) (c : qt1) (t : qt6) (v : Int32) : (kw_PT y x c t).set 13 (.inr (1, (kl_PT_2 c).set 1 (.inl v))) = (kw_PT y x (qu1_element c v) t) := rfl
theorem kp_PT_2_quote (y : qt0) (x : qt5) (c : qt1) (t : qt6) (v : Int32) : (kw_PT y x c t).set 13 (.inr (1, (kl_PT_2 c).set 2 (.inl v))) = (kw_PT y x (qu1_quote c v) t) := rfl
theorem kp_PT_2_kind (y : qt0) (x : qt5) (c : qt1) (t : qt6) (v : Int32) : (kw_PT y x c t).set 13 (.inr (1, (kl_PT_2 c).set 3 (.inl v))) = (kw_PT y x (qu1_kind c v) t) := rfl
theorem kp_PT_2_part (y : qt0) (x : qt5) (c : qt1) (t : qt6) (v : Int32) : (kw_PT y x c t).set 13 (.inr (1, (kl_PT_2 c).set 4 (.inl v))) = (kw_PT y x (qu1_part c v) t) := rfl
theorem kp_PT_3_length (y : qt0) (x : qt5) (c : qt1) (t : qt6) (v : Int32) : (kw_PT y x c t).set 14 (.inr (6, (kl_PT_3 t).set 1 (.inl v))) = (kw_PT y x c (qu6_length t v)) := rfl
theorem kp_PT_3_spilled (y : qt0) (x : qt5) (c : qt1) (t : qt6) (v : Int32) : (kw_PT y x c t).set 14 (.inr (6, (kl_PT_3 t).set 2 (.inl v))) = (kw_PT y x c (qu6_spilled t v)) := rfl
theorem kp_PT_3_chars (y : qt0) (x : qt5) (c : qt1) (t : qt6) (ix : Nat) (yv : Int32) : (kw_PT y x c t).set 15 (.inl (1, 240, upd (qg6_chars t) ix yv)) = (kw_PT y x c (qa6_chars t ix yv)) := rfl
set_option maxRecDepth 100000 in
set_option maxHeartbeats 4000000 in
theorem kwl_PT (y : qt0) (x : qt5) (c : qt1) (t : qt6) : am_wl (kw_PT y x c t) 16 = true := rfl
def kl_TI_0 (t : qt6) : List am_V := [.inr (.inl 1), .inl (qg6_length t), .inl (qg6_spilled t)]
def kl_TI_1 (m : qt2) : List am_V := [.inr (.inl 3), .inr (.inl 4), .inr (.inl 5), .inr (.inl 6)]
def kw_TI (t : qt6) (m : qt2) : List am_C := [.inr (6, kl_TI_0 t), .inl (1, 1000, qg6_chars t), .inr (2, kl_TI_1 m), .inl (1, 1280, qg2_chars m), .inl (0, 32, qg2_lengths m), .inl (0, 8, qg2_counts m), .inl (0, 8, qg2_alone m)]
theorem kp_TI_0_length (t : qt6) (m : qt2) (v : Int32) : (kw_TI t m).set 0 (.inr (6, (kl_TI_0 t).set 1 (.inl v))) = (kw_TI (qu6_length t v) m) := rfl
theorem kp_TI_0_spilled (t : qt6) (m : qt2) (v : Int32) : (kw_TI t m).set 0 (.inr (6, (kl_TI_0 t).set 2 (.inl v))) = (kw_TI (qu6_spilled t v) m) := rfl
theorem kp_TI_0_chars (t : qt6) (m : qt2) (ix : Nat) (yv : Int32) : (kw_TI t m).set 1 (.inl (1, 1000, upd (qg6_chars t) ix yv)) = (kw_TI (qa6_chars t ix yv) m) := rfl
theorem kp_TI_1_chars (t : qt6) (m : qt2) (ix : Nat) (yv : Int32) : (kw_TI t m).set 3 (.inl (1, 1280, upd (qg2_chars m) ix yv)) = (kw_TI t (qa2_chars m ix yv)) := rfl
theorem kp_TI_1_lengths (t : qt6) (m : qt2) (ix : Nat) (yv : Int32) : (kw_TI t m).set 4 (.inl (0, 32, upd (qg2_lengths m) ix yv)) = (kw_TI t (qa2_lengths m ix yv)) := rfl
theorem kp_TI_1_counts (t : qt6) (m : qt2) (ix : Nat) (yv : Int32) : (kw_TI t m).set 5 (.inl (0, 8, upd (qg2_counts m) ix yv)) = (kw_TI t (qa2_counts m ix yv)) := rfl
theorem kp_TI_1_alone (t : qt6) (m : qt2) (ix : Nat) (yv : Int32) : (kw_TI t m).set 6 (.inl (0, 8, upd (qg2_alone m) ix yv)) = (kw_TI t (qa2_alone m ix yv)) := rfl
set_option maxRecDepth 100000 in
set_option maxHeartbeats 4000000 in
theorem kwl_TI (t : qt6) (m : qt2) : am_wl (kw_TI t m) 7 = true := rfl
def kl_W_0 : List am_V := [.inr (.inl 1)]
def kl_W_1 (t : qt6) : List am_V := [.inr (.inl 2), .inl (qg6_length t), .inl (qg6_spilled t)]
def kl_W_2 (x : qt5) : List am_V := [.inr (.inl 4), .inr (.inl 5), .inr (.inl 6), .inr (.inl 7), .inr (.inl 8), .inr (.inl 9), .inr (.inl 10), .inl (qg5_count x), .inl (qg5_templateLength x)]
def kl_W_3 (m : qt2) : List am_V := [.inr (.inl 12), .inr (.inl 13), .inr (.inl 14), .inr (.inl 15)]
def kw_W (t : qt6) (x : qt5) (m : qt2) : List am_C := [.inr (8, kl_W_0), .inr (6, kl_W_1 t), .inl (1, 1000, qg6_chars t), .inr (5, kl_W_2 x), .inl (0, 240, qg5_kinds x), .inl (1, 240, qg5_signs x), .inl (0, 240, qg5_variables x), .inl (0, 240, qg5_places x), .inl (0, 240, qg5_turns x), .inl (0, 240, qg5_closes x), .inl (0, 240, qg5_codes x), .inr (2, kl_W_3 m), .inl (1, 1280, qg2_chars m), .inl (0, 32, qg2_lengths m), .inl (0, 8, qg2_counts m), .inl (0, 8, qg2_alone m)]
theorem kp_W_1_length (t : qt6) (x : qt5) (m : qt2) (v : Int32) : (kw_W t x m).set 1 (.inr (6, (kl_W_1 t).set 1 (.inl v))) = (kw_W (qu6_length t v) x m) := rfl
theorem kp_W_1_spilled (t : qt6) (x : qt5) (m : qt2) (v : Int32) : (kw_W t x m).set 1 (.inr (6, (kl_W_1 t).set 2 (.inl v))) = (kw_W (qu6_spilled t v) x m) := rfl
theorem kp_W_1_chars (t : qt6) (x : qt5) (m : qt2) (ix : Nat) (yv : Int32) : (kw_W t x m).set 2 (.inl (1, 1000, upd (qg6_chars t) ix yv)) = (kw_W (qa6_chars t ix yv) x m) := rfl
theorem kp_W_2_count (t : qt6) (x : qt5) (m : qt2) (v : Int32) : (kw_W t x m).set 3 (.inr (5, (kl_W_2 x).set 7 (.inl v))) = (kw_W t (qu5_count x v) m) := rfl
theorem kp_W_2_templateLength (t : qt6) (x : qt5) (m : qt2) (v : Int32) : (kw_W t x m).set 3 (.inr (5, (kl_W_2 x).set 8 (.inl v))) = (kw_W t (qu5_templateLength x v) m) := rfl
theorem kp_W_2_kinds (t : qt6) (x : qt5) (m : qt2) (ix : Nat) (yv : Int32) : (kw_W t x m).set 4 (.inl (0, 240, upd (qg5_kinds x) ix yv)) = (kw_W t (qa5_kinds x ix yv) m) := rfl
theorem kp_W_2_signs (t : qt6) (x : qt5) (m : qt2) (ix : Nat) (yv : Int32) : (kw_W t x m).set 5 (.inl (1, 240, upd (qg5_signs x) ix yv)) = (kw_W t (qa5_signs x ix yv) m) := rfl
theorem kp_W_2_variables (t : qt6) (x : qt5) (m : qt2) (ix : Nat) (yv : Int32) : (kw_W t x m).set 6 (.inl (0, 240, upd (qg5_variables x) ix yv)) = (kw_W t (qa5_variables x ix yv) m) := rfl
theorem kp_W_2_places (t : qt6) (x : qt5) (m : qt2) (ix : Nat) (yv : Int32) : (kw_W t x m).set 7 (.inl (0, 240, upd (qg5_places x) ix yv)) = (kw_W t (qa5_places x ix yv) m) := rfl
theorem kp_W_2_turns (t : qt6) (x : qt5) (m : qt2) (ix : Nat) (yv : Int32) : (kw_W t x m).set 8 (.inl (0, 240, upd (qg5_turns x) ix yv)) = (kw_W t (qa5_turns x ix yv) m) := rfl
theorem kp_W_2_closes (t : qt6) (x : qt5) (m : qt2) (ix : Nat) (yv : Int32) : (kw_W t x m).set 9 (.inl (0, 240, upd (qg5_closes x) ix yv)) = (kw_W t (qa5_closes x ix yv) m) := rfl
theorem kp_W_2_codes (t : qt6) (x : qt5) (m : qt2) (ix : Nat) (yv : Int32) : (kw_W t x m).set 10 (.inl (0, 240, upd (qg5_codes x) ix yv)) = (kw_W t (qa5_codes x ix yv) m) := rfl
theorem kp_W_3_chars (t : qt6) (x : qt5) (m : qt2) (ix : Nat) (yv : Int32) : (kw_W t x m).set 12 (.inl (1, 1280, upd (qg2_chars m) ix yv)) = (kw_W t x (qa2_chars m ix yv)) := rfl
theorem kp_W_3_lengths (t : qt6) (x : qt5) (m : qt2) (ix : Nat) (yv : Int32) : (kw_W t x m).set 13 (.inl (0, 32, upd (qg2_lengths m) ix yv)) = (kw_W t x (qa2_lengths m ix yv)) := rfl
theorem kp_W_3_counts (t : qt6) (x : qt5) (m : qt2) (ix : Nat) (yv : Int32) : (kw_W t x m).set 14 (.inl (0, 8, upd (qg2_counts m) ix yv)) = (kw_W t x (qa2_counts m ix yv)) := rfl
theorem kp_W_3_alone (t : qt6) (x : qt5) (m : qt2) (ix : Nat) (yv : Int32) : (kw_W t x m).set 15 (.inl (0, 8, upd (qg2_alone m) ix yv)) = (kw_W t x (qa2_alone m ix yv)) := rfl
set_option maxRecDepth 100000 in
set_option maxHeartbeats 4000000 in
theorem kwl_W (t : qt6) (x : qt5) (m : qt2) : am_wl (kw_W t x m) 16 = true := rfl
set_option maxRecDepth 100000 in
set_option maxHeartbeats 4000000 in
theorem ks_PT_ST_1_3_o (y : qt0) (x : qt5) (c : qt1) (t : qt6) : am_sow (kw_PT y x c t) [5, 6, 7, 8, 9, 10, 11, 12, 14, 15] = true := rfl
set_option maxRecDepth 100000 in
set_option maxHeartbeats 4000000 in
theorem ks_PT_ST_1_3_s (y : qt0) (x : qt5) (c : qt1) (t : qt6) : am_sub (kw_PT y x c t) [5, 6, 7, 8, 9, 10, 11, 12, 14, 15] = (kw_ST x t) := rfl
set_option maxRecDepth 100000 in
set_option maxHeartbeats 4000000 in
theorem ks_PT_ST_1_3_m (y : qt0) (x : qt5) (c : qt1) (t : qt6) (z0 : qt5) (z1 : qt6) : am_mix (kw_PT y x c t) [5, 6, 7, 8, 9, 10, 11, 12, 14, 15] (kw_ST z0 z1) = (kw_PT y z0 c z1) := rfl
set_option maxRecDepth 100000 in
set_option maxHeartbeats 4000000 in
theorem ks_PT_C_2_o (y : qt0) (x : qt5) (c : qt1) (t : qt6) : am_sow (kw_PT y x c t) [13] = true := rfl
set_option maxRecDepth 100000 in
set_option maxHeartbeats 4000000 in
theorem ks_PT_C_2_s (y : qt0) (x : qt5) (c : qt1) (t : qt6) : am_sub (kw_PT y x c t) [13] = (kw_C c) := rfl
set_option maxRecDepth 100000 in
set_option maxHeartbeats 4000000 in
theorem ks_PT_C_2_m (y : qt0) (x : qt5) (c : qt1) (t : qt6) (z0 : qt1) : am_mix (kw_PT y x c t) [13] (kw_C z0) = (kw_PT y x z0 t) := rfl
set_option maxRecDepth 100000 in
set_option maxHeartbeats 4000000 in
theorem ks_PT_S_1_o (y : qt0) (x : qt5) (c : qt1) (t : qt6) : am_sow (kw_PT y x c t) [5, 6, 7, 8, 9, 10, 11, 12] = true := rfl
set_option maxRecDepth 100000 in
set_option maxHeartbeats 4000000 in
theorem ks_PT_S_1_s (y : qt0) (x : qt5) (c : qt1) (t : qt6) : am_sub (kw_PT y x c t) [5, 6, 7, 8, 9, 10, 11, 12] = (kw_S x) := rfl
set_option maxRecDepth 100000 in
set_option maxHeartbeats 4000000 in
theorem ks_PT_S_1_m (y : qt0) (x : qt5) (c : qt1) (t : qt6) (z0 : qt5) : am_mix (kw_PT y x c t) [5, 6, 7, 8, 9, 10, 11, 12] (kw_S z0) = (kw_PT y z0 c t) := rfl
set_option maxRecDepth 100000 in
set_option maxHeartbeats 4000000 in
theorem ks_PT_SC_1_2_o (y : qt0) (x : qt5) (c : qt1) (t : qt6) : am_sow (kw_PT y x c t) [5, 6, 7, 8, 9, 10, 11, 12, 13] = true := rfl
set_option maxRecDepth 100000 in
set_option maxHeartbeats 4000000 in
theorem ks_PT_SC_1_2_s (y : qt0) (x : qt5) (c : qt1) (t : qt6) : am_sub (kw_PT y x c t) [5, 6, 7, 8, 9, 10, 11, 12, 13] = (kw_SC x c) := rfl
set_option maxRecDepth 100000 in
set_option maxHeartbeats 4000000 in
theorem ks_PT_SC_1_2_m (y : qt0) (x : qt5) (c : qt1) (t : qt6) (z0 : qt5) (z1 : qt1) : am_mix (kw_PT y x c t) [5, 6, 7, 8, 9, 10, 11, 12, 13] (kw_SC z0 z1) = (kw_PT y z0 z1 t) := rfl
set_option maxRecDepth 100000 in
set_option maxHeartbeats 4000000 in
theorem ks_PT_P_0_1_2_o (y : qt0) (x : qt5) (c : qt1) (t : qt6) : am_sow (kw_PT y x c t) [0, 1, 2, 3, 4, 5, 6, 7, 8, 9, 10, 11, 12, 13] = true := rfl
set_option maxRecDepth 100000 in
set_option maxHeartbeats 4000000 in
theorem ks_PT_P_0_1_2_s (y : qt0) (x : qt5) (c : qt1) (t : qt6) : am_sub (kw_PT y x c t) [0, 1, 2, 3, 4, 5, 6, 7, 8, 9, 10, 11, 12, 13] = (kw_P y x c) := rfl
set_option maxRecDepth 100000 in
set_option maxHeartbeats 4000000 in
theorem ks_PT_P_0_1_2_m (y : qt0) (x : qt5) (c : qt1) (t : qt6) (z0 : qt0) (z1 : qt5) (z2 : qt1) : am_mix (kw_PT y x c t) [0, 1, 2, 3, 4, 5, 6, 7, 8, 9, 10, 11, 12, 13] (kw_P z0 z1 z2) = (kw_PT z0 z1 z2 t) := rfl
set_option maxRecDepth 100000 in
set_option maxHeartbeats 4000000 in
theorem ks_P_S_1_o (y : qt0) (x : qt5) (c : qt1) : am_sow (kw_P y x c) [5, 6, 7, 8, 9, 10, 11, 12] = true := rfl
set_option maxRecDepth 100000 in
set_option maxHeartbeats 4000000 in
theorem ks_P_S_1_s (y : qt0) (x : qt5) (c : qt1) : am_sub (kw_P y x c) [5, 6, 7, 8, 9, 10, 11, 12] = (kw_S x) := rfl
set_option maxRecDepth 100000 in
set_option maxHeartbeats 4000000 in
theorem ks_P_S_1_m (y : qt0) (x : qt5) (c : qt1) (z0 : qt5) : am_mix (kw_P y x c) [5, 6, 7, 8, 9, 10, 11, 12] (kw_S z0) = (kw_P y z0 c) := rfl
set_option maxRecDepth 100000 in
set_option maxHeartbeats 4000000 in
theorem ks_P_C_2_o (y : qt0) (x : qt5) (c : qt1) : am_sow (kw_P y x c) [13] = true := rfl
set_option maxRecDepth 100000 in
set_option maxHeartbeats 4000000 in
theorem ks_P_C_2_s (y : qt0) (x : qt5) (c : qt1) : am_sub (kw_P y x c) [13] = (kw_C c) := rfl
set_option maxRecDepth 100000 in
set_option maxHeartbeats 4000000 in
theorem ks_P_C_2_m (y : qt0) (x : qt5) (c : qt1) (z0 : qt1) : am_mix (kw_P y x c) [13] (kw_C z0) = (kw_P y x z0) := rfl
set_option maxRecDepth 100000 in
set_option maxHeartbeats 4000000 in
theorem ks_IT_I_0_o (m : qt2) (t : qt6) : am_sow (kw_IT m t) [0, 1, 2, 3, 4] = true := rfl
set_option maxRecDepth 100000 in
set_option maxHeartbeats 4000000 in
theorem ks_IT_I_0_s (m : qt2) (t : qt6) : am_sub (kw_IT m t) [0, 1, 2, 3, 4] = (kw_I m) := rfl
set_option maxRecDepth 100000 in
set_option maxHeartbeats 4000000 in
theorem ks_IT_I_0_m (m : qt2) (t : qt6) (z0 : qt2) : am_mix (kw_IT m t) [0, 1, 2, 3, 4] (kw_I z0) = (kw_IT z0 t) := rfl
set_option maxRecDepth 100000 in
set_option maxHeartbeats 4000000 in
theorem ks_IT_T_1_o (m : qt2) (t : qt6) : am_sow (kw_IT m t) [5, 6] = true := rfl
set_option maxRecDepth 100000 in
set_option maxHeartbeats 4000000 in
theorem ks_IT_T_1_s (m : qt2) (t : qt6) : am_sub (kw_IT m t) [5, 6] = (kw_T 40 t) := rfl
set_option maxRecDepth 100000 in
set_option maxHeartbeats 4000000 in
theorem ks_IT_T_1_m (m : qt2) (t : qt6) (z0 : qt6) : am_mix (kw_IT m t) [5, 6] (kw_T 40 z0) = (kw_IT m z0) := rfl
set_option maxRecDepth 100000 in
set_option maxHeartbeats 4000000 in
theorem ks_SC_S_0_o (x : qt5) (c : qt1) : am_sow (kw_SC x c) [0, 1, 2, 3, 4, 5, 6, 7] = true := rfl
set_option maxRecDepth 100000 in
set_option maxHeartbeats 4000000 in
theorem ks_SC_S_0_s (x : qt5) (c : qt1) : am_sub (kw_SC x c) [0, 1, 2, 3, 4, 5, 6, 7] = (kw_S x) := rfl
set_option maxRecDepth 100000 in
set_option maxHeartbeats 4000000 in
theorem ks_SC_S_0_m (x : qt5) (c : qt1) (z0 : qt5) : am_mix (kw_SC x c) [0, 1, 2, 3, 4, 5, 6, 7] (kw_S z0) = (kw_SC z0 c) := rfl
set_option maxRecDepth 100000 in
set_option maxHeartbeats 4000000 in
theorem ks_SC_C_1_o (x : qt5) (c : qt1) : am_sow (kw_SC x c) [8] = true := rfl
set_option maxRecDepth 100000 in
set_option maxHeartbeats 4000000 in
theorem ks_SC_C_1_s (x : qt5) (c : qt1) : am_sub (kw_SC x c) [8] = (kw_C c) := rfl
set_option maxRecDepth 100000 in
set_option maxHeartbeats 4000000 in
theorem ks_SC_C_1_m (x : qt5) (c : qt1) (z0 : qt1) : am_mix (kw_SC x c) [8] (kw_C z0) = (kw_SC x z0) := rfl
set_option maxRecDepth 100000 in
set_option maxHeartbeats 4000000 in
theorem ks_ST_T_1_o (x : qt5) (t : qt6) : am_sow (kw_ST x t) [8, 9] = true := rfl
set_option maxRecDepth 100000 in
set_option maxHeartbeats 4000000 in
theorem ks_ST_T_1_s (x : qt5) (t : qt6) : am_sub (kw_ST x t) [8, 9] = (kw_T 240 t) := rfl
set_option maxRecDepth 100000 in
set_option maxHeartbeats 4000000 in
theorem ks_ST_T_1_m (x : qt5) (t : qt6) (z0 : qt6) : am_mix (kw_ST x t) [8, 9] (kw_T 240 z0) = (kw_ST x z0) := rfl
set_option maxRecDepth 100000 in
set_option maxHeartbeats 4000000 in
theorem ks_ST_S_0_o (x : qt5) (t : qt6) : am_sow (kw_ST x t) [0, 1, 2, 3, 4, 5, 6, 7] = true := rfl
set_option maxRecDepth 100000 in
set_option maxHeartbeats 4000000 in
theorem ks_ST_S_0_s (x : qt5) (t : qt6) : am_sub (kw_ST x t) [0, 1, 2, 3, 4, 5, 6, 7] = (kw_S x) := rfl
set_option maxRecDepth 100000 in
set_option maxHeartbeats 4000000 in
theorem ks_ST_S_0_m (x : qt5) (t : qt6) (z0 : qt5) : am_mix (kw_ST x t) [0, 1, 2, 3, 4, 5, 6, 7] (kw_S z0) = (kw_ST z0 t) := rfl
set_option maxRecDepth 100000 in
set_option maxHeartbeats 4000000 in
theorem ks_TI_I_1_o (t : qt6) (m : qt2) : am_sow (kw_TI t m) [2, 3, 4, 5, 6] = true := rfl
set_option maxRecDepth 100000 in
set_option maxHeartbeats 4000000 in
theorem ks_TI_I_1_s (t : qt6) (m : qt2) : am_sub (kw_TI t m) [2, 3, 4, 5, 6] = (kw_I m) := rfl
set_option maxRecDepth 100000 in
set_option maxHeartbeats 4000000 in
theorem ks_TI_I_1_m (t : qt6) (m : qt2) (z0 : qt2) : am_mix (kw_TI t m) [2, 3, 4, 5, 6] (kw_I z0) = (kw_TI t z0) := rfl
set_option maxRecDepth 100000 in
set_option maxHeartbeats 4000000 in
theorem ks_TI_T_0_o (t : qt6) (m : qt2) : am_sow (kw_TI t m) [0, 1] = true := rfl
set_option maxRecDepth 100000 in
set_option maxHeartbeats 4000000 in
theorem ks_TI_T_0_s (t : qt6) (m : qt2) : am_sub (kw_TI t m) [0, 1] = (kw_T 1000 t) := rfl
set_option maxRecDepth 100000 in
set_option maxHeartbeats 4000000 in
theorem ks_TI_T_0_m (t : qt6) (m : qt2) (z0 : qt6) : am_mix (kw_TI t m) [0, 1] (kw_T 1000 z0) = (kw_TI z0 m) := rfl
set_option maxRecDepth 100000 in
set_option maxHeartbeats 4000000 in
theorem ks_W_T_1_o (t : qt6) (x : qt5) (m : qt2) : am_sow (kw_W t x m) [1, 2] = true := rfl
set_option maxRecDepth 100000 in
set_option maxHeartbeats 4000000 in
theorem ks_W_T_1_s (t : qt6) (x : qt5) (m : qt2) : am_sub (kw_W t x m) [1, 2] = (kw_T 1000 t) := rfl
set_option maxRecDepth 100000 in
set_option maxHeartbeats 4000000 in
theorem ks_W_T_1_m (t : qt6) (x : qt5) (m : qt2) (z0 : qt6) : am_mix (kw_W t x m) [1, 2] (kw_T 1000 z0) = (kw_W z0 x m) := rfl
set_option maxRecDepth 100000 in
set_option maxHeartbeats 4000000 in
theorem ks_W_S_2_o (t : qt6) (x : qt5) (m : qt2) : am_sow (kw_W t x m) [3, 4, 5, 6, 7, 8, 9, 10] = true := rfl
set_option maxRecDepth 100000 in
set_option maxHeartbeats 4000000 in
theorem ks_W_S_2_s (t : qt6) (x : qt5) (m : qt2) : am_sub (kw_W t x m) [3, 4, 5, 6, 7, 8, 9, 10] = (kw_S x) := rfl
set_option maxRecDepth 100000 in
set_option maxHeartbeats 4000000 in
theorem ks_W_S_2_m (t : qt6) (x : qt5) (m : qt2) (z0 : qt5) : am_mix (kw_W t x m) [3, 4, 5, 6, 7, 8, 9, 10] (kw_S z0) = (kw_W t z0 m) := rfl
set_option maxRecDepth 100000 in
set_option maxHeartbeats 4000000 in
theorem ks_W_I_3_o (t : qt6) (x : qt5) (m : qt2) : am_sow (kw_W t x m) [11, 12, 13, 14, 15] = true := rfl
set_option maxRecDepth 100000 in
set_option maxHeartbeats 4000000 in
theorem ks_W_I_3_s (t : qt6) (x : qt5) (m : qt2) : am_sub (kw_W t x m) [11, 12, 13, 14, 15] = (kw_I m) := rfl
set_option maxRecDepth 100000 in
set_option maxHeartbeats 4000000 in
theorem ks_W_I_3_m (t : qt6) (x : qt5) (m : qt2) (z0 : qt2) : am_mix (kw_W t x m) [11, 12, 13, 14, 15] (kw_I z0) = (kw_W t x z0) := rfl
set_option maxRecDepth 100000 in
set_option maxHeartbeats 4000000 in
theorem ks_W_TI_1_3_o (t : qt6) (x : qt5) (m : qt2) : am_sow (kw_W t x m) [1, 2, 11, 12, 13, 14, 15] = true := rfl
set_option maxRecDepth 100000 in
set_option maxHeartbeats 4000000 in
theorem ks_W_TI_1_3_s (t : qt6) (x : qt5) (m : qt2) : am_sub (kw_W t x m) [1, 2, 11, 12, 13, 14, 15] = (kw_TI t m) := rfl
set_option maxRecDepth 100000 in
set_option maxHeartbeats 4000000 in
theorem ks_W_TI_1_3_m (t : qt6) (x : qt5) (m : qt2) (z0 : qt6) (z1 : qt2) : am_mix (kw_W t x m) [1, 2, 11, 12, 13, 14, 15] (kw_TI z0 z1) = (kw_W z0 x z1) := rfl
end
section
def hy0_init : MethodName := ⟨hn_R0, "<init>", "()V"⟩
def hy0_reads : MethodName := ⟨hn_R0, "reads", "(LHoleTemplates$Text;)Z"⟩
def hy0_holeCode : MethodName := ⟨hn_R0, "holeCode", "(I)I"⟩
def hy0_readSymbol : MethodName := ⟨hn_R0, "readSymbol", "(I)I"⟩
def hy0_readHole : MethodName := ⟨hn_R0, "readHole", "(I)Z"⟩
def hy0_open : MethodName := ⟨hn_R0, "open", "(I)Z"⟩
def hy0_turn : MethodName := ⟨hn_R0, "turn", "(I)Z"⟩
def hy0_close : MethodName := ⟨hn_R0, "close", "(I)Z"⟩
theorem kf0_ok {s : State} {args : Array Value} {meth : Method} {x : Cond} (hts : ∀ w ∈ x :: gw_all, w.before args s = true) (hN : hg_Nw s) : ∀ q ∈ kf0, am_FK s args meth hn_R0 (x :: gw_all) hn_cl hn_ty q.1 q.2.1 q.2.2.1 q.2.2.2 :=
  am_allc (hg_fk hts rfl (by decide) hn_in0 hn_ok0 hn_nm0 rfl (by decide) 216 (by decide +kernel) (by decide)) (am_allc (hg_fk hts rfl (by decide) hn_in0 hn_ok0 hn_nm0 rfl (by decide) 218 (by decide +kernel) (by decide)) (am_allc (hg_fk hts rfl (by decide) hn_in0 hn_ok0 hn_nm0 rfl (by decide) 219 (by decide +kernel) (by decide)) (am_allc (hg_fk hts rfl (by decide) hn_in0 hn_ok0 hn_nm0 rfl (by decide) 220 (by decide +kernel) (by decide)) (am_allc (hg_fk hts rfl (by decide) hn_in0 hn_ok0 hn_nm0 rfl (by decide) 221 (by decide +kernel) (by decide)) (am_allc (hg_fk hts rfl (by decide) hn_in0 hn_ok0 hn_nm0 rfl (by decide) 222 (by decide +kernel) (by decide)) (am_allc (hg_fk hts rfl (by decide) hn_in0 hn_ok0 hn_nm0 rfl (by decide) 226 (by decide +kernel) (by decide)) (am_allc (hg_fk hts rfl (by decide) hn_in0 hn_ok0 hn_nm0 rfl (by decide) 223 (by decide +kernel) (by decide)) (am_allc (hg_fk hts rfl (by decide) hn_in0 hn_ok0 hn_nm0 rfl (by decide) 224 (by decide +kernel) (by decide)) (am_allc (hg_fkN (host := "HoleTemplates") hN rfl (by decide) hn_in5 hn_ok5 hn_nm5 rfl (by decide) 5 rfl (by decide)) (am_allc (hg_fkN (host := "HoleTemplates") hN rfl (by decide) hn_in1 hn_ok1 hn_nm1 rfl (by decide) 9 rfl (by decide)) (am_allc (hg_fk hts rfl (by decide) hn_in0 hn_ok0 hn_nm0 rfl (by decide) 228 (by decide +kernel) (by decide)) (am_allc (hg_fkN (host := "HoleTemplates") hN rfl (by decide) hn_in1 hn_ok1 hn_nm1 rfl (by decide) 13 rfl (by decide)) (am_all0)))))))))))))
def hy1_init : MethodName := ⟨hn_R1, "<init>", "()V"⟩
def hy1_enter : MethodName := ⟨hn_R1, "enter", "(I)V"⟩
def hy1_enterTag : MethodName := ⟨hn_R1, "enterTag", "(I)V"⟩
def hy1_enterValue : MethodName := ⟨hn_R1, "enterValue", "(CI)V"⟩
def hy1_enterElement : MethodName := ⟨hn_R1, "enterElement", "()V"⟩
def hy1_isStyle : MethodName := ⟨hn_R1, "isStyle", "()Z"⟩
def hy1_packed : MethodName := ⟨hn_R1, "packed", "()I"⟩
def hy1_unpack : MethodName := ⟨hn_R1, "unpack", "(I)V"⟩
def hy1_code : MethodName := ⟨hn_R1, "code", "()I"⟩
def hy1_codeInValue : MethodName := ⟨hn_R1, "codeInValue", "()I"⟩
theorem kf1_ok {s : State} {args : Array Value} {meth : Method} {x : Cond} (hts : ∀ w ∈ x :: gw_all, w.before args s = true) (hN : hg_Nw s) : ∀ q ∈ kf1, am_FK s args meth hn_R1 (x :: gw_all) hn_cl hn_ty q.1 q.2.1 q.2.2.1 q.2.2.2 :=
  am_allc (hg_fk hts rfl (by decide) hn_in1 hn_ok1 hn_nm1 rfl (by decide) 194 (by decide +kernel) (by decide)) (am_allc (hg_fk hts rfl (by decide) hn_in1 hn_ok1 hn_nm1 rfl (by decide) 196 (by decide +kernel) (by decide)) (am_allc (hg_fk hts rfl (by decide) hn_in1 hn_ok1 hn_nm1 rfl (by decide) 198 (by decide +kernel) (by decide)) (am_allc (hg_fk hts rfl (by decide) hn_in1 hn_ok1 hn_nm1 rfl (by decide) 200 (by decide +kernel) (by decide)) (am_allc (hg_fk hts rfl (by decide) hn_in1 hn_ok1 hn_nm1 rfl (by decide) 202 (by decide +kernel) (by decide)) (am_all0)))))
def hy2_init : MethodName := ⟨hn_R2, "<init>", "()V"⟩
def hy2_isVariable : MethodName := ⟨hn_R2, "isVariable", "(I)Z"⟩
def hy2_count : MethodName := ⟨hn_R2, "count", "(I)I"⟩
def hy2_keep : MethodName := ⟨hn_R2, "keep", "(ILHoleTemplates$Text;)Z"⟩
def hy2_drop : MethodName := ⟨hn_R2, "drop", "(I)I"⟩
def hy2_lone : MethodName := ⟨hn_R2, "lone", "(I)I"⟩
def hy2_leaveAlone : MethodName := ⟨hn_R2, "leaveAlone", "(II)V"⟩
def hy2_from : MethodName := ⟨hn_R2, "from", "(I)I"⟩
def hy2_upTo : MethodName := ⟨hn_R2, "upTo", "(I)I"⟩
def hy2_first : MethodName := ⟨hn_R2, "first", "(I)I"⟩
def hy2_length : MethodName := ⟨hn_R2, "length", "(I)I"⟩
def hy2_at : MethodName := ⟨hn_R2, "at", "(II)C"⟩
def hy2_begins : MethodName := ⟨hn_R2, "begins", "(IILjava/lang/String;)Z"⟩
theorem kf2_ok {s : State} {args : Array Value} {meth : Method} {x : Cond} (hts : ∀ w ∈ x :: gw_all, w.before args s = true) (hN : hg_Nw s) : ∀ q ∈ kf2, am_FK s args meth hn_R2 (x :: gw_all) hn_cl hn_ty q.1 q.2.1 q.2.2.1 q.2.2.2 :=
  am_allc (hg_fk hts rfl (by decide) hn_in2 hn_ok2 hn_nm2 rfl (by decide) 130 (by decide +kernel) (by decide)) (am_allc (hg_fk hts rfl (by decide) hn_in2 hn_ok2 hn_nm2 rfl (by decide) 131 (by decide +kernel) (by decide)) (am_allc (hg_fk hts rfl (by decide) hn_in2 hn_ok2 hn_nm2 rfl (by decide) 132 (by decide +kernel) (by decide)) (am_allc (hg_fk hts rfl (by decide) hn_in2 hn_ok2 hn_nm2 rfl (by decide) 133 (by decide +kernel) (by decide)) (am_allc (hg_fkN (host := "HoleTemplates") hN rfl (by decide) hn_in6 hn_ok6 hn_nm6 rfl (by decide) 2 rfl (by decide)) (am_all0)))))
def hy3_read : MethodName := ⟨hn_R3, "read", "(LHoleTemplates$Symbols;ILHoleTemplates$Context;)I"⟩
def hy3_inText : MethodName := ⟨hn_R3, "inText", "(LHoleTemplates$Symbols;ILHoleTemplates$Context;)I"⟩
def hy3_endTag : MethodName := ⟨hn_R3, "endTag", "(LHoleTemplates$Symbols;I)I"⟩
def hy3_startTag : MethodName := ⟨hn_R3, "startTag", "(LHoleTemplates$Symbols;ILHoleTemplates$Context;)I"⟩
def hy3_elementOf : MethodName := ⟨hn_R3, "elementOf", "(LHoleTemplates$Symbols;II)I"⟩
def hy3_ampersand : MethodName := ⟨hn_R3, "ampersand", "(LHoleTemplates$Symbols;I)I"⟩
def hy3_ifTwoFollow : MethodName := ⟨hn_R3, "ifTwoFollow", "(LHoleTemplates$Symbols;I)I"⟩
def hy3_inTag : MethodName := ⟨hn_R3, "inTag", "(LHoleTemplates$Symbols;ILHoleTemplates$Context;)I"⟩
def hy3_attribute : MethodName := ⟨hn_R3, "attribute", "(LHoleTemplates$Symbols;ILHoleTemplates$Context;)I"⟩
def hy3_kindOf : MethodName := ⟨hn_R3, "kindOf", "(LHoleTemplates$Symbols;II)I"⟩
def hy3_inValue : MethodName := ⟨hn_R3, "inValue", "(LHoleTemplates$Symbols;ILHoleTemplates$Context;)I"⟩
def hy3_inUrl : MethodName := ⟨hn_R3, "inUrl", "(LHoleTemplates$Symbols;ILHoleTemplates$Context;)I"⟩
def hy3_inCode : MethodName := ⟨hn_R3, "inCode", "(LHoleTemplates$Symbols;ILHoleTemplates$Context;)I"⟩
def hy3_lessThan : MethodName := ⟨hn_R3, "lessThan", "(LHoleTemplates$Symbols;ILHoleTemplates$Context;)I"⟩
def hy3_inBareCode : MethodName := ⟨hn_R3, "inBareCode", "(LHoleTemplates$Symbols;ILHoleTemplates$Context;)I"⟩
def hy3_inString : MethodName := ⟨hn_R3, "inString", "(LHoleTemplates$Symbols;ILHoleTemplates$Context;)I"⟩
def hy3_inBlockComment : MethodName := ⟨hn_R3, "inBlockComment", "(LHoleTemplates$Symbols;ILHoleTemplates$Context;)I"⟩
def hy3_inTitle : MethodName := ⟨hn_R3, "inTitle", "(LHoleTemplates$Symbols;ILHoleTemplates$Context;)I"⟩
def hy3_inComment : MethodName := ⟨hn_R3, "inComment", "(LHoleTemplates$Symbols;ILHoleTemplates$Context;)I"⟩
theorem kf3_ok {s : State} {args : Array Value} {meth : Method} {x : Cond} (hts : ∀ w ∈ x :: gw_all, w.before args s = true) (hN : hg_Nw s) : ∀ q ∈ kf3, am_FK s args meth hn_R3 (x :: gw_all) hn_cl hn_ty q.1 q.2.1 q.2.2.1 q.2.2.2 :=
  am_allc (hg_fkN (host := "HoleTemplates") hN rfl (by decide) hn_in1 hn_ok1 hn_nm1 rfl (by decide) 8 rfl (by decide)) (am_allc (hg_fkN (host := "HoleTemplates") hN rfl (by decide) hn_in5 hn_ok5 hn_nm5 rfl (by decide) 6 rfl (by decide)) (am_allc (hg_fkN (host := "HoleTemplates") hN rfl (by decide) hn_in1 hn_ok1 hn_nm1 rfl (by decide) 10 rfl (by decide)) (am_allc (hg_fkN (host := "HoleTemplates") hN rfl (by decide) hn_in1 hn_ok1 hn_nm1 rfl (by decide) 11 rfl (by decide)) (am_allc (hg_fkN (host := "HoleTemplates") hN rfl (by decide) hn_in1 hn_ok1 hn_nm1 rfl (by decide) 14 rfl (by decide)) (am_allc (hg_fkN (host := "HoleTemplates") hN rfl (by decide) hn_in1 hn_ok1 hn_nm1 rfl (by decide) 12 rfl (by decide)) (am_all0))))))
def hy4_isWritable : MethodName := ⟨hn_R4, "isWritable", "(C)Z"⟩
def hy4_isBlank : MethodName := ⟨hn_R4, "isBlank", "(C)Z"⟩
def hy4_isLetter : MethodName := ⟨hn_R4, "isLetter", "(C)Z"⟩
def hy4_isLetterOrDigit : MethodName := ⟨hn_R4, "isLetterOrDigit", "(C)Z"⟩
def hy4_isVariable : MethodName := ⟨hn_R4, "isVariable", "(C)Z"⟩
def hy4_isQuote : MethodName := ⟨hn_R4, "isQuote", "(C)Z"⟩
def hy4_small : MethodName := ⟨hn_R4, "small", "(C)C"⟩
def hy4_highHex : MethodName := ⟨hn_R4, "highHex", "(C)C"⟩
def hy4_lowHex : MethodName := ⟨hn_R4, "lowHex", "(C)C"⟩
theorem kf4_ok {s : State} {args : Array Value} {meth : Method} {x : Cond} (hts : ∀ w ∈ x :: gw_all, w.before args s = true) (hN : hg_Nw s) : ∀ q ∈ kf4, am_FK s args meth hn_R4 (x :: gw_all) hn_cl hn_ty q.1 q.2.1 q.2.2.1 q.2.2.2 :=
  am_all0
def hy5_init : MethodName := ⟨hn_R5, "<init>", "()V"⟩
def hy5_cut : MethodName := ⟨hn_R5, "cut", "(LHoleTemplates$Text;)V"⟩
def hy5_cutBrace : MethodName := ⟨hn_R5, "cutBrace", "(LHoleTemplates$Text;I)I"⟩
def hy5_take : MethodName := ⟨hn_R5, "take", "(ICII)I"⟩
def hy5_has : MethodName := ⟨hn_R5, "has", "(I)Z"⟩
def hy5_kind : MethodName := ⟨hn_R5, "kind", "(I)I"⟩
def hy5_sign : MethodName := ⟨hn_R5, "sign", "(I)C"⟩
def hy5_variable : MethodName := ⟨hn_R5, "variable", "(I)I"⟩
def hy5_place : MethodName := ⟨hn_R5, "place", "(I)I"⟩
def hy5_code : MethodName := ⟨hn_R5, "code", "(I)I"⟩
def hy5_turn : MethodName := ⟨hn_R5, "turn", "(I)I"⟩
def hy5_close : MethodName := ⟨hn_R5, "close", "(I)I"⟩
def hy5_noteCode : MethodName := ⟨hn_R5, "noteCode", "(II)V"⟩
def hy5_noteTurn : MethodName := ⟨hn_R5, "noteTurn", "(II)V"⟩
def hy5_noteClose : MethodName := ⟨hn_R5, "noteClose", "(II)V"⟩
def hy5_spells : MethodName := ⟨hn_R5, "spells", "(IILjava/lang/String;)Z"⟩
def hy5_behindLetters : MethodName := ⟨hn_R5, "behindLetters", "(I)I"⟩
def hy5_behindName : MethodName := ⟨hn_R5, "behindName", "(I)I"⟩
def hy5_behindBlanks : MethodName := ⟨hn_R5, "behindBlanks", "(I)I"⟩
theorem kf5_ok {s : State} {args : Array Value} {meth : Method} {x : Cond} (hts : ∀ w ∈ x :: gw_all, w.before args s = true) (hN : hg_Nw s) : ∀ q ∈ kf5, am_FK s args meth hn_R5 (x :: gw_all) hn_cl hn_ty q.1 q.2.1 q.2.2.1 q.2.2.2 :=
  am_allc (hg_fk hts rfl (by decide) hn_in5 hn_ok5 hn_nm5 rfl (by decide) 156 (by decide +kernel) (by decide)) (am_allc (hg_fk hts rfl (by decide) hn_in5 hn_ok5 hn_nm5 rfl (by decide) 157 (by decide +kernel) (by decide)) (am_allc (hg_fk hts rfl (by decide) hn_in5 hn_ok5 hn_nm5 rfl (by decide) 158 (by decide +kernel) (by decide)) (am_allc (hg_fk hts rfl (by decide) hn_in5 hn_ok5 hn_nm5 rfl (by decide) 159 (by decide +kernel) (by decide)) (am_allc (hg_fk hts rfl (by decide) hn_in5 hn_ok5 hn_nm5 rfl (by decide) 160 (by decide +kernel) (by decide)) (am_allc (hg_fk hts rfl (by decide) hn_in5 hn_ok5 hn_nm5 rfl (by decide) 161 (by decide +kernel) (by decide)) (am_allc (hg_fk hts rfl (by decide) hn_in5 hn_ok5 hn_nm5 rfl (by decide) 162 (by decide +kernel) (by decide)) (am_allc (hg_fk hts rfl (by decide) hn_in5 hn_ok5 hn_nm5 rfl (by decide) 163 (by decide +kernel) (by decide)) (am_allc (hg_fkN (host := "HoleTemplates") hN rfl (by decide) hn_in6 hn_ok6 hn_nm6 rfl (by decide) 0 rfl (by decide)) (am_allc (hg_fk hts rfl (by decide) hn_in5 hn_ok5 hn_nm5 rfl (by decide) 167 (by decide +kernel) (by decide)) (am_all0))))))))))
def hy6_init : MethodName := ⟨hn_R6, "<init>", "(I)V"⟩
def hy6_put : MethodName := ⟨hn_R6, "put", "(C)Z"⟩
def hy6_putAll : MethodName := ⟨hn_R6, "putAll", "(Ljava/lang/String;)V"⟩
def hy6_putHex : MethodName := ⟨hn_R6, "putHex", "(C)V"⟩
def hy6_at : MethodName := ⟨hn_R6, "at", "(I)C"⟩
def hy6_empty : MethodName := ⟨hn_R6, "empty", "()I"⟩
theorem kf6_ok {s : State} {args : Array Value} {meth : Method} {x : Cond} (hts : ∀ w ∈ x :: gw_all, w.before args s = true) (hN : hg_Nw s) : ∀ q ∈ kf6, am_FK s args meth hn_R6 (x :: gw_all) hn_cl hn_ty q.1 q.2.1 q.2.2.1 q.2.2.2 :=
  am_allc (hg_fk hts rfl (by decide) hn_in6 hn_ok6 hn_nm6 rfl (by decide) 109 (by decide +kernel) (by decide)) (am_allc (hg_fk hts rfl (by decide) hn_in6 hn_ok6 hn_nm6 rfl (by decide) 110 (by decide +kernel) (by decide)) (am_allc (hg_fk hts rfl (by decide) hn_in6 hn_ok6 hn_nm6 rfl (by decide) 114 (by decide +kernel) (by decide)) (am_all0)))
def hy7_put : MethodName := ⟨hn_R7, "put", "(LHoleTemplates$Text;LHoleTemplates$Items;II)V"⟩
def hy7_putMarkup : MethodName := ⟨hn_R7, "putMarkup", "(LHoleTemplates$Text;LHoleTemplates$Items;I)V"⟩
def hy7_putUrl : MethodName := ⟨hn_R7, "putUrl", "(LHoleTemplates$Text;LHoleTemplates$Items;II)V"⟩
def hy7_hasForeignScheme : MethodName := ⟨hn_R7, "hasForeignScheme", "(LHoleTemplates$Items;I)Z"⟩
def hy7_staysInCode : MethodName := ⟨hn_R7, "staysInCode", "(C)Z"⟩
def hy7_putScript : MethodName := ⟨hn_R7, "putScript", "(LHoleTemplates$Text;LHoleTemplates$Items;IIZ)V"⟩
def hy7_putStyleString : MethodName := ⟨hn_R7, "putStyleString", "(LHoleTemplates$Text;LHoleTemplates$Items;I)V"⟩
def hy7_putBareStyle : MethodName := ⟨hn_R7, "putBareStyle", "(LHoleTemplates$Text;LHoleTemplates$Items;I)V"⟩
def hy7_isStyleWord : MethodName := ⟨hn_R7, "isStyleWord", "(LHoleTemplates$Items;I)Z"⟩
theorem kf7_ok {s : State} {args : Array Value} {meth : Method} {x : Cond} (hts : ∀ w ∈ x :: gw_all, w.before args s = true) (hN : hg_Nw s) : ∀ q ∈ kf7, am_FK s args meth hn_R7 (x :: gw_all) hn_cl hn_ty q.1 q.2.1 q.2.2.1 q.2.2.2 :=
  am_all0
def hy8_init : MethodName := ⟨hn_R8, "<init>", "()V"⟩
def hy8_fill : MethodName := ⟨hn_R8, "fill", "(LHoleTemplates$Symbols;LHoleTemplates$Items;)Z"⟩
def hy8_span : MethodName := ⟨hn_R8, "span", "(LHoleTemplates$Symbols;LHoleTemplates$Items;III)V"⟩
def hy8_choice : MethodName := ⟨hn_R8, "choice", "(LHoleTemplates$Symbols;LHoleTemplates$Items;II)V"⟩
def hy8_loop : MethodName := ⟨hn_R8, "loop", "(LHoleTemplates$Symbols;LHoleTemplates$Items;II)V"⟩
theorem kf8_ok {s : State} {args : Array Value} {meth : Method} {x : Cond} (hts : ∀ w ∈ x :: gw_all, w.before args s = true) (hN : hg_Nw s) : ∀ q ∈ kf8, am_FK s args meth hn_R8 (x :: gw_all) hn_cl hn_ty q.1 q.2.1 q.2.2.1 q.2.2.2 :=
  am_allc (hg_fk hts rfl (by decide) hn_in8 hn_ok8 hn_nm8 rfl (by decide) 259 (by decide +kernel) (by decide)) (am_allc (hg_fkN (host := "HoleTemplates") hN rfl (by decide) hn_in5 hn_ok5 hn_nm5 rfl (by decide) 4 rfl (by decide)) (am_allc (hg_fkN (host := "HoleTemplates") hN rfl (by decide) hn_in6 hn_ok6 hn_nm6 rfl (by decide) 3 rfl (by decide)) (am_all0)))
def hy9_init : MethodName := ⟨hn_R9, "<init>", "()V"⟩
def hy9_type : MethodName := ⟨hn_R9, "type", "(C)Z"⟩
def hy9_wipe : MethodName := ⟨hn_R9, "wipe", "()I"⟩
def hy9_add : MethodName := ⟨hn_R9, "add", "()I"⟩
def hy9_clear : MethodName := ⟨hn_R9, "clear", "()I"⟩
def hy9_compile : MethodName := ⟨hn_R9, "compile", "()I"⟩
def hy9_accepts : MethodName := ⟨hn_R9, "accepts", "()Z"⟩
def hy9_fault : MethodName := ⟨hn_R9, "fault", "()I"⟩
def hy9_hole : MethodName := ⟨hn_R9, "hole", "(I)I"⟩
def hy9_item : MethodName := ⟨hn_R9, "item", "(I)I"⟩
def hy9_forget : MethodName := ⟨hn_R9, "forget", "(I)I"⟩
def hy9_write : MethodName := ⟨hn_R9, "write", "()I"⟩
def hy9_written : MethodName := ⟨hn_R9, "written", "()I"⟩
def hy9_letter : MethodName := ⟨hn_R9, "letter", "(I)C"⟩
theorem kf9_ok {s : State} {args : Array Value} {meth : Method} {x : Cond} (hts : ∀ w ∈ x :: gw_all, w.before args s = true) (hN : hg_Nw s) : ∀ q ∈ kf9, am_FK s args meth hn_R9 (x :: gw_all) hn_cl hn_ty q.1 q.2.1 q.2.2.1 q.2.2.2 :=
  am_allc (hg_fk hts rfl (by decide) hn_in9 hn_ok9 hn_nm9 rfl (by decide) 264 (by decide +kernel) (by decide)) (am_allc (hg_fk hts rfl (by decide) hn_in9 hn_ok9 hn_nm9 rfl (by decide) 265 (by decide +kernel) (by decide)) (am_allc (hg_fk hts rfl (by decide) hn_in9 hn_ok9 hn_nm9 rfl (by decide) 266 (by decide +kernel) (by decide)) (am_allc (hg_fk hts rfl (by decide) hn_in9 hn_ok9 hn_nm9 rfl (by decide) 267 (by decide +kernel) (by decide)) (am_allc (hg_fk hts rfl (by decide) hn_in9 hn_ok9 hn_nm9 rfl (by decide) 268 (by decide +kernel) (by decide)) (am_allc (hg_fkN (host := "HoleTemplates") hN rfl (by decide) hn_in6 hn_ok6 hn_nm6 rfl (by decide) 1 rfl (by decide)) (am_allc (hg_fkN (host := "HoleTemplates") hN rfl (by decide) hn_in0 hn_ok0 hn_nm0 rfl (by decide) 18 rfl (by decide)) (am_allc (hg_fkN (host := "HoleTemplates") hN rfl (by decide) hn_in0 hn_ok0 hn_nm0 rfl (by decide) 16 rfl (by decide)) (am_allc (hg_fkN (host := "HoleTemplates") hN rfl (by decide) hn_in0 hn_ok0 hn_nm0 rfl (by decide) 17 rfl (by decide)) (am_allc (hg_fkN (host := "HoleTemplates") hN rfl (by decide) hn_in0 hn_ok0 hn_nm0 rfl (by decide) 15 rfl (by decide)) (am_allc (hg_fkN (host := "HoleTemplates") hN rfl (by decide) hn_in8 hn_ok8 hn_nm8 rfl (by decide) 19 rfl (by decide)) (am_all0)))))))))))
end
section
/-! methods of the JDK, over one String constant: place 0 outside is the String, place 1 its bytes (n of them, f) -/
def hj_E (E : (Nat → Prop) → State → Prop) (ou : Nat → Nat) (n : Nat) (f : Nat → Int32) (fz : am_V) : Prop := am_EC E ∧ (fz = .inr (.inr 0) ∨ fz = .inr (.inr 3)) ∧ ∀ (A : Nat → Prop) (s : State), E A s → va_O "java/lang/String" (ou 0) A s s.heap ∧ va_OF "java/lang/String" "coder" "B" (.int 0) (ou 0) A s s.heap ∧ va_OF "java/lang/String" "value" "[B" (.ref (ou 1)) (ou 0) A s s.heap ∧ va_T .byte (ou 1) n (fun j => .int (f j)) A s s.heap ∧ va_Z "java/lang/String" "COMPACT_STRINGS" "Z" (.int 1) A s s.heap ∧ va_Z "jdk/internal/util/Preconditions" "SIOOBE_FORMATTER" "Ljava/util/function/BiFunction;" (am_v ou ou fz) A s s.heap
def hj_oa (n : Nat) (f : Nat → Int32) (o : Nat) : Option (Nat × Nat × (Nat → Int32)) := match o with
  | 1 => some (3, n, f)
  | _ => none
theorem hj_oa_ok {n : Nat} {f : Nat → Int32} {ou : Nat → Nat} {A : Nat → Prop} {s : State} (h : va_T .byte (ou 1) n (fun j => .int (f j)) A s s.heap) : ∀ o t n' f', hj_oa n f o = some (t, n', f') → va_T (am_ty t) (ou o) n' (fun j => .int (f' j)) A s s.heap := by
  intro o t n' f' hq
  match o, hq with
  | 1, hq =>
    cases hq
    exact h
def prO_cs : List am_V → List am_C → Prop := fun a w => w = [] ∧ a = []
def fmO_cs : am_M := fun _ _ => (some (.inl 1), [], 0, 0)
def prO_fm : List am_V → List am_C → Prop := fun a w => w = [] ∧ a = []
def fmO_fm (fz : am_V) : am_M := fun _ _ => (some fz, [], 0, 0)
def prO_value : List am_V → List am_C → Prop := fun a w => w = [] ∧ a = [.inr (.inr 1)]
def fmO_value : am_M := fun _ _ => (some (.inr (.inr 2)), [], 0, 0)
def prO_coder : List am_V → List am_C → Prop := fun a w => w = [] ∧ a = [.inr (.inr 1)]
def fmO_coder : am_M := fun _ _ => (some (.inl 0), [], 0, 0)
section HJ
variable {p : Program} {l : Launch} {e : Env} {R : Room} {s : State} {m : MethodId} {args : Array Value} {below : List Frame} {meth : Method} {c : Code} {cc : ByteArray} {D : va_G} {cl : List vw_C} {tys : List (ClassId × FieldType)} {A : Nat → Prop} {Ts : List Jvm.Cond} {own : String} {nL nt pc idx : Nat} {ou : Nat → Nat} {ca : Nat → ClassId}
theorem hj_gs {C nm d : String} {fz : am_V} (X : am_X p s m args c cc own Ts D cl tys A nL ca nt) (hfz : ∀ ad : Nat → Nat, am_v ad ou fz = am_v ou ou fz) (hZ : va_Z C nm d (am_v ou ou fz) A s s.heap) (hlk : Jvm.Cond.fieldLink own idx C nm d ∈ Ts) (hd : decode cc pc = .ok (.getstatic idx, 3)) : am_CK p l e R s m args below meth c D cl A ou ca nL pc 0 (fun a w => w = [] ∧ a = []) (fun _ _ => (some fz, [], 0, 0)) := by
  refine am_ck_W (pr0 := fun a => a = []) (val := fun _ => fz) ?_
  rintro a ad H locs ls k j rest Q rfl hS hsz kk
  rw [hfz ad] at kk
  exact va_gets X.1 X.2.1 hZ hS X.2.2.2.1 (X.2.2.2.2.1 _ hlk) (fun _ h => h) hd kk
theorem hj_gf {nm d : String} {v : am_V} (X : am_X p s m args c cc own Ts D cl tys A nL ca nt) (hv : ∀ ad : Nat → Nat, am_v ad ou v = am_v ou ou v) (hF : va_OF "java/lang/String" nm d (am_v ou ou v) (ou 0) A s s.heap) (hlk : Jvm.Cond.fieldLink own idx "java/lang/String" nm d ∈ Ts) (hd : decode cc pc = .ok (.getfield idx, 3)) : am_CK p l e R s m args below meth c D cl A ou ca nL pc 1 (fun a w => w = [] ∧ a = [.inr (.inr 1)]) (fun _ _ => (some v, [], 0, 0)) := by
  refine am_ck_W (pr0 := fun a => a = [.inr (.inr 1)]) (val := fun _ => v) ?_
  rintro a ad H locs ls k j rest Q rfl hS hsz kk
  rw [hv ad] at kk
  exact vk_getf X.1 X.2.1 hF hS X.2.2.2.1 (X.2.2.2.2.1 _ hlk) (fun _ h => h) hd kk
theorem am_ck_VO {E : (Nat → Prop) → State → Prop} {y : MethodName} {pre : List am_V → List am_C → Prop} {f : am_M} {ret : Option FieldType} {ws ws' : List Jvm.Cond} {bytes : ByteArray} {fr lo n maxL : Nat} (X : am_X p s m args c cc own Ts D cl tys A nL ca nt) (hEs : E A s) (hE : am_EC E) (hM : am_Met l E D cl tys ou ca y ws fr lo pre f) (hG : GoodIn Ts ws) (hw : ws = Jvm.Cond.code y bytes maxL ret :: ws') (hini : Jvm.Cond.initialized y.cls ∈ Ts) (hlk : Jvm.Cond.methodLink own idx y ∈ Ts) (hin : Jvm.Cond.instanceMethod y ∈ Ts) (hsel : Jvm.Cond.selects y.cls y y ∈ Ts) (hO : va_O y.cls (ou 0) A s s.heap) (hpa : ∀ a w, pre a w → ∃ a', a = .inr (.inr 1) :: a')
    (hdd : y.cls ≠ "java/lang/invoke/MethodHandle" ∧ y.cls ≠ "java/lang/invoke/VarHandle" ∧ (parseMethodDescriptor y.desc).map (fun d => d.parameters.length) = some n) (hR : fr + 1 ≤ R.frames ∧ 8 + (maxL + 11) + lo ≤ R.locals) (hd : decode cc pc = .ok (.invokevirtual idx, 3)) : am_CK p l e R s m args below meth c D cl A ou ca nL pc (n + 1) pre f := by
  intro a wc ad H locs ls k j rest han hp hP hD hS hsz hW hk hj
  obtain ⟨a', rfl⟩ := hpa a wc hp
  have hrec : ∃ cell : Cell, H[ou 0]? = some cell ∧ cell.vm.isStatics = false ∧ s.vm.findClass y.cls = some cell.cls := by
    obtain ⟨cell, h1, h2, h3, -⟩ := hO.kept hS.2.1
    exact ⟨cell, h1, h2, h3⟩
  have hpre := am_pre (a := .inr (.inr 1) :: a') X hEs hE hP hD hS
  exact va_runV (C := y.cls) (nL := nL) (Ts := Ts) (own := own) (bytes := bytes) (maxL := maxL) (ret := ret) (n := n) (As := a'.map (am_v ad ou)) (b := ou 0) ⟨X.1, X.2.1, X.2.2.1, X.2.2.2.1, X.2.2.2.2.1⟩ (hM ad H.size _ wc hp) ⟨callB_of n X.2.2.2.2.1 hG hw rfl rfl (X.2.2.2.2.1 _ hini) (X.2.2.2.2.1 _ hlk) hdd hR, X.2.2.2.2.1 _ hin, X.2.2.2.2.1 _ hsel⟩ ⟨hpre.1, hrec, hpre.2⟩ rfl (by rw [List.length_map]; simpa using han) hsz (by simp [am_v]) (lv_room hW) hd ⟨hk, hj⟩
/-- Math.max, Math.min -/
theorem am_ck_W2 {n : Nat} {pre : List am_V → List am_C → Prop} {val : List am_V → am_V} {f : am_M} (hw : ∀ a w, pre a w → w = []) (hf : ∀ a w, pre a w → f a w = (some (val a), [], 0, 0)) (hrow : ∀ (a : List am_V) (ad : Nat → Nat) (H : Heap) (locs : List Loc) (ls : Array Slot) (k j : Nat) (rest : List Value) (Q : State → Prop), pre a [] → va_S A s.heap H locs → ls.size = nL → (rest.map fun v => v.category).sum ≤ 8 → k ≤ R.cells → j ≤ R.slots → W p l e R s m args below meth c H locs k j Q (F0 m (pc + 3) ls (am_v ad ou (val a) :: rest)) → W p l e R s m args below meth c H locs k j Q (F0 m pc ls ((a.map (am_v ad ou)).reverse ++ rest))) : am_CK p l e R s m args below meth c D cl A ou ca nL pc n pre f := by
  intro a wc ad H locs ls k j rest han hp hP hD hS hsz hW hk hj
  have hw0 := hw a wc hp
  subst hw0
  rw [hf a [] hp] at hk hj ⊢
  intro T hT X0
  obtain ⟨t, st, T', hT', X', rfl⟩ := hrow a ad H locs ls k j rest (fun t => ∃ T' : State, T'.heap = H ∧ Stand p l e R s m args below meth c T' locs k j ∧ t = T'.setTop (F0 m (pc + 3) ls (am_v ad ou (val a) :: rest))) hp hS hsz hW hk hj (fun T' hT' X' => ⟨_, Steps.refl _, T', hT', X', rfl⟩) T hT X0
  refine ⟨some (am_v ad ou (val a)), T, T', T', [], hT, ?_, ?_, rfl, rfl, ⟨⟨ad, fun _ _ => rfl, rfl, ?_, hD.self⟩, ?_, ?_⟩, fun target h => st.trans h⟩
  · rw [List.append_nil]
    exact X'
  · intro q hq
    cases hq
  · show va_P D cl (am_w ad ou ca []) T'.heap
    rw [hT']
    exact hP
  · rw [hT, hT']
    exact Nat.le_refl _
  · intro q _ _
    rw [hT, hT']
noncomputable def fnJ_max (p0 : Int32) (p1 : Int32) : Int32 := Classical.choose (⟨_, rfl⟩ : ∃ z : Int32, z = (if p0 < p1 then p1 else p0))
theorem fqJ_max (p0 : Int32) (p1 : Int32) : fnJ_max p0 p1 = (if p0 < p1 then p1 else p0) := Classical.choose_spec (⟨_, rfl⟩ : ∃ z : Int32, z = (if p0 < p1 then p1 else p0))
def wpJ_max (_ : Int32) (_ : Int32) : Prop := True
abbrev prJ_max : List am_V → List am_C → Prop := fun a w => ∃ (p0 : Int32) (p1 : Int32), a = [.inl p0, .inl p1] ∧ w = [] ∧ wpJ_max p0 p1
noncomputable def fmJ_max : am_M := fun a _ => (some (.inl (fnJ_max (am_i (am_an a 0)) (am_i (am_an a 1)))), [], 0, 0)
theorem feJ_max (p0 : Int32) (p1 : Int32) : fmJ_max [.inl p0, .inl p1] [] = (some (.inl (fnJ_max p0 p1)), [], 0, 0) := rfl
noncomputable def fnJ_min (p0 : Int32) (p1 : Int32) : Int32 := Classical.choose (⟨_, rfl⟩ : ∃ z : Int32, z = (if p1 < p0 then p1 else p0))
theorem fqJ_min (p0 : Int32) (p1 : Int32) : fnJ_min p0 p1 = (if p1 < p0 then p1 else p0) := Classical.choose_spec (⟨_, rfl⟩ : ∃ z : Int32, z = (if p1 < p0 then p1 else p0))
def wpJ_min (_ : Int32) (_ : Int32) : Prop := True
abbrev prJ_min : List am_V → List am_C → Prop := fun a w => ∃ (p0 : Int32) (p1 : Int32), a = [.inl p0, .inl p1] ∧ w = [] ∧ wpJ_min p0 p1
noncomputable def fmJ_min : am_M := fun a _ => (some (.inl (fnJ_min (am_i (am_an a 0)) (am_i (am_an a 1)))), [], 0, 0)
theorem feJ_min (p0 : Int32) (p1 : Int32) : fmJ_min [.inl p0, .inl p1] [] = (some (.inl (fnJ_min p0 p1)), [], 0, 0) := rfl
theorem am_ck_max (X : am_X p s m args c cc own Ts D cl tys A nL ca nt) (hlk : Jvm.Cond.methodLink own idx Lib.Math.max.name ∈ Ts) (hst : Jvm.Cond.static Lib.Math.max.name ∈ Ts) (hini : Jvm.Cond.initialized "java/lang/Math" ∈ Ts) (hcd : Jvm.Cond.code Lib.Math.max.name Lib.Math.max.code 2 (some .int) ∈ Ts) (hR : 1 ≤ R.frames ∧ 40 ≤ R.locals) (hd : decode cc pc = .ok (.invokestatic idx, 3)) : am_CK p l e R s m args below meth c D cl A ou ca nL pc 2 prJ_max fmJ_max := by
  refine am_ck_W2 (val := fun a => .inl (fnJ_max (am_i (am_an a 0)) (am_i (am_an a 1)))) ?_ ?_ ?_
  · rintro a w ⟨p0, p1, rfl, rfl, -⟩
    rfl
  · rintro a w ⟨p0, p1, rfl, rfl, -⟩
    rfl
  · rintro a ad H locs ls k j rest Q ⟨p0, p1, rfl, -, -⟩ hS hsz hW hk hj kk
    refine va_mmax (rest := rest) X.1 X.2.1 (X.2.2.1.trans hsz.symm) X.2.2.2.1 (X.2.2.2.2.1 _ hlk) (X.2.2.2.2.1 _ hst) (X.2.2.2.2.1 _ hini) (X.2.2.2.2.1 _ hcd) hR.1 (by have := hR.2; omega) hk hj (x := p0) (y := p1) hd ?_
    rw [← fqJ_max p0 p1]
    exact kk
theorem am_ck_min (X : am_X p s m args c cc own Ts D cl tys A nL ca nt) (hlk : Jvm.Cond.methodLink own idx Lib.Math.min.name ∈ Ts) (hst : Jvm.Cond.static Lib.Math.min.name ∈ Ts) (hini : Jvm.Cond.initialized "java/lang/Math" ∈ Ts) (hcd : Jvm.Cond.code Lib.Math.min.name Lib.Math.min.code 2 (some .int) ∈ Ts) (hR : 1 ≤ R.frames ∧ 40 ≤ R.locals) (hd : decode cc pc = .ok (.invokestatic idx, 3)) : am_CK p l e R s m args below meth c D cl A ou ca nL pc 2 prJ_min fmJ_min := by
  refine am_ck_W2 (val := fun a => .inl (fnJ_min (am_i (am_an a 0)) (am_i (am_an a 1)))) ?_ ?_ ?_
  · rintro a w ⟨p0, p1, rfl, rfl, -⟩
    rfl
  · rintro a w ⟨p0, p1, rfl, rfl, -⟩
    rfl
  · rintro a ad H locs ls k j rest Q ⟨p0, p1, rfl, -, -⟩ hS hsz hW hk hj kk
    refine va_mmin (rest := rest) X.1 X.2.1 (X.2.2.1.trans hsz.symm) X.2.2.2.1 (X.2.2.2.2.1 _ hlk) (X.2.2.2.2.1 _ hst) (X.2.2.2.2.1 _ hini) (X.2.2.2.2.1 _ hcd) hR.1 (by have := hR.2; omega) hk hj (x := p0) (y := p1) hd ?_
    rw [← fqJ_min p0 p1]
    exact kk
end HJ
def kdj_coder : List (Nat × Instr × Nat) := [(0, .getstatic 38, 3), (3, .ifCond .eq 10, 3), (6, .aload_n 0, 1), (7, .getfield 15, 3), (10, .goto 4, 3), (13, .iconst 1, 1), (14, .ireturn, 1)]
theorem kdj_coder_ok : ∀ q ∈ kdj_coder, decode prog_20_method_152_code q.1 = .ok q.2 := by decide +kernel
def hyj_coder : MethodName := ⟨"java/lang/String", "coder", "()B"⟩
noncomputable def kij_coder (n : Nat) (f : Nat → Int32) : List (Nat × Option (List Nat) × Nat × (List am_V → List am_C → Prop) × am_M) := [(0, some [], 0, prO_cs, fmO_cs), (7, some [], 1, prO_coder, fmO_coder)]
noncomputable def kbj_coder (n : Nat) (f : Nat → Int32) : am_B := (kdj_coder, fun _ => none, hn_ty, fun _ => none, fun _ => none, am_as (kij_coder n f), hj_oa n f, 5, 1, (some .byte))
def wpj_coder (n : Nat) (f : Nat → Int32) : Prop := True
set_option maxRecDepth 100000 in
set_option maxHeartbeats 4000000 in
theorem rej_coder (n : Nat) (f : Nat → Int32) (hp : wpj_coder n f) : am_lf (am_mk (kbj_coder n f) 0 0 0) [] (0, am_L0 [.inr (.inr 1)] 1, [], [], 0, 0) = some (some (.inl (0 : Int32)), []) := by
  unfold wpj_coder at hp
  refine am_lf_eq ?_
  generalize am_lf (am_mk (kbj_coder n f) 0 0 0) [] = kt
  refine am_cy (pre := prO_cs) (f := fmO_cs) (a' := []) (wc := []) (w' := []) (r := (some (.inl (1 : Int32)), [], 0, 0)) ?_ ?_ ?_ ?_ ?_ ?_ ?_ ?_ ?_ ?_
  · exact am_sow0 _
  · rfl
  · rfl
  · exact am_sub0 _
  · exact ⟨rfl, rfl⟩
  · rfl
  · rfl
  · rfl
  · exact am_mix0 _
  refine am_cy (pre := prO_coder) (f := fmO_coder) (a' := [.inr (.inr 1)]) (wc := []) (w' := []) (r := (some (.inl (0 : Int32)), [], 0, 0)) ?_ ?_ ?_ ?_ ?_ ?_ ?_ ?_ ?_ ?_
  · exact am_sow0 _
  · rfl
  · rfl
  · exact am_sub0 _
  · exact ⟨rfl, rfl⟩
  · rfl
  · rfl
  · rfl
  · exact am_mix0 _
  rfl
abbrev prj_coder (n : Nat) (f : Nat → Int32) : List am_V → List am_C → Prop := fun a w => a = [.inr (.inr 1)] ∧ w = [] ∧ wpj_coder n f
def fmj_coder (n : Nat) (f : Nat → Int32) : am_M := fun _ _ => (some (.inl (0 : Int32)), [], 0, 0)
theorem fej_coder (n : Nat) (f : Nat → Int32) : fmj_coder n f [.inr (.inr 1)] [] = (some (.inl (0 : Int32)), [], 0, 0) := rfl
set_option maxRecDepth 100000 in
set_option maxHeartbeats 4000000 in
theorem rnj_coder (n : Nat) (f : Nat → Int32) : ∀ (a : List am_V) (w : List am_C), prj_coder n f a w → ∃ nq, am_ev (am_mk (kbj_coder n f) (fmj_coder n f a w).2.2.1 (fmj_coder n f a w).2.2.2 w.length) [] nq (0, am_L0 a 1, [], w, 0, 0) = some ((fmj_coder n f a w).1, (fmj_coder n f a w).2.1) := by
  rintro a w ⟨rfl, rfl, hp⟩
  rw [fej_coder n f]
  exact am_lf_ev (rej_coder n f hp)
theorem rlj_coder (n : Nat) (f : Nat → Int32) : ∀ (a : List am_V) (w : List am_C), prj_coder n f a w → a.length ≤ 1 := by
  rintro a w ⟨rfl, rfl, hp⟩
  exact Nat.le_of_ble_eq_true rfl
theorem paj_coder (n : Nat) (f : Nat → Int32) : ∀ a w, prj_coder n f a w → ∃ a', a = .inr (.inr 1) :: a' := by
  rintro a w ⟨rfl, rfl, hp⟩
  exact ⟨_, rfl⟩
set_option maxRecDepth 100000 in
set_option maxHeartbeats 4000000 in
theorem kmj_coder {l : Launch} {E : (Nat → Prop) → State → Prop} {D : va_G} {ou : Nat → Nat} {ca : Nat → ClassId} {n : Nat} {f : Nat → Int32} {fz : am_V} (hE : hj_E E ou n f fz) : hg_Met l E D ou ca hyj_coder prog_20_method_152_code 1 (some .byte) 0 (prj_coder n f) (fmj_coder n f) := by
  refine am_met (B := kbj_coder n f) (cuts := []) (nt := 5) (by decide +kernel) rfl rfl (hg_tys_ok ca) ?_ (by decide) (rlj_coder n f) ?_ (rnj_coder n f)
  · exact fun t ht => List.mem_cons_of_mem _ (hg_arr t ht)
  · intro a w hp ad p e R s m args below meth c hR X hEs hnm
    have hR1 : 0 ≤ R.frames ∧ 0 ≤ R.locals := by rw [hR]; exact ⟨Nat.le_refl _, Nat.le_refl _⟩
    have hN := hE.2.2 _ _ hEs
    refine ⟨kdj_coder_ok, fun index ci fi mode hq => (am_no hq).elim, fun index ci fs hq => (am_no hq).elim, fun x v hq => (am_no hq).elim, ?_, hj_oa_ok hN.2.2.2.1, rfl, rfl, by rw [hR]; exact Nat.le_refl _, by rw [hR]; exact Nat.le_refl _⟩
    intro pc sel n0 pre0 f0 hq
    have hz : ∀ q ∈ kij_coder n f, am_CK p l e R s m args below meth c D hn_cl (va_A (am_w ad ou ca w) s.heap.size) ou ca 1 q.1 q.2.2.1 q.2.2.2.1 q.2.2.2.2 := by
      refine am_allc (hj_gs (fz := .inl 1) X (fun _ => rfl) hN.2.2.2.2.1 (List.mem_cons_of_mem _ (gw_mem 372 (by decide +kernel))) (kdj_coder_ok (0, .getstatic 38, 3) (List.mem_of_getElem? (i := 0) rfl))) (am_allc (hj_gf (v := .inl 0) X (fun _ => rfl) hN.2.1 (List.mem_cons_of_mem _ (gw_mem 1378 (by decide +kernel))) (kdj_coder_ok (7, .getfield 15, 3) (List.mem_of_getElem? (i := 3) rfl))) (am_all0))
    exact hz _ (am_as_mem hq)
def kdj_isLatin1 : List (Nat × Instr × Nat) := [(0, .getstatic 38, 3), (3, .ifCond .eq 14, 3), (6, .aload_n 0, 1), (7, .getfield 15, 3), (10, .ifCond .ne 7, 3), (13, .iconst 1, 1), (14, .goto 4, 3), (17, .iconst 0, 1), (18, .ireturn, 1)]
theorem kdj_isLatin1_ok : ∀ q ∈ kdj_isLatin1, decode prog_20_method_154_code q.1 = .ok q.2 := by decide +kernel
def hyj_isLatin1 : MethodName := ⟨"java/lang/String", "isLatin1", "()Z"⟩
noncomputable def kij_isLatin1 (n : Nat) (f : Nat → Int32) : List (Nat × Option (List Nat) × Nat × (List am_V → List am_C → Prop) × am_M) := [(0, some [], 0, prO_cs, fmO_cs), (7, some [], 1, prO_coder, fmO_coder)]
noncomputable def kbj_isLatin1 (n : Nat) (f : Nat → Int32) : am_B := (kdj_isLatin1, fun _ => none, hn_ty, fun _ => none, fun _ => none, am_as (kij_isLatin1 n f), hj_oa n f, 5, 1, (some .boolean))
def wpj_isLatin1 (n : Nat) (f : Nat → Int32) : Prop := True
set_option maxRecDepth 100000 in
set_option maxHeartbeats 4000000 in
theorem rej_isLatin1 (n : Nat) (f : Nat → Int32) (hp : wpj_isLatin1 n f) : am_lf (am_mk (kbj_isLatin1 n f) 0 0 0) [] (0, am_L0 [.inr (.inr 1)] 1, [], [], 0, 0) = some (some (.inl (1 : Int32)), []) := by
  unfold wpj_isLatin1 at hp
  refine am_lf_eq ?_
  generalize am_lf (am_mk (kbj_isLatin1 n f) 0 0 0) [] = kt
  refine am_cy (pre := prO_cs) (f := fmO_cs) (a' := []) (wc := []) (w' := []) (r := (some (.inl (1 : Int32)), [], 0, 0)) ?_ ?_ ?_ ?_ ?_ ?_ ?_ ?_ ?_ ?_
  · exact am_sow0 _
  · rfl
  · rfl
  · exact am_sub0 _
  · exact ⟨rfl, rfl⟩
  · rfl
  · rfl
  · rfl
  · exact am_mix0 _
  refine am_cy (pre := prO_coder) (f := fmO_coder) (a' := [.inr (.inr 1)]) (wc := []) (w' := []) (r := (some (.inl (0 : Int32)), [], 0, 0)) ?_ ?_ ?_ ?_ ?_ ?_ ?_ ?_ ?_ ?_
  · exact am_sow0 _
  · rfl
  · rfl
  · exact am_sub0 _
  · exact ⟨rfl, rfl⟩
  · rfl
  · rfl
  · rfl
  · exact am_mix0 _
  rfl
abbrev prj_isLatin1 (n : Nat) (f : Nat → Int32) : List am_V → List am_C → Prop := fun a w => a = [.inr (.inr 1)] ∧ w = [] ∧ wpj_isLatin1 n f
def fmj_isLatin1 (n : Nat) (f : Nat → Int32) : am_M := fun _ _ => (some (.inl (1 : Int32)), [], 0, 0)
theorem fej_isLatin1 (n : Nat) (f : Nat → Int32) : fmj_isLatin1 n f [.inr (.inr 1)] [] = (some (.inl (1 : Int32)), [], 0, 0) := rfl
set_option maxRecDepth 100000 in
set_option maxHeartbeats 4000000 in
theorem rnj_isLatin1 (n : Nat) (f : Nat → Int32) : ∀ (a : List am_V) (w : List am_C), prj_isLatin1 n f a w → ∃ nq, am_ev (am_mk (kbj_isLatin1 n f) (fmj_isLatin1 n f a w).2.2.1 (fmj_isLatin1 n f a w).2.2.2 w.length) [] nq (0, am_L0 a 1, [], w, 0, 0) = some ((fmj_isLatin1 n f a w).1, (fmj_isLatin1 n f a w).2.1) := by
  rintro a w ⟨rfl, rfl, hp⟩
  rw [fej_isLatin1 n f]
  exact am_lf_ev (rej_isLatin1 n f hp)
theorem rlj_isLatin1 (n : Nat) (f : Nat → Int32) : ∀ (a : List am_V) (w : List am_C), prj_isLatin1 n f a w → a.length ≤ 1 := by
  rintro a w ⟨rfl, rfl, hp⟩
  exact Nat.le_of_ble_eq_true rfl
theorem paj_isLatin1 (n : Nat) (f : Nat → Int32) : ∀ a w, prj_isLatin1 n f a w → ∃ a', a = .inr (.inr 1) :: a' := by
  rintro a w ⟨rfl, rfl, hp⟩
  exact ⟨_, rfl⟩
set_option maxRecDepth 100000 in
set_option maxHeartbeats 4000000 in
theorem kmj_isLatin1 {l : Launch} {E : (Nat → Prop) → State → Prop} {D : va_G} {ou : Nat → Nat} {ca : Nat → ClassId} {n : Nat} {f : Nat → Int32} {fz : am_V} (hE : hj_E E ou n f fz) : hg_Met l E D ou ca hyj_isLatin1 prog_20_method_154_code 1 (some .boolean) 0 (prj_isLatin1 n f) (fmj_isLatin1 n f) := by
  refine am_met (B := kbj_isLatin1 n f) (cuts := []) (nt := 5) (by decide +kernel) rfl rfl (hg_tys_ok ca) ?_ (by decide) (rlj_isLatin1 n f) ?_ (rnj_isLatin1 n f)
  · exact fun t ht => List.mem_cons_of_mem _ (hg_arr t ht)
  · intro a w hp ad p e R s m args below meth c hR X hEs hnm
    have hR1 : 0 ≤ R.frames ∧ 0 ≤ R.locals := by rw [hR]; exact ⟨Nat.le_refl _, Nat.le_refl _⟩
    have hN := hE.2.2 _ _ hEs
    refine ⟨kdj_isLatin1_ok, fun index ci fi mode hq => (am_no hq).elim, fun index ci fs hq => (am_no hq).elim, fun x v hq => (am_no hq).elim, ?_, hj_oa_ok hN.2.2.2.1, rfl, rfl, by rw [hR]; exact Nat.le_refl _, by rw [hR]; exact Nat.le_refl _⟩
    intro pc sel n0 pre0 f0 hq
    have hz : ∀ q ∈ kij_isLatin1 n f, am_CK p l e R s m args below meth c D hn_cl (va_A (am_w ad ou ca w) s.heap.size) ou ca 1 q.1 q.2.2.1 q.2.2.2.1 q.2.2.2.2 := by
      refine am_allc (hj_gs (fz := .inl 1) X (fun _ => rfl) hN.2.2.2.2.1 (List.mem_cons_of_mem _ (gw_mem 372 (by decide +kernel))) (kdj_isLatin1_ok (0, .getstatic 38, 3) (List.mem_of_getElem? (i := 0) rfl))) (am_allc (hj_gf (v := .inl 0) X (fun _ => rfl) hN.2.1 (List.mem_cons_of_mem _ (gw_mem 1378 (by decide +kernel))) (kdj_isLatin1_ok (7, .getfield 15, 3) (List.mem_of_getElem? (i := 3) rfl))) (am_all0))
    exact hz _ (am_as_mem hq)
def kdj_length : List (Nat × Instr × Nat) := [(0, .aload_n 0, 1), (1, .getfield 9, 3), (4, .arraylength, 1), (5, .aload_n 0, 1), (6, .invokevirtual 335, 3), (9, .ishr, 1), (10, .ireturn, 1)]
theorem kdj_length_ok : ∀ q ∈ kdj_length, decode prog_20_method_54_code q.1 = .ok q.2 := by decide +kernel
def hyj_length : MethodName := ⟨"java/lang/String", "length", "()I"⟩
noncomputable def kij_length (n : Nat) (f : Nat → Int32) : List (Nat × Option (List Nat) × Nat × (List am_V → List am_C → Prop) × am_M) := [(1, some [], 1, prO_value, fmO_value), (6, some [], 1, prj_coder n f, fmj_coder n f)]
noncomputable def kbj_length (n : Nat) (f : Nat → Int32) : am_B := (kdj_length, fun _ => none, hn_ty, fun _ => none, fun _ => none, am_as (kij_length n f), hj_oa n f, 5, 1, (some .int))
noncomputable def fnj_length (n : Nat) (f : Nat → Int32) : Int32 := Classical.choose (⟨_, rfl⟩ : ∃ z : Int32, z = ((Int32.ofNat n) >>> ((0 : Int32) &&& 31)))
theorem fqj_length (n : Nat) (f : Nat → Int32) : fnj_length n f = ((Int32.ofNat n) >>> ((0 : Int32) &&& 31)) := Classical.choose_spec (⟨_, rfl⟩ : ∃ z : Int32, z = ((Int32.ofNat n) >>> ((0 : Int32) &&& 31)))
def wpj_length (n : Nat) (f : Nat → Int32) : Prop := (wpj_coder n f)
set_option maxRecDepth 100000 in
set_option maxHeartbeats 4000000 in
theorem rej_length (n : Nat) (f : Nat → Int32) (hp : wpj_length n f) : am_lf (am_mk (kbj_length n f) 0 0 0) [] (0, am_L0 [.inr (.inr 1)] 1, [], [], 0, 0) = some (some (.inl (fnj_length n f)), []) := by
  unfold wpj_length at hp
  refine am_lf_eq ?_
  generalize am_lf (am_mk (kbj_length n f) 0 0 0) [] = kt
  refine am_cy (pre := prO_value) (f := fmO_value) (a' := [.inr (.inr 1)]) (wc := []) (w' := []) (r := (some (.inr (.inr 2)), [], 0, 0)) ?_ ?_ ?_ ?_ ?_ ?_ ?_ ?_ ?_ ?_
  · exact am_sow0 _
  · rfl
  · rfl
  · exact am_sub0 _
  · exact ⟨rfl, rfl⟩
  · rfl
  · rfl
  · rfl
  · exact am_mix0 _
  refine am_cy (pre := prj_coder n f) (f := fmj_coder n f) (a' := [.inr (.inr 1)]) (wc := []) (w' := []) (r := (some (.inl (0 : Int32)), [], 0, 0)) ?_ ?_ ?_ ?_ ?_ ?_ ?_ ?_ ?_ ?_
  · exact am_sow0 _
  · rfl
  · rfl
  · exact am_sub0 _
  · exact ⟨rfl, rfl, hp⟩
  · exact fej_coder n f
  · exact rfl
  · rfl
  · exact am_mix0 _
  have e : fnj_length n f = ((Int32.ofNat n) >>> ((0 : Int32) &&& 31)) := by
    rw [fqj_length]
  rw [e] <;> rfl
abbrev prj_length (n : Nat) (f : Nat → Int32) : List am_V → List am_C → Prop := fun a w => a = [.inr (.inr 1)] ∧ w = [] ∧ wpj_length n f
noncomputable def fmj_length (n : Nat) (f : Nat → Int32) : am_M := fun a w => (fun (z : Int32) => (some (.inl z), [], 0, 0)) (fnj_length n f)
theorem fej_length (n : Nat) (f : Nat → Int32) : fmj_length n f [.inr (.inr 1)] [] = (some (.inl (fnj_length n f)), [], 0, 0) := rfl
set_option maxRecDepth 100000 in
set_option maxHeartbeats 4000000 in
theorem rnj_length (n : Nat) (f : Nat → Int32) : ∀ (a : List am_V) (w : List am_C), prj_length n f a w → ∃ nq, am_ev (am_mk (kbj_length n f) (fmj_length n f a w).2.2.1 (fmj_length n f a w).2.2.2 w.length) [] nq (0, am_L0 a 1, [], w, 0, 0) = some ((fmj_length n f a w).1, (fmj_length n f a w).2.1) := by
  rintro a w ⟨rfl, rfl, hp⟩
  rw [fej_length n f]
  exact am_lf_ev (rej_length n f hp)
theorem rlj_length (n : Nat) (f : Nat → Int32) : ∀ (a : List am_V) (w : List am_C), prj_length n f a w → a.length ≤ 1 := by
  rintro a w ⟨rfl, rfl, hp⟩
  exact Nat.le_of_ble_eq_true rfl
theorem paj_length (n : Nat) (f : Nat → Int32) : ∀ a w, prj_length n f a w → ∃ a', a = .inr (.inr 1) :: a' := by
  rintro a w ⟨rfl, rfl, hp⟩
  exact ⟨_, rfl⟩
set_option maxRecDepth 100000 in
set_option maxHeartbeats 4000000 in
theorem kmj_length {l : Launch} {E : (Nat → Prop) → State → Prop} {D : va_G} {ou : Nat → Nat} {ca : Nat → ClassId} {n : Nat} {f : Nat → Int32} {fz : am_V} (hE : hj_E E ou n f fz) : hg_Met l E D ou ca hyj_length prog_20_method_54_code 1 (some .int) 1 (prj_length n f) (fmj_length n f) := by
  refine am_met (B := kbj_length n f) (cuts := []) (nt := 5) (by decide +kernel) rfl rfl (hg_tys_ok ca) ?_ (by decide) (rlj_length n f) ?_ (rnj_length n f)
  · exact fun t ht => List.mem_cons_of_mem _ (hg_arr t ht)
  · intro a w hp ad p e R s m args below meth c hR X hEs hnm
    have hR1 : 1 ≤ R.frames ∧ 40 ≤ R.locals := by rw [hR]; exact ⟨Nat.le_refl _, Nat.le_refl _⟩
    have hN := hE.2.2 _ _ hEs
    refine ⟨kdj_length_ok, fun index ci fi mode hq => (am_no hq).elim, fun index ci fs hq => (am_no hq).elim, fun x v hq => (am_no hq).elim, ?_, hj_oa_ok hN.2.2.2.1, rfl, rfl, by rw [hR]; exact Nat.le_refl _, by rw [hR]; exact Nat.le_refl _⟩
    intro pc sel n0 pre0 f0 hq
    have hz : ∀ q ∈ kij_length n f, am_CK p l e R s m args below meth c D hn_cl (va_A (am_w ad ou ca w) s.heap.size) ou ca 1 q.1 q.2.2.1 q.2.2.2.1 q.2.2.2.2 := by
      refine am_allc (hj_gf (v := .inr (.inr 2)) X (fun _ => rfl) hN.2.2.1 (List.mem_cons_of_mem _ (gw_mem 1377 (by decide +kernel))) (kdj_length_ok (1, .getfield 9, 3) (List.mem_of_getElem? (i := 1) rfl))) (am_allc (am_ck_VO (n := 0) X hEs hE.1 (kmj_coder hE) (hg_good (gw_mem 371 (by decide +kernel))) rfl (List.mem_cons_of_mem _ (gw_mem 83 (by decide +kernel))) (List.mem_cons_of_mem _ (gw_mem 368 (by decide +kernel))) (List.mem_cons_of_mem _ (gw_mem 369 (by decide +kernel))) (List.mem_cons_of_mem _ (gw_mem 370 (by decide +kernel))) hN.1 (paj_coder n f) (by decide +kernel) ⟨Nat.le_trans (by decide) hR1.1, Nat.le_trans (by decide) hR1.2⟩ (kdj_length_ok (6, .invokevirtual 335, 3) (List.mem_of_getElem? (i := 4) rfl))) (am_all0))
    exact hz _ (am_as_mem hq)
def kdj_preIndex : List (Nat × Instr × Nat) := [(0, .iload_n 0, 1), (1, .ifCond .lt 8, 3), (4, .iload_n 0, 1), (5, .iload_n 1, 1), (6, .if_icmp .lt 10, 3), (16, .iload_n 0, 1), (17, .ireturn, 1)]
theorem kdj_preIndex_ok : ∀ q ∈ kdj_preIndex, decode prog_25_method_11_code q.1 = .ok q.2 := by decide +kernel
def hyj_preIndex : MethodName := ⟨"jdk/internal/util/Preconditions", "checkIndex", "(IILjava/util/function/BiFunction;)I"⟩
def kij_preIndex : List (Nat × Option (List Nat) × Nat × (List am_V → List am_C → Prop) × am_M) := []
noncomputable def kbj_preIndex (fz : am_V) : am_B := (kdj_preIndex, fun _ => none, hn_ty, fun _ => none, fun _ => none, fun _ => none, fun _ => none, 5, 3, (some .int))
def wpj_preIndex (p0 p1 : Int32) : Prop := ¬ p0 < 0 ∧ p0 < p1
abbrev prj_preIndex (fz : am_V) : List am_V → List am_C → Prop := fun a w => ∃ (p0 : Int32) (p1 : Int32), a = [.inl p0, .inl p1, fz] ∧ w = [] ∧ wpj_preIndex p0 p1
def fmj_preIndex (fz : am_V) : am_M := fun a _ => (some (.inl (am_i (am_an a 0))), [], 0, 0)
theorem rej_preIndex (fz : am_V) (p0 p1 : Int32) (hp : wpj_preIndex p0 p1) : am_lf (am_mk (kbj_preIndex fz) 0 0 0) [] (0, am_L0 [.inl p0, .inl p1, fz] 3, [], [], 0, 0) = some (some (.inl p0), []) := by
  refine am_lf_eq ?_
  generalize am_lf (am_mk (kbj_preIndex fz) 0 0 0) [] = kt
  refine am_cn (c := p0 < 0) hp.1 ?_
  refine am_ci (c := p0 < p1) hp.2 ?_
  rfl
theorem rnj_preIndex (fz : am_V) (hfz : fz = .inr (.inr 0) ∨ fz = .inr (.inr 3)) : ∀ (a : List am_V) (w : List am_C), prj_preIndex fz a w → ∃ n, am_ev (am_mk (kbj_preIndex fz) (fmj_preIndex fz a w).2.2.1 (fmj_preIndex fz a w).2.2.2 w.length) [] n (0, am_L0 a 3, [], w, 0, 0) = some ((fmj_preIndex fz a w).1, (fmj_preIndex fz a w).2.1) := by
  rintro a w ⟨p0, p1, rfl, rfl, hp⟩
  exact am_lf_ev (rej_preIndex fz p0 p1 hp)
theorem rlj_preIndex (fz : am_V) : ∀ (a : List am_V) (w : List am_C), prj_preIndex fz a w → a.length ≤ 3 := by
  rintro a w ⟨p0, p1, rfl, rfl, hp⟩
  exact Nat.le_of_ble_eq_true rfl
set_option maxRecDepth 100000 in
set_option maxHeartbeats 4000000 in
theorem kmj_preIndex {l : Launch} {E : (Nat → Prop) → State → Prop} {D : va_G} {ou : Nat → Nat} {ca : Nat → ClassId} {n : Nat} {f : Nat → Int32} {fz : am_V} (hE : hj_E E ou n f fz) : hg_Met l E D ou ca hyj_preIndex prog_25_method_11_code 3 (some .int) 0 (prj_preIndex fz) (fmj_preIndex fz) := by
  refine am_met (B := kbj_preIndex fz) (cuts := []) (nt := 5) (by decide +kernel) rfl rfl (hg_tys_ok ca) ?_ (by decide) (rlj_preIndex fz) ?_ (fun a w hp => rnj_preIndex fz hE.2.1 a w hp)
  · exact fun t ht => List.mem_cons_of_mem _ (hg_arr t ht)
  · intro a w hp ad p e R s m args below meth c hR X hEs hnm
    have hR1 : 0 ≤ R.frames ∧ 0 ≤ R.locals := by rw [hR]; exact ⟨Nat.le_refl _, Nat.le_refl _⟩
    have hN := hE.2.2 _ _ hEs
    refine ⟨kdj_preIndex_ok, fun index ci fi mode hq => (am_no hq).elim, fun index ci fs hq => (am_no hq).elim, fun x v hq => (am_no hq).elim, ?_, fun o t n f hq => (am_no hq).elim, rfl, rfl, by rw [hR]; exact Nat.le_refl _, by rw [hR]; exact Nat.le_refl _⟩
    intro pc sel n0 pre0 f0 hq
    exact (am_no hq).elim
def kdj_checkIndex : List (Nat × Instr × Nat) := [(0, .iload_n 0, 1), (1, .iload_n 1, 1), (2, .getstatic 1053, 3), (5, .invokestatic 1059, 3), (8, .pop, 1), (9, .return_, 1)]
theorem kdj_checkIndex_ok : ∀ q ∈ kdj_checkIndex, decode prog_20_method_155_code q.1 = .ok q.2 := by decide +kernel
def hyj_checkIndex : MethodName := ⟨"java/lang/String", "checkIndex", "(II)V"⟩
noncomputable def kij_checkIndex (fz : am_V) : List (Nat × Option (List Nat) × Nat × (List am_V → List am_C → Prop) × am_M) := [(2, some [], 0, prO_fm, fmO_fm fz), (5, some [], 3, prj_preIndex fz, fmj_preIndex fz)]
noncomputable def kbj_checkIndex (fz : am_V) : am_B := (kdj_checkIndex, fun _ => none, hn_ty, fun _ => none, fun _ => none, am_as (kij_checkIndex fz), fun _ => none, 5, 2, none)
def wpj_checkIndex (p0 p1 : Int32) : Prop := wpj_preIndex p0 p1
abbrev prj_checkIndex : List am_V → List am_C → Prop := fun a w => ∃ (p0 : Int32) (p1 : Int32), a = [.inl p0, .inl p1] ∧ w = [] ∧ wpj_checkIndex p0 p1
def fmj_checkIndex : am_M := fun _ _ => (none, [], 0, 0)
theorem fej_checkIndex (p0 p1 : Int32) : fmj_checkIndex [.inl p0, .inl p1] [] = (none, [], 0, 0) := rfl
theorem rej_checkIndex0 (p0 p1 : Int32) (hp : wpj_checkIndex p0 p1) : am_lf (am_mk (kbj_checkIndex (.inr (.inr 0))) 0 0 0) [] (0, am_L0 [.inl p0, .inl p1] 2, [], [], 0, 0) = some (none, []) := by
  refine am_lf_eq ?_
  generalize am_lf (am_mk (kbj_checkIndex (.inr (.inr 0))) 0 0 0) [] = kt
  refine am_cy (pre := prO_fm) (f := fmO_fm (.inr (.inr 0))) (a' := []) (wc := []) (w' := []) (r := (some (.inr (.inr 0)), [], 0, 0)) ?_ ?_ ?_ ?_ ?_ ?_ ?_ ?_ ?_ ?_
  · exact am_sow0 _
  · rfl
  · rfl
  · exact am_sub0 _
  · exact ⟨rfl, rfl⟩
  · rfl
  · rfl
  · rfl
  · exact am_mix0 _
  refine am_cy (pre := prj_preIndex (.inr (.inr 0))) (f := fmj_preIndex (.inr (.inr 0))) (a' := [.inl p0, .inl p1, (.inr (.inr 0))]) (wc := []) (w' := []) (r := (some (.inl p0), [], 0, 0)) ?_ ?_ ?_ ?_ ?_ ?_ ?_ ?_ ?_ ?_
  · exact am_sow0 _
  · rfl
  · rfl
  · exact am_sub0 _
  · exact ⟨p0, p1, rfl, rfl, hp⟩
  · rfl
  · rfl
  · rfl
  · exact am_mix0 _
  rfl
theorem rej_checkIndex3 (p0 p1 : Int32) (hp : wpj_checkIndex p0 p1) : am_lf (am_mk (kbj_checkIndex (.inr (.inr 3))) 0 0 0) [] (0, am_L0 [.inl p0, .inl p1] 2, [], [], 0, 0) = some (none, []) := by
  refine am_lf_eq ?_
  generalize am_lf (am_mk (kbj_checkIndex (.inr (.inr 3))) 0 0 0) [] = kt
  refine am_cy (pre := prO_fm) (f := fmO_fm (.inr (.inr 3))) (a' := []) (wc := []) (w' := []) (r := (some (.inr (.inr 3)), [], 0, 0)) ?_ ?_ ?_ ?_ ?_ ?_ ?_ ?_ ?_ ?_
  · exact am_sow0 _
  · rfl
  · rfl
  · exact am_sub0 _
  · exact ⟨rfl, rfl⟩
  · rfl
  · rfl
  · rfl
  · exact am_mix0 _
  refine am_cy (pre := prj_preIndex (.inr (.inr 3))) (f := fmj_preIndex (.inr (.inr 3))) (a' := [.inl p0, .inl p1, (.inr (.inr 3))]) (wc := []) (w' := []) (r := (some (.inl p0), [], 0, 0)) ?_ ?_ ?_ ?_ ?_ ?_ ?_ ?_ ?_ ?_
  · exact am_sow0 _
  · rfl
  · rfl
  · exact am_sub0 _
  · exact ⟨p0, p1, rfl, rfl, hp⟩
  · rfl
  · rfl
  · rfl
  · exact am_mix0 _
  rfl
theorem rnj_checkIndex (fz : am_V) (hfz : fz = .inr (.inr 0) ∨ fz = .inr (.inr 3)) : ∀ (a : List am_V) (w : List am_C), prj_checkIndex a w → ∃ n, am_ev (am_mk (kbj_checkIndex fz) (fmj_checkIndex a w).2.2.1 (fmj_checkIndex a w).2.2.2 w.length) [] n (0, am_L0 a 2, [], w, 0, 0) = some ((fmj_checkIndex a w).1, (fmj_checkIndex a w).2.1) := by
  rintro a w ⟨p0, p1, rfl, rfl, hp⟩
  rcases hfz with rfl | rfl
  · exact am_lf_ev (rej_checkIndex0 p0 p1 hp)
  · exact am_lf_ev (rej_checkIndex3 p0 p1 hp)
theorem rlj_checkIndex : ∀ (a : List am_V) (w : List am_C), prj_checkIndex a w → a.length ≤ 2 := by
  rintro a w ⟨p0, p1, rfl, rfl, hp⟩
  exact Nat.le_of_ble_eq_true rfl
set_option maxRecDepth 100000 in
set_option maxHeartbeats 4000000 in
theorem kmj_checkIndex {l : Launch} {E : (Nat → Prop) → State → Prop} {D : va_G} {ou : Nat → Nat} {ca : Nat → ClassId} {n : Nat} {f : Nat → Int32} {fz : am_V} (hE : hj_E E ou n f fz) : hg_Met l E D ou ca hyj_checkIndex prog_20_method_155_code 2 none 1 (prj_checkIndex) (fmj_checkIndex) := by
  refine am_met (B := kbj_checkIndex fz) (cuts := []) (nt := 5) (by decide +kernel) rfl rfl (hg_tys_ok ca) ?_ (by decide) (rlj_checkIndex) ?_ (fun a w hp => rnj_checkIndex fz hE.2.1 a w hp)
  · exact fun t ht => List.mem_cons_of_mem _ (hg_arr t ht)
  · intro a w hp ad p e R s m args below meth c hR X hEs hnm
    have hR1 : 1 ≤ R.frames ∧ 40 ≤ R.locals := by rw [hR]; exact ⟨Nat.le_refl _, Nat.le_refl _⟩
    have hN := hE.2.2 _ _ hEs
    refine ⟨kdj_checkIndex_ok, fun index ci fi mode hq => (am_no hq).elim, fun index ci fs hq => (am_no hq).elim, fun x v hq => (am_no hq).elim, ?_, fun o t n f hq => (am_no hq).elim, rfl, rfl, by rw [hR]; exact Nat.le_refl _, by rw [hR]; exact Nat.le_refl _⟩
    intro pc sel n0 pre0 f0 hq
    have hz : ∀ q ∈ kij_checkIndex fz, am_CK p l e R s m args below meth c D hn_cl (va_A (am_w ad ou ca w) s.heap.size) ou ca 2 q.1 q.2.2.1 q.2.2.2.1 q.2.2.2.2 := by
      refine am_allc (hj_gs (fz := fz) X (fun _ => by rcases hE.2.1 with h | h <;> rw [h] <;> rfl) hN.2.2.2.2.2 (List.mem_cons_of_mem _ (gw_mem 389 (by decide +kernel))) (kdj_checkIndex_ok (2, .getstatic 1053, 3) (List.mem_of_getElem? (i := 2) rfl))) (am_allc (am_ck_S (n := 3) X hEs hE.1 (kmj_preIndex hE) (hg_good (gw_mem 393 (by decide +kernel))) rfl (List.mem_cons_of_mem _ (gw_mem 85 (by decide +kernel))) (List.mem_cons_of_mem _ (gw_mem 391 (by decide +kernel))) (List.mem_cons_of_mem _ (gw_mem 392 (by decide +kernel))) (by decide +kernel) ⟨Nat.le_trans (by decide) hR1.1, Nat.le_trans (by decide) hR1.2⟩ (kdj_checkIndex_ok (5, .invokestatic 1059, 3) (List.mem_of_getElem? (i := 3) rfl))) (am_all0))
    exact hz _ (am_as_mem hq)
def kdj_l1charAt : List (Nat × Instr × Nat) := [(0, .iload_n 1, 1), (1, .aload_n 0, 1), (2, .arraylength, 1), (3, .invokestatic 9, 3), (6, .aload_n 0, 1), (7, .iload_n 1, 1), (8, .baload, 1), (9, .sipush 255, 3), (12, .iand, 1), (13, .i2c, 1), (14, .ireturn, 1)]
theorem kdj_l1charAt_ok : ∀ q ∈ kdj_l1charAt, decode prog_21_method_2_code q.1 = .ok q.2 := by decide +kernel
def hyj_l1charAt : MethodName := ⟨"java/lang/StringLatin1", "charAt", "([BI)C"⟩
noncomputable def kij_l1charAt (n : Nat) (f : Nat → Int32) : List (Nat × Option (List Nat) × Nat × (List am_V → List am_C → Prop) × am_M) := [(3, some [], 2, prj_checkIndex, fmj_checkIndex)]
noncomputable def kbj_l1charAt (n : Nat) (f : Nat → Int32) : am_B := (kdj_l1charAt, fun _ => none, hn_ty, fun _ => none, fun _ => none, am_as (kij_l1charAt n f), hj_oa n f, 5, 2, (some .char))
noncomputable def fnj_l1charAt (n : Nat) (f : Nat → Int32) (p1 : Int32) : Int32 := Classical.choose (⟨_, rfl⟩ : ∃ z : Int32, z = (((((f (p1).toNatClampNeg) &&& (255 : Int32))).toUInt32 % 65536).toInt32))
theorem fqj_l1charAt (n : Nat) (f : Nat → Int32) (p1 : Int32) : fnj_l1charAt n f p1 = (((((f (p1).toNatClampNeg) &&& (255 : Int32))).toUInt32 % 65536).toInt32) := Classical.choose_spec (⟨_, rfl⟩ : ∃ z : Int32, z = (((((f (p1).toNatClampNeg) &&& (255 : Int32))).toUInt32 % 65536).toInt32))
def wpj_l1charAt (n : Nat) (f : Nat → Int32) (p1 : Int32) : Prop := ((wpj_checkIndex p1 (Int32.ofNat n)) ∧ (am_inb p1 n = true ∧ (am_fit .char (.inl (((((f (p1).toNatClampNeg) &&& (255 : Int32))).toUInt32 % 65536).toInt32)) = true)))
set_option maxRecDepth 100000 in
set_option maxHeartbeats 4000000 in
theorem rej_l1charAt (n : Nat) (f : Nat → Int32) (p1 : Int32) (hp : wpj_l1charAt n f p1) : am_lf (am_mk (kbj_l1charAt n f) 0 0 0) [] (0, am_L0 [.inr (.inr 2), .inl p1] 2, [], [], 0, 0) = some (some (.inl (fnj_l1charAt n f p1)), []) := by
  unfold wpj_l1charAt at hp
  refine am_lf_eq ?_
  generalize am_lf (am_mk (kbj_l1charAt n f) 0 0 0) [] = kt
  refine am_cy (pre := prj_checkIndex) (f := fmj_checkIndex) (a' := [.inl p1, .inl (Int32.ofNat n)]) (wc := []) (w' := []) (r := (none, [], 0, 0)) ?_ ?_ ?_ ?_ ?_ ?_ ?_ ?_ ?_ ?_
  · exact am_sow0 _
  · rfl
  · rfl
  · exact am_sub0 _
  · exact ⟨p1, (Int32.ofNat n), rfl, rfl, hp.1⟩
  · exact fej_checkIndex p1 (Int32.ofNat n)
  · exact rfl
  · rfl
  · exact am_mix0 _
  refine am_ci (c := am_inb p1 n = true) hp.2.1 ?_
  refine am_ci (c := am_fit .char (.inl (((((f (p1).toNatClampNeg) &&& (255 : Int32))).toUInt32 % 65536).toInt32)) = true) hp.2.2 ?_
  have e : fnj_l1charAt n f p1 = (((((f (p1).toNatClampNeg) &&& (255 : Int32))).toUInt32 % 65536).toInt32) := by
    rw [fqj_l1charAt]
  rw [e] <;> rfl
abbrev prj_l1charAt (n : Nat) (f : Nat → Int32) : List am_V → List am_C → Prop := fun a w => ∃ (p1 : Int32), a = [.inr (.inr 2), .inl p1] ∧ w = [] ∧ wpj_l1charAt n f p1
noncomputable def fmj_l1charAt (n : Nat) (f : Nat → Int32) : am_M := fun a w => (fun (z : Int32) => (some (.inl z), [], 0, 0)) (fnj_l1charAt n f (am_i (am_an a 1)))
theorem fej_l1charAt (n : Nat) (f : Nat → Int32) (p1 : Int32) : fmj_l1charAt n f [.inr (.inr 2), .inl p1] [] = (some (.inl (fnj_l1charAt n f p1)), [], 0, 0) := rfl
set_option maxRecDepth 100000 in
set_option maxHeartbeats 4000000 in
theorem rnj_l1charAt (n : Nat) (f : Nat → Int32) : ∀ (a : List am_V) (w : List am_C), prj_l1charAt n f a w → ∃ nq, am_ev (am_mk (kbj_l1charAt n f) (fmj_l1charAt n f a w).2.2.1 (fmj_l1charAt n f a w).2.2.2 w.length) [] nq (0, am_L0 a 2, [], w, 0, 0) = some ((fmj_l1charAt n f a w).1, (fmj_l1charAt n f a w).2.1) := by
  rintro a w ⟨p1, rfl, rfl, hp⟩
  rw [fej_l1charAt n f p1]
  exact am_lf_ev (rej_l1charAt n f p1 hp)
theorem rlj_l1charAt (n : Nat) (f : Nat → Int32) : ∀ (a : List am_V) (w : List am_C), prj_l1charAt n f a w → a.length ≤ 2 := by
  rintro a w ⟨p1, rfl, rfl, hp⟩
  exact Nat.le_of_ble_eq_true rfl
set_option maxRecDepth 100000 in
set_option maxHeartbeats 4000000 in
theorem kmj_l1charAt {l : Launch} {E : (Nat → Prop) → State → Prop} {D : va_G} {ou : Nat → Nat} {ca : Nat → ClassId} {n : Nat} {f : Nat → Int32} {fz : am_V} (hE : hj_E E ou n f fz) : hg_Met l E D ou ca hyj_l1charAt prog_21_method_2_code 2 (some .char) 2 (prj_l1charAt n f) (fmj_l1charAt n f) := by
  refine am_met (B := kbj_l1charAt n f) (cuts := []) (nt := 5) (by decide +kernel) rfl rfl (hg_tys_ok ca) ?_ (by decide) (rlj_l1charAt n f) ?_ (rnj_l1charAt n f)
  · exact fun t ht => List.mem_cons_of_mem _ (hg_arr t ht)
  · intro a w hp ad p e R s m args below meth c hR X hEs hnm
    have hR1 : 2 ≤ R.frames ∧ 80 ≤ R.locals := by rw [hR]; exact ⟨Nat.le_refl _, Nat.le_refl _⟩
    have hN := hE.2.2 _ _ hEs
    refine ⟨kdj_l1charAt_ok, fun index ci fi mode hq => (am_no hq).elim, fun index ci fs hq => (am_no hq).elim, fun x v hq => (am_no hq).elim, ?_, hj_oa_ok hN.2.2.2.1, rfl, rfl, by rw [hR]; exact Nat.le_refl _, by rw [hR]; exact Nat.le_refl _⟩
    intro pc sel n0 pre0 f0 hq
    have hz : ∀ q ∈ kij_l1charAt n f, am_CK p l e R s m args below meth c D hn_cl (va_A (am_w ad ou ca w) s.heap.size) ou ca 2 q.1 q.2.2.1 q.2.2.2.1 q.2.2.2.2 := by
      refine am_allc (am_ck_S (n := 2) X hEs hE.1 (kmj_checkIndex hE) (hg_good (gw_mem 388 (by decide +kernel))) rfl (List.mem_cons_of_mem _ (gw_mem 83 (by decide +kernel))) (List.mem_cons_of_mem _ (gw_mem 386 (by decide +kernel))) (List.mem_cons_of_mem _ (gw_mem 387 (by decide +kernel))) (by decide +kernel) ⟨Nat.le_trans (by decide) hR1.1, Nat.le_trans (by decide) hR1.2⟩ (kdj_l1charAt_ok (3, .invokestatic 9, 3) (List.mem_of_getElem? (i := 3) rfl))) (am_all0)
    exact hz _ (am_as_mem hq)
def kdj_charAt : List (Nat × Instr × Nat) := [(0, .aload_n 0, 1), (1, .invokevirtual 492, 3), (4, .ifCond .eq 12, 3), (7, .aload_n 0, 1), (8, .getfield 9, 3), (11, .iload_n 1, 1), (12, .invokestatic 495, 3), (15, .ireturn, 1)]
theorem kdj_charAt_ok : ∀ q ∈ kdj_charAt, decode prog_20_method_56_code q.1 = .ok q.2 := by decide +kernel
def hyj_charAt : MethodName := ⟨"java/lang/String", "charAt", "(I)C"⟩
noncomputable def kij_charAt (n : Nat) (f : Nat → Int32) : List (Nat × Option (List Nat) × Nat × (List am_V → List am_C → Prop) × am_M) := [(1, some [], 1, prj_isLatin1 n f, fmj_isLatin1 n f), (8, some [], 1, prO_value, fmO_value), (12, some [], 2, prj_l1charAt n f, fmj_l1charAt n f)]
noncomputable def kbj_charAt (n : Nat) (f : Nat → Int32) : am_B := (kdj_charAt, fun _ => none, hn_ty, fun _ => none, fun _ => none, am_as (kij_charAt n f), hj_oa n f, 5, 2, (some .char))
noncomputable def fnj_charAt (n : Nat) (f : Nat → Int32) (p0 : Int32) : Int32 := Classical.choose (⟨_, rfl⟩ : ∃ z : Int32, z = (fnj_l1charAt n f p0))
theorem fqj_charAt (n : Nat) (f : Nat → Int32) (p0 : Int32) : fnj_charAt n f p0 = (fnj_l1charAt n f p0) := Classical.choose_spec (⟨_, rfl⟩ : ∃ z : Int32, z = (fnj_l1charAt n f p0))
def wpj_charAt (n : Nat) (f : Nat → Int32) (p0 : Int32) : Prop := ((wpj_isLatin1 n f) ∧ ((wpj_l1charAt n f p0) ∧ (am_fit .char (.inl (fnj_l1charAt n f p0)) = true)))
set_option maxRecDepth 100000 in
set_option maxHeartbeats 4000000 in
theorem rej_charAt (n : Nat) (f : Nat → Int32) (p0 : Int32) (hp : wpj_charAt n f p0) : am_lf (am_mk (kbj_charAt n f) 0 0 0) [] (0, am_L0 [.inr (.inr 1), .inl p0] 2, [], [], 0, 0) = some (some (.inl (fnj_charAt n f p0)), []) := by
  unfold wpj_charAt at hp
  refine am_lf_eq ?_
  generalize am_lf (am_mk (kbj_charAt n f) 0 0 0) [] = kt
  refine am_cy (pre := prj_isLatin1 n f) (f := fmj_isLatin1 n f) (a' := [.inr (.inr 1)]) (wc := []) (w' := []) (r := (some (.inl (1 : Int32)), [], 0, 0)) ?_ ?_ ?_ ?_ ?_ ?_ ?_ ?_ ?_ ?_
  · exact am_sow0 _
  · rfl
  · rfl
  · exact am_sub0 _
  · exact ⟨rfl, rfl, hp.1⟩
  · exact fej_isLatin1 n f
  · exact rfl
  · rfl
  · exact am_mix0 _
  refine am_cy (pre := prO_value) (f := fmO_value) (a' := [.inr (.inr 1)]) (wc := []) (w' := []) (r := (some (.inr (.inr 2)), [], 0, 0)) ?_ ?_ ?_ ?_ ?_ ?_ ?_ ?_ ?_ ?_
  · exact am_sow0 _
  · rfl
  · rfl
  · exact am_sub0 _
  · exact ⟨rfl, rfl⟩
  · rfl
  · rfl
  · rfl
  · exact am_mix0 _
  refine am_cy (pre := prj_l1charAt n f) (f := fmj_l1charAt n f) (a' := [.inr (.inr 2), .inl p0]) (wc := []) (w' := []) (r := (some (.inl (fnj_l1charAt n f p0)), [], 0, 0)) ?_ ?_ ?_ ?_ ?_ ?_ ?_ ?_ ?_ ?_
  · exact am_sow0 _
  · rfl
  · rfl
  · exact am_sub0 _
  · exact ⟨p0, rfl, rfl, hp.2.1⟩
  · exact fej_l1charAt n f p0
  · exact rfl
  · rfl
  · exact am_mix0 _
  refine am_ci (c := am_fit .char (.inl (fnj_l1charAt n f p0)) = true) hp.2.2 ?_
  have e : fnj_charAt n f p0 = (fnj_l1charAt n f p0) := by
    rw [fqj_charAt]
  rw [e] <;> rfl
abbrev prj_charAt (n : Nat) (f : Nat → Int32) : List am_V → List am_C → Prop := fun a w => ∃ (p0 : Int32), a = [.inr (.inr 1), .inl p0] ∧ w = [] ∧ wpj_charAt n f p0
noncomputable def fmj_charAt (n : Nat) (f : Nat → Int32) : am_M := fun a w => (fun (z : Int32) => (some (.inl z), [], 0, 0)) (fnj_charAt n f (am_i (am_an a 1)))
theorem fej_charAt (n : Nat) (f : Nat → Int32) (p0 : Int32) : fmj_charAt n f [.inr (.inr 1), .inl p0] [] = (some (.inl (fnj_charAt n f p0)), [], 0, 0) := rfl
set_option maxRecDepth 100000 in
set_option maxHeartbeats 4000000 in
theorem rnj_charAt (n : Nat) (f : Nat → Int32) : ∀ (a : List am_V) (w : List am_C), prj_charAt n f a w → ∃ nq, am_ev (am_mk (kbj_charAt n f) (fmj_charAt n f a w).2.2.1 (fmj_charAt n f a w).2.2.2 w.length) [] nq (0, am_L0 a 2, [], w, 0, 0) = some ((fmj_charAt n f a w).1, (fmj_charAt n f a w).2.1) := by
  rintro a w ⟨p0, rfl, rfl, hp⟩
  rw [fej_charAt n f p0]
  exact am_lf_ev (rej_charAt n f p0 hp)
theorem rlj_charAt (n : Nat) (f : Nat → Int32) : ∀ (a : List am_V) (w : List am_C), prj_charAt n f a w → a.length ≤ 2 := by
  rintro a w ⟨p0, rfl, rfl, hp⟩
  exact Nat.le_of_ble_eq_true rfl
theorem paj_charAt (n : Nat) (f : Nat → Int32) : ∀ a w, prj_charAt n f a w → ∃ a', a = .inr (.inr 1) :: a' := by
  rintro a w ⟨p0, rfl, rfl, hp⟩
  exact ⟨_, rfl⟩
set_option maxRecDepth 100000 in
set_option maxHeartbeats 4000000 in
theorem kmj_charAt {l : Launch} {E : (Nat → Prop) → State → Prop} {D : va_G} {ou : Nat → Nat} {ca : Nat → ClassId} {n : Nat} {f : Nat → Int32} {fz : am_V} (hE : hj_E E ou n f fz) : hg_Met l E D ou ca hyj_charAt prog_20_method_56_code 2 (some .char) 3 (prj_charAt n f) (fmj_charAt n f) := by
  refine am_met (B := kbj_charAt n f) (cuts := []) (nt := 5) (by decide +kernel) rfl rfl (hg_tys_ok ca) ?_ (by decide) (rlj_charAt n f) ?_ (rnj_charAt n f)
  · exact fun t ht => List.mem_cons_of_mem _ (hg_arr t ht)
  · intro a w hp ad p e R s m args below meth c hR X hEs hnm
    have hR1 : 3 ≤ R.frames ∧ 120 ≤ R.locals := by rw [hR]; exact ⟨Nat.le_refl _, Nat.le_refl _⟩
    have hN := hE.2.2 _ _ hEs
    refine ⟨kdj_charAt_ok, fun index ci fi mode hq => (am_no hq).elim, fun index ci fs hq => (am_no hq).elim, fun x v hq => (am_no hq).elim, ?_, hj_oa_ok hN.2.2.2.1, rfl, rfl, by rw [hR]; exact Nat.le_refl _, by rw [hR]; exact Nat.le_refl _⟩
    intro pc sel n0 pre0 f0 hq
    have hz : ∀ q ∈ kij_charAt n f, am_CK p l e R s m args below meth c D hn_cl (va_A (am_w ad ou ca w) s.heap.size) ou ca 2 q.1 q.2.2.1 q.2.2.2.1 q.2.2.2.2 := by
      refine am_allc (am_ck_VO (n := 0) X hEs hE.1 (kmj_isLatin1 hE) (hg_good (gw_mem 382 (by decide +kernel))) rfl (List.mem_cons_of_mem _ (gw_mem 83 (by decide +kernel))) (List.mem_cons_of_mem _ (gw_mem 379 (by decide +kernel))) (List.mem_cons_of_mem _ (gw_mem 380 (by decide +kernel))) (List.mem_cons_of_mem _ (gw_mem 381 (by decide +kernel))) hN.1 (paj_isLatin1 n f) (by decide +kernel) ⟨Nat.le_trans (by decide) hR1.1, Nat.le_trans (by decide) hR1.2⟩ (kdj_charAt_ok (1, .invokevirtual 492, 3) (List.mem_of_getElem? (i := 1) rfl))) (am_allc (hj_gf (v := .inr (.inr 2)) X (fun _ => rfl) hN.2.2.1 (List.mem_cons_of_mem _ (gw_mem 1377 (by decide +kernel))) (kdj_charAt_ok (8, .getfield 9, 3) (List.mem_of_getElem? (i := 4) rfl))) (am_allc (am_ck_S (n := 2) X hEs hE.1 (kmj_l1charAt hE) (hg_good (gw_mem 385 (by decide +kernel))) rfl (List.mem_cons_of_mem _ (gw_mem 84 (by decide +kernel))) (List.mem_cons_of_mem _ (gw_mem 383 (by decide +kernel))) (List.mem_cons_of_mem _ (gw_mem 384 (by decide +kernel))) (by decide +kernel) ⟨Nat.le_trans (by decide) hR1.1, Nat.le_trans (by decide) hR1.2⟩ (kdj_charAt_ok (12, .invokestatic 495, 3) (List.mem_of_getElem? (i := 6) rfl))) (am_all0)))
    exact hz _ (am_as_mem hq)
def kdj_canEncode : List (Nat × Instr × Nat) := [(0, .iload_n 0, 1), (1, .ifCond .lt 14, 3), (4, .iload_n 0, 1), (5, .sipush 255, 3), (8, .if_icmp .gt 7, 3), (11, .iconst 1, 1), (12, .goto 4, 3), (15, .iconst 0, 1), (16, .ireturn, 1)]
theorem kdj_canEncode_ok : ∀ q ∈ kdj_canEncode, decode prog_21_method_4_code q.1 = .ok q.2 := by decide +kernel
def hyj_canEncode : MethodName := ⟨"java/lang/StringLatin1", "canEncode", "(I)Z"⟩
noncomputable def kij_canEncode : List (Nat × Option (List Nat) × Nat × (List am_V → List am_C → Prop) × am_M) := []
noncomputable def kbj_canEncode : am_B := (kdj_canEncode, fun _ => none, hn_ty, fun _ => none, fun _ => none, am_as kij_canEncode, fun _ => none, 5, 1, (some .boolean))
noncomputable def fnj_canEncode (p0 : Int32) : Int32 := Classical.choose (⟨_, rfl⟩ : ∃ z : Int32, z = (if p0 < 0 then (0 : Int32) else (if (255 : Int32) < p0 then (0 : Int32) else (1 : Int32))))
theorem fqj_canEncode (p0 : Int32) : fnj_canEncode p0 = (if p0 < 0 then (0 : Int32) else (if (255 : Int32) < p0 then (0 : Int32) else (1 : Int32))) := Classical.choose_spec (⟨_, rfl⟩ : ∃ z : Int32, z = (if p0 < 0 then (0 : Int32) else (if (255 : Int32) < p0 then (0 : Int32) else (1 : Int32))))
def wpj_canEncode (p0 : Int32) : Prop := True
set_option maxRecDepth 100000 in
set_option maxHeartbeats 4000000 in
theorem rej_canEncode (p0 : Int32) (hp : wpj_canEncode p0) : am_lf (am_mk kbj_canEncode 0 0 0) [] (0, am_L0 [.inl p0] 1, [], [], 0, 0) = some (some (.inl (fnj_canEncode p0)), []) := by
  unfold wpj_canEncode at hp
  refine am_lf_eq ?_
  generalize am_lf (am_mk kbj_canEncode 0 0 0) [] = kt
  refine am_if (c := p0 < 0) (fun h1 => ?_) (fun h1 => ?_)
  · have e : fnj_canEncode p0 = (0 : Int32) := by
      rw [fqj_canEncode]
      rw [if_pos h1]
    rw [e] <;> rfl
  · refine am_if (c := (255 : Int32) < p0) (fun h2 => ?_) (fun h2 => ?_)
    · have e : fnj_canEncode p0 = (0 : Int32) := by
        rw [fqj_canEncode]
        rw [if_neg h1, if_pos h2]
      rw [e] <;> rfl
    · have e : fnj_canEncode p0 = (1 : Int32) := by
        rw [fqj_canEncode]
        rw [if_neg h1, if_neg h2]
      rw [e] <;> rfl
abbrev prj_canEncode : List am_V → List am_C → Prop := fun a w => ∃ (p0 : Int32), a = [.inl p0] ∧ w = [] ∧ wpj_canEncode p0
noncomputable def fmj_canEncode : am_M := fun a w => (fun (z : Int32) => (some (.inl z), [], 0, 0)) (fnj_canEncode (am_i (am_an a 0)))
theorem fej_canEncode (p0 : Int32) : fmj_canEncode [.inl p0] [] = (some (.inl (fnj_canEncode p0)), [], 0, 0) := rfl
set_option maxRecDepth 100000 in
set_option maxHeartbeats 4000000 in
theorem rnj_canEncode : ∀ (a : List am_V) (w : List am_C), prj_canEncode a w → ∃ nq, am_ev (am_mk kbj_canEncode (fmj_canEncode a w).2.2.1 (fmj_canEncode a w).2.2.2 w.length) [] nq (0, am_L0 a 1, [], w, 0, 0) = some ((fmj_canEncode a w).1, (fmj_canEncode a w).2.1) := by
  rintro a w ⟨p0, rfl, rfl, hp⟩
  rw [fej_canEncode p0]
  exact am_lf_ev (rej_canEncode p0 hp)
theorem rlj_canEncode : ∀ (a : List am_V) (w : List am_C), prj_canEncode a w → a.length ≤ 1 := by
  rintro a w ⟨p0, rfl, rfl, hp⟩
  exact Nat.le_of_ble_eq_true rfl
set_option maxRecDepth 100000 in
set_option maxHeartbeats 4000000 in
theorem kmj_canEncode {l : Launch} {E : (Nat → Prop) → State → Prop} {D : va_G} {ou : Nat → Nat} {ca : Nat → ClassId} {n : Nat} {f : Nat → Int32} {fz : am_V} (hE : hj_E E ou n f fz) : hg_Met l E D ou ca hyj_canEncode prog_21_method_4_code 1 (some .boolean) 0 (prj_canEncode) (fmj_canEncode) := by
  refine am_met (B := kbj_canEncode) (cuts := []) (nt := 5) (by decide +kernel) rfl rfl (hg_tys_ok ca) ?_ (by decide) (rlj_canEncode) ?_ (rnj_canEncode)
  · exact fun t ht => List.mem_cons_of_mem _ (hg_arr t ht)
  · intro a w hp ad p e R s m args below meth c hR X hEs hnm
    have hR1 : 0 ≤ R.frames ∧ 0 ≤ R.locals := by rw [hR]; exact ⟨Nat.le_refl _, Nat.le_refl _⟩
    have hN := hE.2.2 _ _ hEs
    refine ⟨kdj_canEncode_ok, fun index ci fi mode hq => (am_no hq).elim, fun index ci fs hq => (am_no hq).elim, fun x v hq => (am_no hq).elim, ?_, fun o t n f hq => (am_no hq).elim, rfl, rfl, by rw [hR]; exact Nat.le_refl _, by rw [hR]; exact Nat.le_refl _⟩
    intro pc sel n0 pre0 f0 hq
    exact (am_no hq).elim
def kdj_ixChar : List (Nat × Instr × Nat) := [(0, .iload_n 1, 1), (1, .i2b, 1), (2, .istore 4, 2), (4, .iload_n 2, 1), (5, .istore 5, 2), (7, .iload 5, 2), (9, .iload_n 3, 1), (10, .if_icmp .ge 21, 3), (13, .aload_n 0, 1), (14, .iload 5, 2), (16, .baload, 1), (17, .iload 4, 2), (19, .if_icmp .ne 6, 3), (22, .iload 5, 2), (24, .ireturn, 1), (25, .iinc 5 1, 3), (28, .goto (-21), 3), (31, .iconst (-1), 1), (32, .ireturn, 1)]
theorem kdj_ixChar_ok : ∀ q ∈ kdj_ixChar, decode prog_21_method_23_code q.1 = .ok q.2 := by decide +kernel
def hyj_ixChar : MethodName := ⟨"java/lang/StringLatin1", "indexOfChar", "([BIII)I"⟩
noncomputable def kij_ixChar (n : Nat) (f : Nat → Int32) : List (Nat × Option (List Nat) × Nat × (List am_V → List am_C → Prop) × am_M) := []
noncomputable def kbj_ixChar (n : Nat) (f : Nat → Int32) : am_B := (kdj_ixChar, fun _ => none, hn_ty, fun _ => none, fun _ => none, am_as (kij_ixChar n f), hj_oa n f, 5, 6, (some .int))
noncomputable def fnj_ixChar_c7 : Nat → (Nat) → (Nat → Int32) → Int32 → Int32 → Int32 → Int32
  | 0, _, _, _, _, _ => 0
  | fu + 1, n, f, v3, v4, v5 => (if v3 ≤ v5 then (-1 : Int32) else (if (f (v5).toNatClampNeg) = v4 then v5 else (fnj_ixChar_c7 fu n f v3 v4 (v5 + (1 : Int32)))))
def wpj_ixChar_c7 : Nat → (Nat) → (Nat → Int32) → Int32 → Int32 → Int32 → Prop
  | 0, _, _, _, _, _ => False
  | fu + 1, n, f, v3, v4, v5 => ((v3 ≤ v5 → True) ∧ (¬ v3 ≤ v5 → (am_inb v5 n = true ∧ (((f (v5).toNatClampNeg) = v4 → True) ∧ (¬ (f (v5).toNatClampNeg) = v4 → (wpj_ixChar_c7 fu n f v3 v4 (v5 + (1 : Int32))))))))
set_option maxRecDepth 100000 in
set_option maxHeartbeats 4000000 in
theorem rcj_ixChar_7 (n : Nat) (f : Nat → Int32) : ∀ (fu : Nat) (v3 : Int32) (v4 : Int32) (v5 : Int32) (j1 : Option am_V) (j2 : Option am_V) (g1 : am_loO 0 j1 = true) (g2 : am_loO 0 j2 = true) , wpj_ixChar_c7 fu n f v3 v4 v5 → am_lf (am_mk (kbj_ixChar n f) 0 0 0) [7] (7, [some (.inr (.inr 2)), j1, j2, some (.inl v3), some (.inl v4), some (.inl v5)], [], [], 0, 0) = some (some (.inl (fnj_ixChar_c7 fu n f v3 v4 v5)), []) := by
  intro fu
  induction fu with
  | zero =>
    intro v3 v4 v5 j1 j2 g1 g2 hp
    exact hp.elim
  | succ fu ih =>
    intro v3 v4 v5 j1 j2 g1 g2 hp
    unfold wpj_ixChar_c7 at hp
    refine am_lf_eq ?_
    generalize am_lf (am_mk (kbj_ixChar n f) 0 0 0) [7] = kt at ih ⊢
    refine am_if (c := v3 ≤ v5) (fun h2 => ?_) (fun h2 => ?_)
    · have e : fnj_ixChar_c7 (fu + 1) n f v3 v4 v5 = (-1 : Int32) := by
        rw [fnj_ixChar_c7]
        rw [if_pos h2]
      rw [e] <;> rfl
    · have q2 := hp.2 h2
      refine am_ci (c := am_inb v5 n = true) q2.1 ?_
      refine am_if (c := (f (v5).toNatClampNeg) = v4) (fun h3 => ?_) (fun h3 => ?_)
      · have e : fnj_ixChar_c7 (fu + 1) n f v3 v4 v5 = v5 := by
          rw [fnj_ixChar_c7]
          rw [if_neg h2, if_pos h3]
        rw [e] <;> rfl
      · have q3 := q2.2.2 h3
        have e : fnj_ixChar_c7 (fu + 1) n f v3 v4 v5 = fnj_ixChar_c7 fu n f v3 v4 (v5 + (1 : Int32)) := by
          rw [fnj_ixChar_c7]
          rw [if_neg h2, if_neg h3]
        rw [e]
        exact ih v3 v4 (v5 + (1 : Int32)) _ _ g1 g2 q3
noncomputable def fnj_ixChar (n : Nat) (f : Nat → Int32) (p1 : Int32) (p2 : Int32) (p3 : Int32) : Int32 := Classical.choose (⟨_, rfl⟩ : ∃ z : Int32, z = (fnj_ixChar_c7 hg_fu n f p3 ((p1).toInt8.toInt32) p2))
theorem fqj_ixChar (n : Nat) (f : Nat → Int32) (p1 : Int32) (p2 : Int32) (p3 : Int32) : fnj_ixChar n f p1 p2 p3 = (fnj_ixChar_c7 hg_fu n f p3 ((p1).toInt8.toInt32) p2) := Classical.choose_spec (⟨_, rfl⟩ : ∃ z : Int32, z = (fnj_ixChar_c7 hg_fu n f p3 ((p1).toInt8.toInt32) p2))
def wpj_ixChar (n : Nat) (f : Nat → Int32) (p1 : Int32) (p2 : Int32) (p3 : Int32) : Prop := (wpj_ixChar_c7 hg_fu n f p3 ((p1).toInt8.toInt32) p2)
set_option maxRecDepth 100000 in
set_option maxHeartbeats 4000000 in
theorem rej_ixChar (n : Nat) (f : Nat → Int32) (p1 : Int32) (p2 : Int32) (p3 : Int32) (hp : wpj_ixChar n f p1 p2 p3) : am_lf (am_mk (kbj_ixChar n f) 0 0 0) [7] (0, am_L0 [.inr (.inr 2), .inl p1, .inl p2, .inl p3] 6, [], [], 0, 0) = some (some (.inl (fnj_ixChar n f p1 p2 p3)), []) := by
  unfold wpj_ixChar at hp
  have i7 := @rcj_ixChar_7 n f
  refine am_lf_eq ?_
  generalize am_lf (am_mk (kbj_ixChar n f) 0 0 0) [7] = kt at i7 ⊢
  have e : fnj_ixChar n f p1 p2 p3 = fnj_ixChar_c7 hg_fu n f p3 ((p1).toInt8.toInt32) p2 := by
    rw [fqj_ixChar]
  rw [e]
  exact i7 hg_fu p3 ((p1).toInt8.toInt32) p2 _ _ rfl rfl hp
abbrev prj_ixChar (n : Nat) (f : Nat → Int32) : List am_V → List am_C → Prop := fun a w => ∃ (p1 : Int32) (p2 : Int32) (p3 : Int32), a = [.inr (.inr 2), .inl p1, .inl p2, .inl p3] ∧ w = [] ∧ wpj_ixChar n f p1 p2 p3
noncomputable def fmj_ixChar (n : Nat) (f : Nat → Int32) : am_M := fun a w => (fun (z : Int32) => (some (.inl z), [], 0, 0)) (fnj_ixChar n f (am_i (am_an a 1)) (am_i (am_an a 2)) (am_i (am_an a 3)))
theorem fej_ixChar (n : Nat) (f : Nat → Int32) (p1 : Int32) (p2 : Int32) (p3 : Int32) : fmj_ixChar n f [.inr (.inr 2), .inl p1, .inl p2, .inl p3] [] = (some (.inl (fnj_ixChar n f p1 p2 p3)), [], 0, 0) := rfl
set_option maxRecDepth 100000 in
set_option maxHeartbeats 4000000 in
theorem rnj_ixChar (n : Nat) (f : Nat → Int32) : ∀ (a : List am_V) (w : List am_C), prj_ixChar n f a w → ∃ nq, am_ev (am_mk (kbj_ixChar n f) (fmj_ixChar n f a w).2.2.1 (fmj_ixChar n f a w).2.2.2 w.length) [7] nq (0, am_L0 a 6, [], w, 0, 0) = some ((fmj_ixChar n f a w).1, (fmj_ixChar n f a w).2.1) := by
  rintro a w ⟨p1, p2, p3, rfl, rfl, hp⟩
  rw [fej_ixChar n f p1 p2 p3]
  exact am_lf_ev (rej_ixChar n f p1 p2 p3 hp)
theorem rlj_ixChar (n : Nat) (f : Nat → Int32) : ∀ (a : List am_V) (w : List am_C), prj_ixChar n f a w → a.length ≤ 6 := by
  rintro a w ⟨p1, p2, p3, rfl, rfl, hp⟩
  exact Nat.le_of_ble_eq_true rfl
set_option maxRecDepth 100000 in
set_option maxHeartbeats 4000000 in
theorem kmj_ixChar {l : Launch} {E : (Nat → Prop) → State → Prop} {D : va_G} {ou : Nat → Nat} {ca : Nat → ClassId} {n : Nat} {f : Nat → Int32} {fz : am_V} (hE : hj_E E ou n f fz) : hg_Met l E D ou ca hyj_ixChar prog_21_method_23_code 6 (some .int) 0 (prj_ixChar n f) (fmj_ixChar n f) := by
  refine am_met (B := kbj_ixChar n f) (cuts := [7]) (nt := 5) (by decide +kernel) rfl rfl (hg_tys_ok ca) ?_ (by decide) (rlj_ixChar n f) ?_ (rnj_ixChar n f)
  · exact fun t ht => List.mem_cons_of_mem _ (hg_arr t ht)
  · intro a w hp ad p e R s m args below meth c hR X hEs hnm
    have hR1 : 0 ≤ R.frames ∧ 0 ≤ R.locals := by rw [hR]; exact ⟨Nat.le_refl _, Nat.le_refl _⟩
    have hN := hE.2.2 _ _ hEs
    refine ⟨kdj_ixChar_ok, fun index ci fi mode hq => (am_no hq).elim, fun index ci fs hq => (am_no hq).elim, fun x v hq => (am_no hq).elim, ?_, hj_oa_ok hN.2.2.2.1, rfl, rfl, by rw [hR]; exact Nat.le_refl _, by rw [hR]; exact Nat.le_refl _⟩
    intro pc sel n0 pre0 f0 hq
    exact (am_no hq).elim
def kdj_l1ix : List (Nat × Instr × Nat) := [(0, .iload_n 1, 1), (1, .invokestatic 88, 3), (4, .ifCond .ne 5, 3), (7, .iconst (-1), 1), (8, .ireturn, 1), (9, .iload_n 2, 1), (10, .iconst 0, 1), (11, .invokestatic 92, 3), (14, .istore_n 2, 1), (15, .iload_n 3, 1), (16, .aload_n 0, 1), (17, .arraylength, 1), (18, .invokestatic 38, 3), (21, .istore_n 3, 1), (22, .iload_n 2, 1), (23, .iload_n 3, 1), (24, .if_icmp .lt 5, 3), (27, .iconst (-1), 1), (28, .ireturn, 1), (29, .aload_n 0, 1), (30, .iload_n 1, 1), (31, .iload_n 2, 1), (32, .iload_n 3, 1), (33, .invokestatic 95, 3), (36, .ireturn, 1)]
theorem kdj_l1ix_ok : ∀ q ∈ kdj_l1ix, decode prog_21_method_22_code q.1 = .ok q.2 := by decide +kernel
def hyj_l1ix : MethodName := ⟨"java/lang/StringLatin1", "indexOf", "([BIII)I"⟩
noncomputable def kij_l1ix (n : Nat) (f : Nat → Int32) : List (Nat × Option (List Nat) × Nat × (List am_V → List am_C → Prop) × am_M) := [(1, some [], 1, prj_canEncode, fmj_canEncode), (11, some [], 2, prJ_max, fmJ_max), (18, some [], 2, prJ_min, fmJ_min), (33, some [], 4, prj_ixChar n f, fmj_ixChar n f)]
noncomputable def kbj_l1ix (n : Nat) (f : Nat → Int32) : am_B := (kdj_l1ix, fun _ => none, hn_ty, fun _ => none, fun _ => none, am_as (kij_l1ix n f), hj_oa n f, 5, 4, (some .int))
noncomputable def fnj_l1ix (n : Nat) (f : Nat → Int32) (p1 : Int32) (p2 : Int32) (p3 : Int32) : Int32 := Classical.choose (⟨_, rfl⟩ : ∃ z : Int32, z = (if (fnj_canEncode p1) = 0 then (-1 : Int32) else (if (fnJ_max p2 (0 : Int32)) < (fnJ_min p3 (Int32.ofNat n)) then (fnj_ixChar n f p1 (fnJ_max p2 (0 : Int32)) (fnJ_min p3 (Int32.ofNat n))) else (-1 : Int32))))
theorem fqj_l1ix (n : Nat) (f : Nat → Int32) (p1 : Int32) (p2 : Int32) (p3 : Int32) : fnj_l1ix n f p1 p2 p3 = (if (fnj_canEncode p1) = 0 then (-1 : Int32) else (if (fnJ_max p2 (0 : Int32)) < (fnJ_min p3 (Int32.ofNat n)) then (fnj_ixChar n f p1 (fnJ_max p2 (0 : Int32)) (fnJ_min p3 (Int32.ofNat n))) else (-1 : Int32))) := Classical.choose_spec (⟨_, rfl⟩ : ∃ z : Int32, z = (if (fnj_canEncode p1) = 0 then (-1 : Int32) else (if (fnJ_max p2 (0 : Int32)) < (fnJ_min p3 (Int32.ofNat n)) then (fnj_ixChar n f p1 (fnJ_max p2 (0 : Int32)) (fnJ_min p3 (Int32.ofNat n))) else (-1 : Int32))))
def wpj_l1ix (n : Nat) (f : Nat → Int32) (p1 : Int32) (p2 : Int32) (p3 : Int32) : Prop := ((wpj_canEncode p1) ∧ (((fnj_canEncode p1) = 0 → True) ∧ (¬ (fnj_canEncode p1) = 0 → ((wpJ_max p2 (0 : Int32)) ∧ ((wpJ_min p3 (Int32.ofNat n)) ∧ (((fnJ_max p2 (0 : Int32)) < (fnJ_min p3 (Int32.ofNat n)) → (wpj_ixChar n f p1 (fnJ_max p2 (0 : Int32)) (fnJ_min p3 (Int32.ofNat n)))) ∧ (¬ (fnJ_max p2 (0 : Int32)) < (fnJ_min p3 (Int32.ofNat n)) → True)))))))
set_option maxRecDepth 100000 in
set_option maxHeartbeats 4000000 in
theorem rej_l1ix (n : Nat) (f : Nat → Int32) (p1 : Int32) (p2 : Int32) (p3 : Int32) (hp : wpj_l1ix n f p1 p2 p3) : am_lf (am_mk (kbj_l1ix n f) 0 0 0) [] (0, am_L0 [.inr (.inr 2), .inl p1, .inl p2, .inl p3] 4, [], [], 0, 0) = some (some (.inl (fnj_l1ix n f p1 p2 p3)), []) := by
  unfold wpj_l1ix at hp
  refine am_lf_eq ?_
  generalize am_lf (am_mk (kbj_l1ix n f) 0 0 0) [] = kt
  refine am_cy (pre := prj_canEncode) (f := fmj_canEncode) (a' := [.inl p1]) (wc := []) (w' := []) (r := (some (.inl (fnj_canEncode p1)), [], 0, 0)) ?_ ?_ ?_ ?_ ?_ ?_ ?_ ?_ ?_ ?_
  · exact am_sow0 _
  · rfl
  · rfl
  · exact am_sub0 _
  · exact ⟨p1, rfl, rfl, hp.1⟩
  · exact fej_canEncode p1
  · exact rfl
  · rfl
  · exact am_mix0 _
  refine am_if (c := (fnj_canEncode p1) = 0) (fun h1 => ?_) (fun h1 => ?_)
  · have e : fnj_l1ix n f p1 p2 p3 = (-1 : Int32) := by
      rw [fqj_l1ix]
      rw [if_pos h1]
    rw [e] <;> rfl
  · have q1 := hp.2.2 h1
    refine am_cy (pre := prJ_max) (f := fmJ_max) (a' := [.inl p2, .inl (0 : Int32)]) (wc := []) (w' := []) (r := (some (.inl (fnJ_max p2 (0 : Int32))), [], 0, 0)) ?_ ?_ ?_ ?_ ?_ ?_ ?_ ?_ ?_ ?_
    · exact am_sow0 _
    · rfl
    · rfl
    · exact am_sub0 _
    · exact ⟨p2, (0 : Int32), rfl, rfl, q1.1⟩
    · exact feJ_max p2 (0 : Int32)
    · exact rfl
    · rfl
    · exact am_mix0 _
    refine am_cy (pre := prJ_min) (f := fmJ_min) (a' := [.inl p3, .inl (Int32.ofNat n)]) (wc := []) (w' := []) (r := (some (.inl (fnJ_min p3 (Int32.ofNat n))), [], 0, 0)) ?_ ?_ ?_ ?_ ?_ ?_ ?_ ?_ ?_ ?_
    · exact am_sow0 _
    · rfl
    · rfl
    · exact am_sub0 _
    · exact ⟨p3, (Int32.ofNat n), rfl, rfl, q1.2.1⟩
    · exact feJ_min p3 (Int32.ofNat n)
    · exact rfl
    · rfl
    · exact am_mix0 _
    refine am_if (c := (fnJ_max p2 (0 : Int32)) < (fnJ_min p3 (Int32.ofNat n))) (fun h2 => ?_) (fun h2 => ?_)
    · have q2 := q1.2.2.1 h2
      refine am_cy (pre := prj_ixChar n f) (f := fmj_ixChar n f) (a' := [.inr (.inr 2), .inl p1, .inl (fnJ_max p2 (0 : Int32)), .inl (fnJ_min p3 (Int32.ofNat n))]) (wc := []) (w' := []) (r := (some (.inl (fnj_ixChar n f p1 (fnJ_max p2 (0 : Int32)) (fnJ_min p3 (Int32.ofNat n)))), [], 0, 0)) ?_ ?_ ?_ ?_ ?_ ?_ ?_ ?_ ?_ ?_
      · exact am_sow0 _
      · rfl
      · rfl
      · exact am_sub0 _
      · exact ⟨p1, (fnJ_max p2 (0 : Int32)), (fnJ_min p3 (Int32.ofNat n)), rfl, rfl, q2⟩
      · exact fej_ixChar n f p1 (fnJ_max p2 (0 : Int32)) (fnJ_min p3 (Int32.ofNat n))
      · exact rfl
      · rfl
      · exact am_mix0 _
      have e : fnj_l1ix n f p1 p2 p3 = (fnj_ixChar n f p1 (fnJ_max p2 (0 : Int32)) (fnJ_min p3 (Int32.ofNat n))) := by
        rw [fqj_l1ix]
        rw [if_neg h1, if_pos h2]
      rw [e] <;> rfl
    · have e : fnj_l1ix n f p1 p2 p3 = (-1 : Int32) := by
        rw [fqj_l1ix]
        rw [if_neg h1, if_neg h2]
      rw [e] <;> rfl
abbrev prj_l1ix (n : Nat) (f : Nat → Int32) : List am_V → List am_C → Prop := fun a w => ∃ (p1 : Int32) (p2 : Int32) (p3 : Int32), a = [.inr (.inr 2), .inl p1, .inl p2, .inl p3] ∧ w = [] ∧ wpj_l1ix n f p1 p2 p3
noncomputable def fmj_l1ix (n : Nat) (f : Nat → Int32) : am_M := fun a w => (fun (z : Int32) => (some (.inl z), [], 0, 0)) (fnj_l1ix n f (am_i (am_an a 1)) (am_i (am_an a 2)) (am_i (am_an a 3)))
theorem fej_l1ix (n : Nat) (f : Nat → Int32) (p1 : Int32) (p2 : Int32) (p3 : Int32) : fmj_l1ix n f [.inr (.inr 2), .inl p1, .inl p2, .inl p3] [] = (some (.inl (fnj_l1ix n f p1 p2 p3)), [], 0, 0) := rfl
set_option maxRecDepth 100000 in
set_option maxHeartbeats 4000000 in
theorem rnj_l1ix (n : Nat) (f : Nat → Int32) : ∀ (a : List am_V) (w : List am_C), prj_l1ix n f a w → ∃ nq, am_ev (am_mk (kbj_l1ix n f) (fmj_l1ix n f a w).2.2.1 (fmj_l1ix n f a w).2.2.2 w.length) [] nq (0, am_L0 a 4, [], w, 0, 0) = some ((fmj_l1ix n f a w).1, (fmj_l1ix n f a w).2.1) := by
  rintro a w ⟨p1, p2, p3, rfl, rfl, hp⟩
  rw [fej_l1ix n f p1 p2 p3]
  exact am_lf_ev (rej_l1ix n f p1 p2 p3 hp)
theorem rlj_l1ix (n : Nat) (f : Nat → Int32) : ∀ (a : List am_V) (w : List am_C), prj_l1ix n f a w → a.length ≤ 4 := by
  rintro a w ⟨p1, p2, p3, rfl, rfl, hp⟩
  exact Nat.le_of_ble_eq_true rfl
set_option maxRecDepth 100000 in
set_option maxHeartbeats 4000000 in
theorem kmj_l1ix {l : Launch} {E : (Nat → Prop) → State → Prop} {D : va_G} {ou : Nat → Nat} {ca : Nat → ClassId} {n : Nat} {f : Nat → Int32} {fz : am_V} (hE : hj_E E ou n f fz) : hg_Met l E D ou ca hyj_l1ix prog_21_method_22_code 4 (some .int) 1 (prj_l1ix n f) (fmj_l1ix n f) := by
  refine am_met (B := kbj_l1ix n f) (cuts := []) (nt := 5) (by decide +kernel) rfl rfl (hg_tys_ok ca) ?_ (by decide) (rlj_l1ix n f) ?_ (rnj_l1ix n f)
  · exact fun t ht => List.mem_cons_of_mem _ (hg_arr t ht)
  · intro a w hp ad p e R s m args below meth c hR X hEs hnm
    have hR1 : 1 ≤ R.frames ∧ 40 ≤ R.locals := by rw [hR]; exact ⟨Nat.le_refl _, Nat.le_refl _⟩
    have hN := hE.2.2 _ _ hEs
    refine ⟨kdj_l1ix_ok, fun index ci fi mode hq => (am_no hq).elim, fun index ci fs hq => (am_no hq).elim, fun x v hq => (am_no hq).elim, ?_, hj_oa_ok hN.2.2.2.1, rfl, rfl, by rw [hR]; exact Nat.le_refl _, by rw [hR]; exact Nat.le_refl _⟩
    intro pc sel n0 pre0 f0 hq
    have hz : ∀ q ∈ kij_l1ix n f, am_CK p l e R s m args below meth c D hn_cl (va_A (am_w ad ou ca w) s.heap.size) ou ca 4 q.1 q.2.2.1 q.2.2.2.1 q.2.2.2.2 := by
      refine am_allc (am_ck_S (n := 1) X hEs hE.1 (kmj_canEncode hE) (hg_good (gw_mem 841 (by decide +kernel))) rfl (List.mem_cons_of_mem _ (gw_mem 84 (by decide +kernel))) (List.mem_cons_of_mem _ (gw_mem 839 (by decide +kernel))) (List.mem_cons_of_mem _ (gw_mem 840 (by decide +kernel))) (by decide +kernel) ⟨Nat.le_trans (by decide) hR1.1, Nat.le_trans (by decide) hR1.2⟩ (kdj_l1ix_ok (1, .invokestatic 88, 3) (List.mem_of_getElem? (i := 1) rfl))) (am_allc (am_ck_max X (List.mem_cons_of_mem _ (gw_mem 842 (by decide +kernel))) (List.mem_cons_of_mem _ (gw_mem 107 (by decide +kernel))) (List.mem_cons_of_mem _ (gw_mem 70 (by decide +kernel))) (List.mem_cons_of_mem _ (gw_mem 108 (by decide +kernel))) ⟨Nat.le_trans (by decide) hR1.1, Nat.le_trans (by decide) hR1.2⟩ (kdj_l1ix_ok (11, .invokestatic 92, 3) (List.mem_of_getElem? (i := 7) rfl))) (am_allc (am_ck_min X (List.mem_cons_of_mem _ (gw_mem 843 (by decide +kernel))) (List.mem_cons_of_mem _ (gw_mem 844 (by decide +kernel))) (List.mem_cons_of_mem _ (gw_mem 70 (by decide +kernel))) (List.mem_cons_of_mem _ (gw_mem 845 (by decide +kernel))) ⟨Nat.le_trans (by decide) hR1.1, Nat.le_trans (by decide) hR1.2⟩ (kdj_l1ix_ok (18, .invokestatic 38, 3) (List.mem_of_getElem? (i := 12) rfl))) (am_allc (am_ck_S (n := 4) X hEs hE.1 (kmj_ixChar hE) (hg_good (gw_mem 848 (by decide +kernel))) rfl (List.mem_cons_of_mem _ (gw_mem 84 (by decide +kernel))) (List.mem_cons_of_mem _ (gw_mem 846 (by decide +kernel))) (List.mem_cons_of_mem _ (gw_mem 847 (by decide +kernel))) (by decide +kernel) ⟨Nat.le_trans (by decide) hR1.1, Nat.le_trans (by decide) hR1.2⟩ (kdj_l1ix_ok (33, .invokestatic 95, 3) (List.mem_of_getElem? (i := 23) rfl))) (am_all0))))
    exact hz _ (am_as_mem hq)
def kdj_ix2 : List (Nat × Instr × Nat) := [(0, .aload_n 0, 1), (1, .invokevirtual 492, 3), (4, .ifCond .eq 19, 3), (7, .aload_n 0, 1), (8, .getfield 9, 3), (11, .iload_n 1, 1), (12, .iload_n 2, 1), (13, .aload_n 0, 1), (14, .invokevirtual 505, 3), (17, .invokestatic 637, 3), (20, .goto 16, 3), (36, .ireturn, 1)]
theorem kdj_ix2_ok : ∀ q ∈ kdj_ix2, decode prog_20_method_80_code q.1 = .ok q.2 := by decide +kernel
def hyj_ix2 : MethodName := ⟨"java/lang/String", "indexOf", "(II)I"⟩
noncomputable def kij_ix2 (n : Nat) (f : Nat → Int32) : List (Nat × Option (List Nat) × Nat × (List am_V → List am_C → Prop) × am_M) := [(1, some [], 1, prj_isLatin1 n f, fmj_isLatin1 n f), (8, some [], 1, prO_value, fmO_value), (14, some [], 1, prj_length n f, fmj_length n f), (17, some [], 4, prj_l1ix n f, fmj_l1ix n f)]
noncomputable def kbj_ix2 (n : Nat) (f : Nat → Int32) : am_B := (kdj_ix2, fun _ => none, hn_ty, fun _ => none, fun _ => none, am_as (kij_ix2 n f), hj_oa n f, 5, 3, (some .int))
noncomputable def fnj_ix2 (n : Nat) (f : Nat → Int32) (p0 : Int32) (p1 : Int32) : Int32 := Classical.choose (⟨_, rfl⟩ : ∃ z : Int32, z = (fnj_l1ix n f p0 p1 (fnj_length n f)))
theorem fqj_ix2 (n : Nat) (f : Nat → Int32) (p0 : Int32) (p1 : Int32) : fnj_ix2 n f p0 p1 = (fnj_l1ix n f p0 p1 (fnj_length n f)) := Classical.choose_spec (⟨_, rfl⟩ : ∃ z : Int32, z = (fnj_l1ix n f p0 p1 (fnj_length n f)))
def wpj_ix2 (n : Nat) (f : Nat → Int32) (p0 : Int32) (p1 : Int32) : Prop := ((wpj_isLatin1 n f) ∧ ((wpj_length n f) ∧ (wpj_l1ix n f p0 p1 (fnj_length n f))))
set_option maxRecDepth 100000 in
set_option maxHeartbeats 4000000 in
theorem rej_ix2 (n : Nat) (f : Nat → Int32) (p0 : Int32) (p1 : Int32) (hp : wpj_ix2 n f p0 p1) : am_lf (am_mk (kbj_ix2 n f) 0 0 0) [] (0, am_L0 [.inr (.inr 1), .inl p0, .inl p1] 3, [], [], 0, 0) = some (some (.inl (fnj_ix2 n f p0 p1)), []) := by
  unfold wpj_ix2 at hp
  refine am_lf_eq ?_
  generalize am_lf (am_mk (kbj_ix2 n f) 0 0 0) [] = kt
  refine am_cy (pre := prj_isLatin1 n f) (f := fmj_isLatin1 n f) (a' := [.inr (.inr 1)]) (wc := []) (w' := []) (r := (some (.inl (1 : Int32)), [], 0, 0)) ?_ ?_ ?_ ?_ ?_ ?_ ?_ ?_ ?_ ?_
  · exact am_sow0 _
  · rfl
  · rfl
  · exact am_sub0 _
  · exact ⟨rfl, rfl, hp.1⟩
  · exact fej_isLatin1 n f
  · exact rfl
  · rfl
  · exact am_mix0 _
  refine am_cy (pre := prO_value) (f := fmO_value) (a' := [.inr (.inr 1)]) (wc := []) (w' := []) (r := (some (.inr (.inr 2)), [], 0, 0)) ?_ ?_ ?_ ?_ ?_ ?_ ?_ ?_ ?_ ?_
  · exact am_sow0 _
  · rfl
  · rfl
  · exact am_sub0 _
  · exact ⟨rfl, rfl⟩
  · rfl
  · rfl
  · rfl
  · exact am_mix0 _
  refine am_cy (pre := prj_length n f) (f := fmj_length n f) (a' := [.inr (.inr 1)]) (wc := []) (w' := []) (r := (some (.inl (fnj_length n f)), [], 0, 0)) ?_ ?_ ?_ ?_ ?_ ?_ ?_ ?_ ?_ ?_
  · exact am_sow0 _
  · rfl
  · rfl
  · exact am_sub0 _
  · exact ⟨rfl, rfl, hp.2.1⟩
  · exact fej_length n f
  · exact rfl
  · rfl
  · exact am_mix0 _
  refine am_cy (pre := prj_l1ix n f) (f := fmj_l1ix n f) (a' := [.inr (.inr 2), .inl p0, .inl p1, .inl (fnj_length n f)]) (wc := []) (w' := []) (r := (some (.inl (fnj_l1ix n f p0 p1 (fnj_length n f))), [], 0, 0)) ?_ ?_ ?_ ?_ ?_ ?_ ?_ ?_ ?_ ?_
  · exact am_sow0 _
  · rfl
  · rfl
  · exact am_sub0 _
  · exact ⟨p0, p1, (fnj_length n f), rfl, rfl, hp.2.2⟩
  · exact fej_l1ix n f p0 p1 (fnj_length n f)
  · exact rfl
  · rfl
  · exact am_mix0 _
  have e : fnj_ix2 n f p0 p1 = (fnj_l1ix n f p0 p1 (fnj_length n f)) := by
    rw [fqj_ix2]
  rw [e] <;> rfl
abbrev prj_ix2 (n : Nat) (f : Nat → Int32) : List am_V → List am_C → Prop := fun a w => ∃ (p0 : Int32) (p1 : Int32), a = [.inr (.inr 1), .inl p0, .inl p1] ∧ w = [] ∧ wpj_ix2 n f p0 p1
noncomputable def fmj_ix2 (n : Nat) (f : Nat → Int32) : am_M := fun a w => (fun (z : Int32) => (some (.inl z), [], 0, 0)) (fnj_ix2 n f (am_i (am_an a 1)) (am_i (am_an a 2)))
theorem fej_ix2 (n : Nat) (f : Nat → Int32) (p0 : Int32) (p1 : Int32) : fmj_ix2 n f [.inr (.inr 1), .inl p0, .inl p1] [] = (some (.inl (fnj_ix2 n f p0 p1)), [], 0, 0) := rfl
set_option maxRecDepth 100000 in
set_option maxHeartbeats 4000000 in
theorem rnj_ix2 (n : Nat) (f : Nat → Int32) : ∀ (a : List am_V) (w : List am_C), prj_ix2 n f a w → ∃ nq, am_ev (am_mk (kbj_ix2 n f) (fmj_ix2 n f a w).2.2.1 (fmj_ix2 n f a w).2.2.2 w.length) [] nq (0, am_L0 a 3, [], w, 0, 0) = some ((fmj_ix2 n f a w).1, (fmj_ix2 n f a w).2.1) := by
  rintro a w ⟨p0, p1, rfl, rfl, hp⟩
  rw [fej_ix2 n f p0 p1]
  exact am_lf_ev (rej_ix2 n f p0 p1 hp)
theorem rlj_ix2 (n : Nat) (f : Nat → Int32) : ∀ (a : List am_V) (w : List am_C), prj_ix2 n f a w → a.length ≤ 3 := by
  rintro a w ⟨p0, p1, rfl, rfl, hp⟩
  exact Nat.le_of_ble_eq_true rfl
theorem paj_ix2 (n : Nat) (f : Nat → Int32) : ∀ a w, prj_ix2 n f a w → ∃ a', a = .inr (.inr 1) :: a' := by
  rintro a w ⟨p0, p1, rfl, rfl, hp⟩
  exact ⟨_, rfl⟩
set_option maxRecDepth 100000 in
set_option maxHeartbeats 4000000 in
theorem kmj_ix2 {l : Launch} {E : (Nat → Prop) → State → Prop} {D : va_G} {ou : Nat → Nat} {ca : Nat → ClassId} {n : Nat} {f : Nat → Int32} {fz : am_V} (hE : hj_E E ou n f fz) : hg_Met l E D ou ca hyj_ix2 prog_20_method_80_code 3 (some .int) 2 (prj_ix2 n f) (fmj_ix2 n f) := by
  refine am_met (B := kbj_ix2 n f) (cuts := []) (nt := 5) (by decide +kernel) rfl rfl (hg_tys_ok ca) ?_ (by decide) (rlj_ix2 n f) ?_ (rnj_ix2 n f)
  · exact fun t ht => List.mem_cons_of_mem _ (hg_arr t ht)
  · intro a w hp ad p e R s m args below meth c hR X hEs hnm
    have hR1 : 2 ≤ R.frames ∧ 80 ≤ R.locals := by rw [hR]; exact ⟨Nat.le_refl _, Nat.le_refl _⟩
    have hN := hE.2.2 _ _ hEs
    refine ⟨kdj_ix2_ok, fun index ci fi mode hq => (am_no hq).elim, fun index ci fs hq => (am_no hq).elim, fun x v hq => (am_no hq).elim, ?_, hj_oa_ok hN.2.2.2.1, rfl, rfl, by rw [hR]; exact Nat.le_refl _, by rw [hR]; exact Nat.le_refl _⟩
    intro pc sel n0 pre0 f0 hq
    have hz : ∀ q ∈ kij_ix2 n f, am_CK p l e R s m args below meth c D hn_cl (va_A (am_w ad ou ca w) s.heap.size) ou ca 3 q.1 q.2.2.1 q.2.2.2.1 q.2.2.2.2 := by
      refine am_allc (am_ck_VO (n := 0) X hEs hE.1 (kmj_isLatin1 hE) (hg_good (gw_mem 382 (by decide +kernel))) rfl (List.mem_cons_of_mem _ (gw_mem 83 (by decide +kernel))) (List.mem_cons_of_mem _ (gw_mem 379 (by decide +kernel))) (List.mem_cons_of_mem _ (gw_mem 380 (by decide +kernel))) (List.mem_cons_of_mem _ (gw_mem 381 (by decide +kernel))) hN.1 (paj_isLatin1 n f) (by decide +kernel) ⟨Nat.le_trans (by decide) hR1.1, Nat.le_trans (by decide) hR1.2⟩ (kdj_ix2_ok (1, .invokevirtual 492, 3) (List.mem_of_getElem? (i := 1) rfl))) (am_allc (hj_gf (v := .inr (.inr 2)) X (fun _ => rfl) hN.2.2.1 (List.mem_cons_of_mem _ (gw_mem 1377 (by decide +kernel))) (kdj_ix2_ok (8, .getfield 9, 3) (List.mem_of_getElem? (i := 4) rfl))) (am_allc (am_ck_VO (n := 0) X hEs hE.1 (kmj_length hE) (hg_good (gw_mem 367 (by decide +kernel))) rfl (List.mem_cons_of_mem _ (gw_mem 83 (by decide +kernel))) (List.mem_cons_of_mem _ (gw_mem 835 (by decide +kernel))) (List.mem_cons_of_mem _ (gw_mem 365 (by decide +kernel))) (List.mem_cons_of_mem _ (gw_mem 366 (by decide +kernel))) hN.1 (paj_length n f) (by decide +kernel) ⟨Nat.le_trans (by decide) hR1.1, Nat.le_trans (by decide) hR1.2⟩ (kdj_ix2_ok (14, .invokevirtual 505, 3) (List.mem_of_getElem? (i := 8) rfl))) (am_allc (am_ck_S (n := 4) X hEs hE.1 (kmj_l1ix hE) (hg_good (gw_mem 838 (by decide +kernel))) rfl (List.mem_cons_of_mem _ (gw_mem 84 (by decide +kernel))) (List.mem_cons_of_mem _ (gw_mem 836 (by decide +kernel))) (List.mem_cons_of_mem _ (gw_mem 837 (by decide +kernel))) (by decide +kernel) ⟨Nat.le_trans (by decide) hR1.1, Nat.le_trans (by decide) hR1.2⟩ (kdj_ix2_ok (17, .invokestatic 637, 3) (List.mem_of_getElem? (i := 9) rfl))) (am_all0))))
    exact hz _ (am_as_mem hq)
def kdj_ix : List (Nat × Instr × Nat) := [(0, .aload_n 0, 1), (1, .iload_n 1, 1), (2, .iconst 0, 1), (3, .invokevirtual 633, 3), (6, .ireturn, 1)]
theorem kdj_ix_ok : ∀ q ∈ kdj_ix, decode prog_20_method_79_code q.1 = .ok q.2 := by decide +kernel
def hyj_ix : MethodName := ⟨"java/lang/String", "indexOf", "(I)I"⟩
noncomputable def kij_ix (n : Nat) (f : Nat → Int32) : List (Nat × Option (List Nat) × Nat × (List am_V → List am_C → Prop) × am_M) := [(3, some [], 3, prj_ix2 n f, fmj_ix2 n f)]
noncomputable def kbj_ix (n : Nat) (f : Nat → Int32) : am_B := (kdj_ix, fun _ => none, hn_ty, fun _ => none, fun _ => none, am_as (kij_ix n f), hj_oa n f, 5, 2, (some .int))
noncomputable def fnj_ix (n : Nat) (f : Nat → Int32) (p0 : Int32) : Int32 := Classical.choose (⟨_, rfl⟩ : ∃ z : Int32, z = (fnj_ix2 n f p0 (0 : Int32)))
theorem fqj_ix (n : Nat) (f : Nat → Int32) (p0 : Int32) : fnj_ix n f p0 = (fnj_ix2 n f p0 (0 : Int32)) := Classical.choose_spec (⟨_, rfl⟩ : ∃ z : Int32, z = (fnj_ix2 n f p0 (0 : Int32)))
def wpj_ix (n : Nat) (f : Nat → Int32) (p0 : Int32) : Prop := (wpj_ix2 n f p0 (0 : Int32))
set_option maxRecDepth 100000 in
set_option maxHeartbeats 4000000 in
theorem rej_ix (n : Nat) (f : Nat → Int32) (p0 : Int32) (hp : wpj_ix n f p0) : am_lf (am_mk (kbj_ix n f) 0 0 0) [] (0, am_L0 [.inr (.inr 1), .inl p0] 2, [], [], 0, 0) = some (some (.inl (fnj_ix n f p0)), []) := by
  unfold wpj_ix at hp
  refine am_lf_eq ?_
  generalize am_lf (am_mk (kbj_ix n f) 0 0 0) [] = kt
  refine am_cy (pre := prj_ix2 n f) (f := fmj_ix2 n f) (a' := [.inr (.inr 1), .inl p0, .inl (0 : Int32)]) (wc := []) (w' := []) (r := (some (.inl (fnj_ix2 n f p0 (0 : Int32))), [], 0, 0)) ?_ ?_ ?_ ?_ ?_ ?_ ?_ ?_ ?_ ?_
  · exact am_sow0 _
  · rfl
  · rfl
  · exact am_sub0 _
  · exact ⟨p0, (0 : Int32), rfl, rfl, hp⟩
  · exact fej_ix2 n f p0 (0 : Int32)
  · exact rfl
  · rfl
  · exact am_mix0 _
  have e : fnj_ix n f p0 = (fnj_ix2 n f p0 (0 : Int32)) := by
    rw [fqj_ix]
  rw [e] <;> rfl
abbrev prj_ix (n : Nat) (f : Nat → Int32) : List am_V → List am_C → Prop := fun a w => ∃ (p0 : Int32), a = [.inr (.inr 1), .inl p0] ∧ w = [] ∧ wpj_ix n f p0
noncomputable def fmj_ix (n : Nat) (f : Nat → Int32) : am_M := fun a w => (fun (z : Int32) => (some (.inl z), [], 0, 0)) (fnj_ix n f (am_i (am_an a 1)))
theorem fej_ix (n : Nat) (f : Nat → Int32) (p0 : Int32) : fmj_ix n f [.inr (.inr 1), .inl p0] [] = (some (.inl (fnj_ix n f p0)), [], 0, 0) := rfl
set_option maxRecDepth 100000 in
set_option maxHeartbeats 4000000 in
theorem rnj_ix (n : Nat) (f : Nat → Int32) : ∀ (a : List am_V) (w : List am_C), prj_ix n f a w → ∃ nq, am_ev (am_mk (kbj_ix n f) (fmj_ix n f a w).2.2.1 (fmj_ix n f a w).2.2.2 w.length) [] nq (0, am_L0 a 2, [], w, 0, 0) = some ((fmj_ix n f a w).1, (fmj_ix n f a w).2.1) := by
  rintro a w ⟨p0, rfl, rfl, hp⟩
  rw [fej_ix n f p0]
  exact am_lf_ev (rej_ix n f p0 hp)
theorem rlj_ix (n : Nat) (f : Nat → Int32) : ∀ (a : List am_V) (w : List am_C), prj_ix n f a w → a.length ≤ 2 := by
  rintro a w ⟨p0, rfl, rfl, hp⟩
  exact Nat.le_of_ble_eq_true rfl
theorem paj_ix (n : Nat) (f : Nat → Int32) : ∀ a w, prj_ix n f a w → ∃ a', a = .inr (.inr 1) :: a' := by
  rintro a w ⟨p0, rfl, rfl, hp⟩
  exact ⟨_, rfl⟩
set_option maxRecDepth 100000 in
set_option maxHeartbeats 4000000 in
theorem kmj_ix {l : Launch} {E : (Nat → Prop) → State → Prop} {D : va_G} {ou : Nat → Nat} {ca : Nat → ClassId} {n : Nat} {f : Nat → Int32} {fz : am_V} (hE : hj_E E ou n f fz) : hg_Met l E D ou ca hyj_ix prog_20_method_79_code 2 (some .int) 3 (prj_ix n f) (fmj_ix n f) := by
  refine am_met (B := kbj_ix n f) (cuts := []) (nt := 5) (by decide +kernel) rfl rfl (hg_tys_ok ca) ?_ (by decide) (rlj_ix n f) ?_ (rnj_ix n f)
  · exact fun t ht => List.mem_cons_of_mem _ (hg_arr t ht)
  · intro a w hp ad p e R s m args below meth c hR X hEs hnm
    have hR1 : 3 ≤ R.frames ∧ 120 ≤ R.locals := by rw [hR]; exact ⟨Nat.le_refl _, Nat.le_refl _⟩
    have hN := hE.2.2 _ _ hEs
    refine ⟨kdj_ix_ok, fun index ci fi mode hq => (am_no hq).elim, fun index ci fs hq => (am_no hq).elim, fun x v hq => (am_no hq).elim, ?_, hj_oa_ok hN.2.2.2.1, rfl, rfl, by rw [hR]; exact Nat.le_refl _, by rw [hR]; exact Nat.le_refl _⟩
    intro pc sel n0 pre0 f0 hq
    have hz : ∀ q ∈ kij_ix n f, am_CK p l e R s m args below meth c D hn_cl (va_A (am_w ad ou ca w) s.heap.size) ou ca 2 q.1 q.2.2.1 q.2.2.2.1 q.2.2.2.2 := by
      refine am_allc (am_ck_VO (n := 2) X hEs hE.1 (kmj_ix2 hE) (hg_good (gw_mem 834 (by decide +kernel))) rfl (List.mem_cons_of_mem _ (gw_mem 83 (by decide +kernel))) (List.mem_cons_of_mem _ (gw_mem 831 (by decide +kernel))) (List.mem_cons_of_mem _ (gw_mem 832 (by decide +kernel))) (List.mem_cons_of_mem _ (gw_mem 833 (by decide +kernel))) hN.1 (paj_ix2 n f) (by decide +kernel) ⟨Nat.le_trans (by decide) hR1.1, Nat.le_trans (by decide) hR1.2⟩ (kdj_ix_ok (3, .invokevirtual 633, 3) (List.mem_of_getElem? (i := 3) rfl))) (am_all0)
    exact hz _ (am_as_mem hq)
/-! the same, of the k-th String constant -/
def hg_by (k j : Nat) : Int32 := (hg_bs.getD k []).getD j 0
def hj_ou (ou : Nat → Nat) (k z : Nat) (o : Nat) : Nat := match o with
  | 0 => ou k
  | 1 => ou (37 + k)
  | _ => ou (z - 1)
def hj_fz (z : Nat) : am_V := match z with
  | 0 => .inr (.inr 0)
  | _ + 1 => .inr (.inr 3)
theorem hj_of {E : (Nat → Prop) → State → Prop} {ou : Nat → Nat} (hE : hg_E E ou) (k : Nat) (hk : k < 37) : ∃ z, hj_E E (hj_ou ou k z) (hg_ln.getD k 0) (hg_by k) (hj_fz z) := by
  obtain ⟨z, hz⟩ := hE.2.2
  refine ⟨z, hE.1, ?_, ?_⟩
  · cases z
    · exact Or.inl rfl
    · exact Or.inr rfl
  · intro A s h
    obtain ⟨h1, h2, h3⟩ := (hE.2.1 A s h).2
    obtain ⟨g1, g2, g3, g4⟩ := h2.1 k hk
    refine ⟨g1, g2, g3, g4, h3, ?_⟩
    have h4 := hz A s h
    cases z
    · exact h4
    · exact h4
noncomputable def fnJ_length (k : Nat) : Int32 := fnj_length (hg_ln.getD k 0) (hg_by k) 
def wpJ_length (k : Nat) : Prop := k < 37 ∧ wpj_length (hg_ln.getD k 0) (hg_by k) 
abbrev prJ_length : List am_V → List am_C → Prop := fun a w => ∃ (k : Nat), a = [.inr (.inr (k + 1))] ∧ w = [] ∧ wpJ_length k
noncomputable def fmJ_length : am_M := fun a _ => (some (.inl (fnJ_length (am_n (am_an a 0)))), [], 0, 0)
theorem feJ_length (k : Nat) : fmJ_length [.inr (.inr (k + 1))] [] = (some (.inl (fnJ_length k)), [], 0, 0) := rfl
theorem paJ_length : ∀ a w, prJ_length a w → ∃ k a', a = .inr (.inr (k + 1)) :: a' ∧ k < 37 := by
  rintro a w ⟨k, rfl, rfl, hp⟩
  exact ⟨k, _, rfl, hp.1⟩
theorem kmJ_length {l : Launch} {E : (Nat → Prop) → State → Prop} {D : va_G} {ou : Nat → Nat} {ca : Nat → ClassId} (hE : hg_E E ou) : hg_Met l E D ou ca hyj_length prog_20_method_54_code 1 (some .int) 1 prJ_length fmJ_length := by
  rintro ad sz a w ⟨k, rfl, rfl, hp⟩
  obtain ⟨z, hz⟩ := hj_of hE k hp.1
  exact kmj_length (l := l) (D := D) (ca := ca) hz ad sz [.inr (.inr 1)] [] ⟨rfl, rfl, hp.2⟩
noncomputable def fnJ_charAt (k : Nat) (p0 : Int32) : Int32 := fnj_charAt (hg_ln.getD k 0) (hg_by k) p0
def wpJ_charAt (k : Nat) (p0 : Int32) : Prop := k < 37 ∧ wpj_charAt (hg_ln.getD k 0) (hg_by k) p0
abbrev prJ_charAt : List am_V → List am_C → Prop := fun a w => ∃ (k : Nat) (p0 : Int32), a = [.inr (.inr (k + 1)), .inl p0] ∧ w = [] ∧ wpJ_charAt k p0
noncomputable def fmJ_charAt : am_M := fun a _ => (some (.inl (fnJ_charAt (am_n (am_an a 0)) (am_i (am_an a 1)))), [], 0, 0)
theorem feJ_charAt (k : Nat) (p0 : Int32) : fmJ_charAt [.inr (.inr (k + 1)), .inl p0] [] = (some (.inl (fnJ_charAt k p0)), [], 0, 0) := rfl
theorem paJ_charAt : ∀ a w, prJ_charAt a w → ∃ k a', a = .inr (.inr (k + 1)) :: a' ∧ k < 37 := by
  rintro a w ⟨k, p0, rfl, rfl, hp⟩
  exact ⟨k, _, rfl, hp.1⟩
theorem kmJ_charAt {l : Launch} {E : (Nat → Prop) → State → Prop} {D : va_G} {ou : Nat → Nat} {ca : Nat → ClassId} (hE : hg_E E ou) : hg_Met l E D ou ca hyj_charAt prog_20_method_56_code 2 (some .char) 3 prJ_charAt fmJ_charAt := by
  rintro ad sz a w ⟨k, p0, rfl, rfl, hp⟩
  obtain ⟨z, hz⟩ := hj_of hE k hp.1
  exact kmj_charAt (l := l) (D := D) (ca := ca) hz ad sz [.inr (.inr 1), .inl p0] [] ⟨p0, rfl, rfl, hp.2⟩
noncomputable def fnJ_indexOf (k : Nat) (p0 : Int32) : Int32 := fnj_ix (hg_ln.getD k 0) (hg_by k) p0
def wpJ_indexOf (k : Nat) (p0 : Int32) : Prop := k < 37 ∧ wpj_ix (hg_ln.getD k 0) (hg_by k) p0
abbrev prJ_indexOf : List am_V → List am_C → Prop := fun a w => ∃ (k : Nat) (p0 : Int32), a = [.inr (.inr (k + 1)), .inl p0] ∧ w = [] ∧ wpJ_indexOf k p0
noncomputable def fmJ_indexOf : am_M := fun a _ => (some (.inl (fnJ_indexOf (am_n (am_an a 0)) (am_i (am_an a 1)))), [], 0, 0)
theorem feJ_indexOf (k : Nat) (p0 : Int32) : fmJ_indexOf [.inr (.inr (k + 1)), .inl p0] [] = (some (.inl (fnJ_indexOf k p0)), [], 0, 0) := rfl
theorem paJ_indexOf : ∀ a w, prJ_indexOf a w → ∃ k a', a = .inr (.inr (k + 1)) :: a' ∧ k < 37 := by
  rintro a w ⟨k, p0, rfl, rfl, hp⟩
  exact ⟨k, _, rfl, hp.1⟩
theorem kmJ_indexOf {l : Launch} {E : (Nat → Prop) → State → Prop} {D : va_G} {ou : Nat → Nat} {ca : Nat → ClassId} (hE : hg_E E ou) : hg_Met l E D ou ca hyj_ix prog_20_method_79_code 2 (some .int) 3 prJ_indexOf fmJ_indexOf := by
  rintro ad sz a w ⟨k, p0, rfl, rfl, hp⟩
  obtain ⟨z, hz⟩ := hj_of hE k hp.1
  exact kmj_ix (l := l) (D := D) (ca := ca) hz ad sz [.inr (.inr 1), .inl p0] [] ⟨p0, rfl, rfl, hp.2⟩
end
