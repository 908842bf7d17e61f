def hy0_init : MethodName := ⟨hn_R0, "<init>", "()V"⟩
def hy0_reads : MethodName := ⟨hn_R0, "reads", "(LHoleTemplates$Text;)Z"⟩
def hy0_holeCode : MethodName := ⟨hn_R0, "holeCode", "(I)I"⟩
def hy0_readSymbol : MethodName := ⟨hn_R0, "readSymbol", "(I)I"⟩
def hy0_readHole : MethodName := ⟨hn_R0, "readHole", "(I)Z"⟩
def hy0_open : MethodName := ⟨hn_R0, "open", "(I)Z"⟩
def hy0_turn : MethodName := ⟨hn_R0, "turn", "(I)Z"⟩
def hy0_close : MethodName := ⟨hn_R0, "close", "(I)Z"⟩
theorem kf0_ok {s : State} {args : Array Value} {meth : Method} {x : Cond} (hts : ∀ w ∈ x :: gw_all, w.before args s = true) (hN : hg_Nw s) : ∀ q ∈ kf0, am_FK s args meth hn_R0 (x :: gw_all) hn_cl hn_ty q.1 q.2.1 q.2.2.1 q.2.2.2 :=
  am_allc (hg_fk hts rfl (by decide) hn_in0 hn_ok0 hn_nm0 rfl (by decide) 216 (by decide +kernel) (by decide)) (am_allc (hg_fk hts rfl (by decide) hn_in0 hn_ok0 hn_nm0 rfl (by decide) 218 (by decide +kernel) (by decide)) (am_allc (hg_fk hts rfl (by decide) hn_in0 hn_ok0 hn_nm0 rfl (by decide) 219 (by decide +kernel) (by decide)) (am_allc (hg_fk hts rfl (by decide) hn_in0 hn_ok0 hn_nm0 rfl (by decide) 220 (by decide +kernel) (by decide)) (am_allc (hg_fk hts rfl (by decide) hn_in0 hn_ok0 hn_nm0 rfl (by decide) 221 (by decide +kernel) (by decide)) (am_allc (hg_fk hts rfl (by decide) hn_in0 hn_ok0 hn_nm0 rfl (by decide) 222 (by decide +kernel) (by decide)) (am_allc (hg_fk hts rfl (by decide) hn_in0 hn_ok0 hn_nm0 rfl (by decide) 226 (by decide +kernel) (by decide)) (am_allc (hg_fk hts rfl (by decide) hn_in0 hn_ok0 hn_nm0 rfl (by decide) 223 (by decide +kernel) (by decide)) (am_allc (hg_fk hts rfl (by decide) hn_in0 hn_ok0 hn_nm0 rfl (by decide) 224 (by decide +kernel) (by decide)) (am_allc (hg_fkN (host := "HoleTemplates") hN rfl (by decide) hn_in5 hn_ok5 hn_nm5 rfl (by decide) 5 rfl (by decide)) (am_allc (hg_fkN (host := "HoleTemplates") hN rfl (by decide) hn_in1 hn_ok1 hn_nm1 rfl (by decide) 9 rfl (by decide)) (am_allc (hg_fk hts rfl (by decide) hn_in0 hn_ok0 hn_nm0 rfl (by decide) 228 (by decide +kernel) (by decide)) (am_allc (hg_fkN (host := "HoleTemplates") hN rfl (by decide) hn_in1 hn_ok1 hn_nm1 rfl (by decide) 13 rfl (by decide)) (am_all0)))))))))))))
def hy1_init : MethodName := ⟨hn_R1, "<init>", "()V"⟩
def hy1_enter : MethodName := ⟨hn_R1, "enter", "(I)V"⟩
def hy1_enterTag : MethodName := ⟨hn_R1, "enterTag", "(I)V"⟩
def hy1_enterValue : MethodName := ⟨hn_R1, "enterValue", "(CI)V"⟩
def hy1_enterElement : MethodName := ⟨hn_R1, "enterElement", "()V"⟩
def hy1_isStyle : MethodName := ⟨hn_R1, "isStyle", "()Z"⟩
def hy1_packed : MethodName := ⟨hn_R1, "packed", "()I"⟩
def hy1_unpack : MethodName := ⟨hn_R1, "unpack", "(I)V"⟩
def hy1_code : MethodName := ⟨hn_R1, "code", "()I"⟩
def hy1_codeInValue : MethodName := ⟨hn_R1, "codeInValue", "()I"⟩
theorem kf1_ok {s : State} {args : Array Value} {meth : Method} {x : Cond} (hts : ∀ w ∈ x :: gw_all, w.before args s = true) (hN : hg_Nw s) : ∀ q ∈ kf1, am_FK s args meth hn_R1 (x :: gw_all) hn_cl hn_ty q.1 q.2.1 q.2.2.1 q.2.2.2 :=
  am_allc (hg_fk hts rfl (by decide) hn_in1 hn_ok1 hn_nm1 rfl (by decide) 194 (by decide +kernel) (by decide)) (am_allc (hg_fk hts rfl (by decide) hn_in1 hn_ok1 hn_nm1 rfl (by decide) 196 (by decide +kernel) (by decide)) (am_allc (hg_fk hts rfl (by decide) hn_in1 hn_ok1 hn_nm1 rfl (by decide) 198 (by decide +kernel) (by decide)) (am_allc (hg_fk hts rfl (by decide) hn_in1 hn_ok1 hn_nm1 rfl (by decide) 200 (by decide +kernel) (by decide)) (am_allc (hg_fk hts rfl (by decide) hn_in1 hn_ok1 hn_nm1 rfl (by decide) 202 (by decide +kernel) (by decide)) (am_all0)))))
def hy2_init : MethodName := ⟨hn_R2, "<init>", "()V"⟩
def hy2_isVariable : MethodName := ⟨hn_R2, "isVariable", "(I)Z"⟩
def hy2_count : MethodName := ⟨hn_R2, "count", "(I)I"⟩
def hy2_keep : MethodName := ⟨hn_R2, "keep", "(ILHoleTemplates$Text;)Z"⟩
def hy2_drop : MethodName := ⟨hn_R2, "drop", "(I)I"⟩
def hy2_lone : MethodName := ⟨hn_R2, "lone", "(I)I"⟩
def hy2_leaveAlone : MethodName := ⟨hn_R2, "leaveAlone", "(II)V"⟩
def hy2_from : MethodName := ⟨hn_R2, "from", "(I)I"⟩
def hy2_upTo : MethodName := ⟨hn_R2, "upTo", "(I)I"⟩
def hy2_first : MethodName := ⟨hn_R2, "first", "(I)I"⟩
def hy2_length : MethodName := ⟨hn_R2, "length", "(I)I"⟩
def hy2_at : MethodName := ⟨hn_R2, "at", "(II)C"⟩
def hy2_begins : MethodName := ⟨hn_R2, "begins", "(IILjava/lang/String;)Z"⟩
theorem kf2_ok {s : State} {args : Array Value} {meth : Method} {x : Cond} (hts : ∀ w ∈ x :: gw_all, w.before args s = true) (hN : hg_Nw s) : ∀ q ∈ kf2, am_FK s args meth hn_R2 (x :: gw_all) hn_cl hn_ty q.1 q.2.1 q.2.2.1 q.2.2.2 :=
  am_allc (hg_fk hts rfl (by decide) hn_in2 hn_ok2 hn_nm2 rfl (by decide) 130 (by decide +kernel) (by decide)) (am_allc (hg_fk hts rfl (by decide) hn_in2 hn_ok2 hn_nm2 rfl (by decide) 131 (by decide +kernel) (by decide)) (am_allc (hg_fk hts rfl (by decide) hn_in2 hn_ok2 hn_nm2 rfl (by decide) 132 (by decide +kernel) (by decide)) (am_allc (hg_fk hts rfl (by decide) hn_in2 hn_ok2 hn_nm2 rfl (by decide) 133 (by decide +kernel) (by decide)) (am_allc (hg_fkN (host := "HoleTemplates") hN rfl (by decide) hn_in6 hn_ok6 hn_nm6 rfl (by decide) 2 rfl (by decide)) (am_all0)))))
def hy3_read : MethodName := ⟨hn_R3, "read", "(LHoleTemplates$Symbols;ILHoleTemplates$Context;)I"⟩
def hy3_inText : MethodName := ⟨hn_R3, "inText", "(LHoleTemplates$Symbols;ILHoleTemplates$Context;)I"⟩
def hy3_endTag : MethodName := ⟨hn_R3, "endTag", "(LHoleTemplates$Symbols;I)I"⟩
def hy3_startTag : MethodName := ⟨hn_R3, "startTag", "(LHoleTemplates$Symbols;ILHoleTemplates$Context;)I"⟩
def hy3_elementOf : MethodName := ⟨hn_R3, "elementOf", "(LHoleTemplates$Symbols;II)I"⟩
def hy3_ampersand : MethodName := ⟨hn_R3, "ampersand", "(LHoleTemplates$Symbols;I)I"⟩
def hy3_ifTwoFollow : MethodName := ⟨hn_R3, "ifTwoFollow", "(LHoleTemplates$Symbols;I)I"⟩
def hy3_inTag : MethodName := ⟨hn_R3, "inTag", "(LHoleTemplates$Symbols;ILHoleTemplates$Context;)I"⟩
def hy3_attribute : MethodName := ⟨hn_R3, "attribute", "(LHoleTemplates$Symbols;ILHoleTemplates$Context;)I"⟩
def hy3_kindOf : MethodName := ⟨hn_R3, "kindOf", "(LHoleTemplates$Symbols;II)I"⟩
def hy3_inValue : MethodName := ⟨hn_R3, "inValue", "(LHoleTemplates$Symbols;ILHoleTemplates$Context;)I"⟩
def hy3_inUrl : MethodName := ⟨hn_R3, "inUrl", "(LHoleTemplates$Symbols;ILHoleTemplates$Context;)I"⟩
def hy3_inCode : MethodName := ⟨hn_R3, "inCode", "(LHoleTemplates$Symbols;ILHoleTemplates$Context;)I"⟩
def hy3_lessThan : MethodName := ⟨hn_R3, "lessThan", "(LHoleTemplates$Symbols;ILHoleTemplates$Context;)I"⟩
def hy3_inBareCode : MethodName := ⟨hn_R3, "inBareCode", "(LHoleTemplates$Symbols;ILHoleTemplates$Context;)I"⟩
def hy3_inString : MethodName := ⟨hn_R3, "inString", "(LHoleTemplates$Symbols;ILHoleTemplates$Context;)I"⟩
def hy3_inBlockComment : MethodName := ⟨hn_R3, "inBlockComment", "(LHoleTemplates$Symbols;ILHoleTemplates$Context;)I"⟩
def hy3_inTitle : MethodName := ⟨hn_R3, "inTitle", "(LHoleTemplates$Symbols;ILHoleTemplates$Context;)I"⟩
def hy3_inComment : MethodName := ⟨hn_R3, "inComment", "(LHoleTemplates$Symbols;ILHoleTemplates$Context;)I"⟩
theorem kf3_ok {s : State} {args : Array Value} {meth : Method} {x : Cond} (hts : ∀ w ∈ x :: gw_all, w.before args s = true) (hN : hg_Nw s) : ∀ q ∈ kf3, am_FK s args meth hn_R3 (x :: gw_all) hn_cl hn_ty q.1 q.2.1 q.2.2.1 q.2.2.2 :=
  am_allc (hg_fkN (host := "HoleTemplates") hN rfl (by decide) hn_in1 hn_ok1 hn_nm1 rfl (by decide) 8 rfl (by decide)) (am_allc (hg_fkN (host := "HoleTemplates") hN rfl (by decide) hn_in5 hn_ok5 hn_nm5 rfl (by decide) 6 rfl (by decide)) (am_allc (hg_fkN (host := "HoleTemplates") hN rfl (by decide) hn_in1 hn_ok1 hn_nm1 rfl (by decide) 10 rfl (by decide)) (am_allc (hg_fkN (host := "HoleTemplates") hN rfl (by decide) hn_in1 hn_ok1 hn_nm1 rfl (by decide) 11 rfl (by decide)) (am_allc (hg_fkN (host := "HoleTemplates") hN rfl (by decide) hn_in1 hn_ok1 hn_nm1 rfl (by decide) 14 rfl (by decide)) (am_allc (hg_fkN (host := "HoleTemplates") hN rfl (by decide) hn_in1 hn_ok1 hn_nm1 rfl (by decide) 12 rfl (by decide)) (am_all0))))))
def hy4_isWritable : MethodName := ⟨hn_R4, "isWritable", "(C)Z"⟩
def hy4_isBlank : MethodName := ⟨hn_R4, "isBlank", "(C)Z"⟩
def hy4_isLetter : MethodName := ⟨hn_R4, "isLetter", "(C)Z"⟩
def hy4_isLetterOrDigit : MethodName := ⟨hn_R4, "isLetterOrDigit", "(C)Z"⟩
def hy4_isVariable : MethodName := ⟨hn_R4, "isVariable", "(C)Z"⟩
def hy4_isQuote : MethodName := ⟨hn_R4, "isQuote", "(C)Z"⟩
def hy4_small : MethodName := ⟨hn_R4, "small", "(C)C"⟩
def hy4_highHex : MethodName := ⟨hn_R4, "highHex", "(C)C"⟩
def hy4_lowHex : MethodName := ⟨hn_R4, "lowHex", "(C)C"⟩
theorem kf4_ok {s : State} {args : Array Value} {meth : Method} {x : Cond} (hts : ∀ w ∈ x :: gw_all, w.before args s = true) (hN : hg_Nw s) : ∀ q ∈ kf4, am_FK s args meth hn_R4 (x :: gw_all) hn_cl hn_ty q.1 q.2.1 q.2.2.1 q.2.2.2 :=
  am_all0
def hy5_init : MethodName := ⟨hn_R5, "<init>", "()V"⟩
def hy5_cut : MethodName := ⟨hn_R5, "cut", "(LHoleTemplates$Text;)V"⟩
def hy5_cutBrace : MethodName := ⟨hn_R5, "cutBrace", "(LHoleTemplates$Text;I)I"⟩
def hy5_take : MethodName := ⟨hn_R5, "take", "(ICII)I"⟩
def hy5_has : MethodName := ⟨hn_R5, "has", "(I)Z"⟩
def hy5_kind : MethodName := ⟨hn_R5, "kind", "(I)I"⟩
def hy5_sign : MethodName := ⟨hn_R5, "sign", "(I)C"⟩
def hy5_variable : MethodName := ⟨hn_R5, "variable", "(I)I"⟩
def hy5_place : MethodName := ⟨hn_R5, "place", "(I)I"⟩
def hy5_code : MethodName := ⟨hn_R5, "code", "(I)I"⟩
def hy5_turn : MethodName := ⟨hn_R5, "turn", "(I)I"⟩
def hy5_close : MethodName := ⟨hn_R5, "close", "(I)I"⟩
def hy5_noteCode : MethodName := ⟨hn_R5, "noteCode", "(II)V"⟩
def hy5_noteTurn : MethodName := ⟨hn_R5, "noteTurn", "(II)V"⟩
def hy5_noteClose : MethodName := ⟨hn_R5, "noteClose", "(II)V"⟩
def hy5_spells : MethodName := ⟨hn_R5, "spells", "(IILjava/lang/String;)Z"⟩
def hy5_behindLetters : MethodName := ⟨hn_R5, "behindLetters", "(I)I"⟩
def hy5_behindName : MethodName := ⟨hn_R5, "behindName", "(I)I"⟩
def hy5_behindBlanks : MethodName := ⟨hn_R5, "behindBlanks", "(I)I"⟩
theorem kf5_ok {s : State} {args : Array Value} {meth : Method} {x : Cond} (hts : ∀ w ∈ x :: gw_all, w.before args s = true) (hN : hg_Nw s) : ∀ q ∈ kf5, am_FK s args meth hn_R5 (x :: gw_all) hn_cl hn_ty q.1 q.2.1 q.2.2.1 q.2.2.2 :=
  am_allc (hg_fk hts rfl (by decide) hn_in5 hn_ok5 hn_nm5 rfl (by decide) 156 (by decide +kernel) (by decide)) (am_allc (hg_fk hts rfl (by decide) hn_in5 hn_ok5 hn_nm5 rfl (by decide) 157 (by decide +kernel) (by decide)) (am_allc (hg_fk hts rfl (by decide) hn_in5 hn_ok5 hn_nm5 rfl (by decide) 158 (by decide +kernel) (by decide)) (am_allc (hg_fk hts rfl (by decide) hn_in5 hn_ok5 hn_nm5 rfl (by decide) 159 (by decide +kernel) (by decide)) (am_allc (hg_fk hts rfl (by decide) hn_in5 hn_ok5 hn_nm5 rfl (by decide) 160 (by decide +kernel) (by decide)) (am_allc (hg_fk hts rfl (by decide) hn_in5 hn_ok5 hn_nm5 rfl (by decide) 161 (by decide +kernel) (by decide)) (am_allc (hg_fk hts rfl (by decide) hn_in5 hn_ok5 hn_nm5 rfl (by decide) 162 (by decide +kernel) (by decide)) (am_allc (hg_fk hts rfl (by decide) hn_in5 hn_ok5 hn_nm5 rfl (by decide) 163 (by decide +kernel) (by decide)) (am_allc (hg_fkN (host := "HoleTemplates") hN rfl (by decide) hn_in6 hn_ok6 hn_nm6 rfl (by decide) 0 rfl (by decide)) (am_allc (hg_fk hts rfl (by decide) hn_in5 hn_ok5 hn_nm5 rfl (by decide) 167 (by decide +kernel) (by decide)) (am_all0))))))))))
def hy6_init : MethodName := ⟨hn_R6, "<init>", "(I)V"⟩
def hy6_put : MethodName := ⟨hn_R6, "put", "(C)Z"⟩
def hy6_putAll : MethodName := ⟨hn_R6, "putAll", "(Ljava/lang/String;)V"⟩
def hy6_putHex : MethodName := ⟨hn_R6, "putHex", "(C)V"⟩
def hy6_at : MethodName := ⟨hn_R6, "at", "(I)C"⟩
def hy6_empty : MethodName := ⟨hn_R6, "empty", "()I"⟩
theorem kf6_ok {s : State} {args : Array Value} {meth : Method} {x : Cond} (hts : ∀ w ∈ x :: gw_all, w.before args s = true) (hN : hg_Nw s) : ∀ q ∈ kf6, am_FK s args meth hn_R6 (x :: gw_all) hn_cl hn_ty q.1 q.2.1 q.2.2.1 q.2.2.2 :=
  am_allc (hg_fk hts rfl (by decide) hn_in6 hn_ok6 hn_nm6 rfl (by decide) 109 (by decide +kernel) (by decide)) (am_allc (hg_fk hts rfl (by decide) hn_in6 hn_ok6 hn_nm6 rfl (by decide) 110 (by decide +kernel) (by decide)) (am_allc (hg_fk hts rfl (by decide) hn_in6 hn_ok6 hn_nm6 rfl (by decide) 114 (by decide +kernel) (by decide)) (am_all0)))
def hy7_put : MethodName := ⟨hn_R7, "put", "(LHoleTemplates$Text;LHoleTemplates$Items;II)V"⟩
def hy7_putMarkup : MethodName := ⟨hn_R7, "putMarkup", "(LHoleTemplates$Text;LHoleTemplates$Items;I)V"⟩
def hy7_putUrl : MethodName := ⟨hn_R7, "putUrl", "(LHoleTemplates$Text;LHoleTemplates$Items;II)V"⟩
def hy7_hasForeignScheme : MethodName := ⟨hn_R7, "hasForeignScheme", "(LHoleTemplates$Items;I)Z"⟩
def hy7_staysInCode : MethodName := ⟨hn_R7, "staysInCode", "(C)Z"⟩
def hy7_putScript : MethodName := ⟨hn_R7, "putScript", "(LHoleTemplates$Text;LHoleTemplates$Items;IIZ)V"⟩
def hy7_putStyleString : MethodName := ⟨hn_R7, "putStyleString", "(LHoleTemplates$Text;LHoleTemplates$Items;I)V"⟩
def hy7_putBareStyle : MethodName := ⟨hn_R7, "putBareStyle", "(LHoleTemplates$Text;LHoleTemplates$Items;I)V"⟩
def hy7_isStyleWord : MethodName := ⟨hn_R7, "isStyleWord", "(LHoleTemplates$Items;I)Z"⟩
theorem kf7_ok {s : State} {args : Array Value} {meth : Method} {x : Cond} (hts : ∀ w ∈ x :: gw_all, w.before args s = true) (hN : hg_Nw s) : ∀ q ∈ kf7, am_FK s args meth hn_R7 (x :: gw_all) hn_cl hn_ty q.1 q.2.1 q.2.2.1 q.2.2.2 :=
  am_all0
def hy8_init : MethodName := ⟨hn_R8, "<init>", "()V"⟩
def hy8_fill : MethodName := ⟨hn_R8, "fill", "(LHoleTemplates$Symbols;LHoleTemplates$Items;)Z"⟩
def hy8_span : MethodName := ⟨hn_R8, "span", "(LHoleTemplates$Symbols;LHoleTemplates$Items;III)V"⟩
def hy8_choice : MethodName := ⟨hn_R8, "choice", "(LHoleTemplates$Symbols;LHoleTemplates$Items;II)V"⟩
def hy8_loop : MethodName := ⟨hn_R8, "loop", "(LHoleTemplates$Symbols;LHoleTemplates$Items;II)V"⟩
theorem kf8_ok {s : State} {args : Array Value} {meth : Method} {x : Cond} (hts : ∀ w ∈ x :: gw_all, w.before args s = true) (hN : hg_Nw s) : ∀ q ∈ kf8, am_FK s args meth hn_R8 (x :: gw_all) hn_cl hn_ty q.1 q.2.1 q.2.2.1 q.2.2.2 :=
  am_allc (hg_fk hts rfl (by decide) hn_in8 hn_ok8 hn_nm8 rfl (by decide) 259 (by decide +kernel) (by decide)) (am_allc (hg_fkN (host := "HoleTemplates") hN rfl (by decide) hn_in5 hn_ok5 hn_nm5 rfl (by decide) 4 rfl (by decide)) (am_allc (hg_fkN (host := "HoleTemplates") hN rfl (by decide) hn_in6 hn_ok6 hn_nm6 rfl (by decide) 3 rfl (by decide)) (am_all0)))
def hy9_init : MethodName := ⟨hn_R9, "<init>", "()V"⟩
def hy9_type : MethodName := ⟨hn_R9, "type", "(C)Z"⟩
def hy9_wipe : MethodName := ⟨hn_R9, "wipe", "()I"⟩
def hy9_add : MethodName := ⟨hn_R9, "add", "()I"⟩
def hy9_clear : MethodName := ⟨hn_R9, "clear", "()I"⟩
def hy9_compile : MethodName := ⟨hn_R9, "compile", "()I"⟩
def hy9_accepts : MethodName := ⟨hn_R9, "accepts", "()Z"⟩
def hy9_fault : MethodName := ⟨hn_R9, "fault", "()I"⟩
def hy9_hole : MethodName := ⟨hn_R9, "hole", "(I)I"⟩
def hy9_item : MethodName := ⟨hn_R9, "item", "(I)I"⟩
def hy9_forget : MethodName := ⟨hn_R9, "forget", "(I)I"⟩
def hy9_write : MethodName := ⟨hn_R9, "write", "()I"⟩
def hy9_written : MethodName := ⟨hn_R9, "written", "()I"⟩
def hy9_letter : MethodName := ⟨hn_R9, "letter", "(I)C"⟩
theorem kf9_ok {s : State} {args : Array Value} {meth : Method} {x : Cond} (hts : ∀ w ∈ x :: gw_all, w.before args s = true) (hN : hg_Nw s) : ∀ q ∈ kf9, am_FK s args meth hn_R9 (x :: gw_all) hn_cl hn_ty q.1 q.2.1 q.2.2.1 q.2.2.2 :=
  am_allc (hg_fk hts rfl (by decide) hn_in9 hn_ok9 hn_nm9 rfl (by decide) 264 (by decide +kernel) (by decide)) (am_allc (hg_fk hts rfl (by decide) hn_in9 hn_ok9 hn_nm9 rfl (by decide) 265 (by decide +kernel) (by decide)) (am_allc (hg_fk hts rfl (by decide) hn_in9 hn_ok9 hn_nm9 rfl (by decide) 266 (by decide +kernel) (by decide)) (am_allc (hg_fk hts rfl (by decide) hn_in9 hn_ok9 hn_nm9 rfl (by decide) 267 (by decide +kernel) (by decide)) (am_allc (hg_fk hts rfl (by decide) hn_in9 hn_ok9 hn_nm9 rfl (by decide) 268 (by decide +kernel) (by decide)) (am_allc (hg_fkN (host := "HoleTemplates") hN rfl (by decide) hn_in6 hn_ok6 hn_nm6 rfl (by decide) 1 rfl (by decide)) (am_allc (hg_fkN (host := "HoleTemplates") hN rfl (by decide) hn_in0 hn_ok0 hn_nm0 rfl (by decide) 18 rfl (by decide)) (am_allc (hg_fkN (host := "HoleTemplates") hN rfl (by decide) hn_in0 hn_ok0 hn_nm0 rfl (by decide) 16 rfl (by decide)) (am_allc (hg_fkN (host := "HoleTemplates") hN rfl (by decide) hn_in0 hn_ok0 hn_nm0 rfl (by decide) 17 rfl (by decide)) (am_allc (hg_fkN (host := "HoleTemplates") hN rfl (by decide) hn_in0 hn_ok0 hn_nm0 rfl (by decide) 15 rfl (by decide)) (am_allc (hg_fkN (host := "HoleTemplates") hN rfl (by decide) hn_in8 hn_ok8 hn_nm8 rfl (by decide) 19 rfl (by decide)) (am_all0)))))))))))
