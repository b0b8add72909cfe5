def R_law : String := "SnippetExpanderLaw"
def y2_clear : MethodName := ⟨RX2, "clear", "(I)V"⟩
abbrev b2_clear : ByteArray := prog_4_method_2_code
def y2_setName : MethodName := ⟨RX2, "setName", "([III)V"⟩
abbrev b2_setName : ByteArray := prog_4_method_3_code
def y2_isNamed : MethodName := ⟨RX2, "isNamed", "([III)Z"⟩
abbrev b2_isNamed : ByteArray := prog_4_method_4_code
def y2_addLiteral : MethodName := ⟨RX2, "addLiteral", "(II)V"⟩
abbrev b2_addLiteral : ByteArray := prog_4_method_5_code
def y2_addOccurrence : MethodName := ⟨RX2, "addOccurrence", "(II)I"⟩
abbrev b2_addOccurrence : ByteArray := prog_4_method_6_code
def y2_addDependence : MethodName := ⟨RX2, "addDependence", "(II)V"⟩
abbrev b2_addDependence : ByteArray := prog_4_method_7_code
def y2_wouldDependOnItself : MethodName := ⟨RX2, "wouldDependOnItself", "(II)Z"⟩
abbrev b2_wouldDependOnItself : ByteArray := prog_4_method_8_code
def y2_firstItemOf : MethodName := ⟨RX2, "firstItemOf", "(I)I"⟩
abbrev b2_firstItemOf : ByteArray := prog_4_method_9_code
def y2_endItemOf : MethodName := ⟨RX2, "endItemOf", "(I)I"⟩
abbrev b2_endItemOf : ByteArray := prog_4_method_10_code
def y2_deepest : MethodName := ⟨RX2, "deepest", "()I"⟩
abbrev b2_deepest : ByteArray := prog_4_method_11_code
def y2_countDefaults : MethodName := ⟨RX2, "countDefaults", "()I"⟩
abbrev b2_countDefaults : ByteArray := prog_4_method_12_code
def y2_countLiterals : MethodName := ⟨RX2, "countLiterals", "()I"⟩
abbrev b2_countLiterals : ByteArray := prog_4_method_13_code
def y2_countOf : MethodName := ⟨RX2, "countOf", "(I)I"⟩
abbrev b2_countOf : ByteArray := prog_4_method_14_code
def y3_clear : MethodName := ⟨RX3, "clear", "(Z)V"⟩
abbrev b3_clear : ByteArray := prog_5_method_2_code
def y3_copyFrom : MethodName := ⟨RX3, "copyFrom", "(LSnippetExpander$State;)V"⟩
abbrev b3_copyFrom : ByteArray := prog_5_method_3_code
def y3_push : MethodName := ⟨RX3, "push", "(II)V"⟩
abbrev b3_push : ByteArray := prog_5_method_4_code
def y3_isTyped : MethodName := ⟨RX3, "isTyped", "(II)Z"⟩
abbrev b3_isTyped : ByteArray := prog_5_method_5_code
def y3_typedLength : MethodName := ⟨RX3, "typedLength", "(II)I"⟩
abbrev b3_typedLength : ByteArray := prog_5_method_6_code
def y3_makeNotTyped : MethodName := ⟨RX3, "makeNotTyped", "(II)V"⟩
abbrev b3_makeNotTyped : ByteArray := prog_5_method_7_code
def y3_typeBehind : MethodName := ⟨RX3, "typeBehind", "(II[III)V"⟩
abbrev b3_typeBehind : ByteArray := prog_5_method_8_code
def y3_appendToDocument : MethodName := ⟨RX3, "appendToDocument", "([II)V"⟩
abbrev b3_appendToDocument : ByteArray := prog_5_method_9_code
def y4_take : MethodName := ⟨RX4, "take", "(LSnippetExpander$Snippet;LSnippetExpander$State;I)V"⟩
abbrev b4_take : ByteArray := prog_6_method_2_code
def y4_takeUntouched : MethodName := ⟨RX4, "takeUntouched", "(LSnippetExpander$Snippet;)V"⟩
abbrev b4_takeUntouched : ByteArray := prog_6_method_3_code
def y4_supposeTyped : MethodName := ⟨RX4, "supposeTyped", "(II)V"⟩
abbrev b4_supposeTyped : ByteArray := prog_6_method_4_code
def y4_supposeNotTyped : MethodName := ⟨RX4, "supposeNotTyped", "(I)V"⟩
abbrev b4_supposeNotTyped : ByteArray := prog_6_method_5_code
def y4_isTyped : MethodName := ⟨RX4, "isTyped", "(I)Z"⟩
abbrev b4_isTyped : ByteArray := prog_6_method_6_code
def y4_isLive : MethodName := ⟨RX4, "isLive", "(I)Z"⟩
abbrev b4_isLive : ByteArray := prog_6_method_7_code
def y4_isDefaultShown : MethodName := ⟨RX4, "isDefaultShown", "(I)Z"⟩
abbrev b4_isDefaultShown : ByteArray := prog_6_method_8_code
def y4_show : MethodName := ⟨RX4, "show", "()V"⟩
abbrev b4_show : ByteArray := prog_6_method_10_code
def yJ_bitCount : MethodName := ⟨"java/lang/Integer", "bitCount", "(I)I"⟩
abbrev bJ_bitCount : ByteArray := prog_17_method_49_code
def y4_countDigits : MethodName := ⟨RX4, "countDigits", "(J)I"⟩
abbrev b4_countDigits : ByteArray := prog_6_method_13_code
def y4_changedLength : MethodName := ⟨RX4, "changedLength", "(I)J"⟩
abbrev b4_changedLength : ByteArray := prog_6_method_12_code
def y4_measurePart : MethodName := ⟨RX4, "measurePart", "(I)J"⟩
abbrev b4_measurePart : ByteArray := prog_6_method_11_code
def y4_measure : MethodName := ⟨RX4, "measure", "()V"⟩
abbrev b4_measure : ByteArray := prog_6_method_9_code
def y4_lengthAheadInPart : MethodName := ⟨RX4, "lengthAheadInPart", "(I)J"⟩
abbrev b4_lengthAheadInPart : ByteArray := prog_6_method_15_code
def y4_startOf : MethodName := ⟨RX4, "startOf", "(I)I"⟩
abbrev b4_startOf : ByteArray := prog_6_method_14_code
def y4_addToOrder : MethodName := ⟨RX4, "addToOrder", "(I)V"⟩
abbrev b4_addToOrder : ByteArray := prog_6_method_17_code
def y4_arrangeOrder : MethodName := ⟨RX4, "arrangeOrder", "(Z)V"⟩
abbrev b4_arrangeOrder : ByteArray := prog_6_method_16_code
def y4_placeOf : MethodName := ⟨RX4, "placeOf", "(I)I"⟩
abbrev b4_placeOf : ByteArray := prog_6_method_18_code
def y4_reasonNotLive : MethodName := ⟨RX4, "reasonNotLive", "(I)I"⟩
abbrev b4_reasonNotLive : ByteArray := prog_6_method_19_code
def y4_countYielded : MethodName := ⟨RX4, "countYielded", "()I"⟩
abbrev b4_countYielded : ByteArray := prog_6_method_20_code
def y4_countMirrored : MethodName := ⟨RX4, "countMirrored", "()I"⟩
abbrev b4_countMirrored : ByteArray := prog_6_method_21_code
def y4_fieldOfLongestValue : MethodName := ⟨RX4, "fieldOfLongestValue", "()I"⟩
abbrev b4_fieldOfLongestValue : ByteArray := prog_6_method_22_code
def y4_lengthOfLiveValues : MethodName := ⟨RX4, "lengthOfLiveValues", "()J"⟩
abbrev b4_lengthOfLiveValues : ByteArray := prog_6_method_23_code
def y4_valueByte : MethodName := ⟨RX4, "valueByte", "(II)I"⟩
abbrev b4_valueByte : ByteArray := prog_6_method_24_code
def y4_toUpper : MethodName := ⟨RX4, "toUpper", "(I)I"⟩
abbrev b4_toUpper : ByteArray := prog_6_method_29_code
def y4_toLower : MethodName := ⟨RX4, "toLower", "(I)I"⟩
abbrev b4_toLower : ByteArray := prog_6_method_30_code
def y4_digitAhead : MethodName := ⟨RX4, "digitAhead", "(JI)I"⟩
abbrev b4_digitAhead : ByteArray := prog_6_method_31_code
def y4_changedByte : MethodName := ⟨RX4, "changedByte", "(III)I"⟩
abbrev b4_changedByte : ByteArray := prog_6_method_28_code
def y4_renderPart : MethodName := ⟨RX4, "renderPart", "(I[II)V"⟩
abbrev b4_renderPart : ByteArray := prog_6_method_27_code
def y4_renderValues : MethodName := ⟨RX4, "renderValues", "()V"⟩
abbrev b4_renderValues : ByteArray := prog_6_method_25_code
def y4_renderText : MethodName := ⟨RX4, "renderText", "()V"⟩
abbrev b4_renderText : ByteArray := prog_6_method_26_code
def y0_indexOf : MethodName := ⟨RX0, "indexOf", "([III)I"⟩
abbrev b0_indexOf : ByteArray := prog_2_method_2_code
def y1_exchange : MethodName := ⟨RX1, "exchange", "(LSnippetExpander$Library;)LSnippetExpander$Library;"⟩
abbrev b1_exchange : ByteArray := prog_3_method_2_code
def y1_skipBlanks : MethodName := ⟨RX1, "skipBlanks", "()V"⟩
abbrev b1_skipBlanks : ByteArray := prog_3_method_6_code
def y1_endOfWord : MethodName := ⟨RX1, "endOfWord", "()I"⟩
abbrev b1_endOfWord : ByteArray := prog_3_method_7_code
def y1_fail : MethodName := ⟨RX1, "fail", "(II)V"⟩
abbrev b1_fail : ByteArray := prog_3_method_4_code
def y1_isAt : MethodName := ⟨RX1, "isAt", "(I)Z"⟩
abbrev b1_isAt : ByteArray := prog_3_method_5_code
def y1_readHead : MethodName := ⟨RX1, "readHead", "(I)V"⟩
abbrev b1_readHead : ByteArray := prog_3_method_10_code
def y1_closePart : MethodName := ⟨RX1, "closePart", "()V"⟩
abbrev b1_closePart : ByteArray := prog_3_method_12_code
def y1_readField : MethodName := ⟨RX1, "readField", "(I)I"⟩
abbrev b1_readField : ByteArray := prog_3_method_15_code
def y1_changeOf : MethodName := ⟨RX1, "changeOf", "(I)I"⟩
abbrev b1_changeOf : ByteArray := prog_3_method_18_code
def y1_readChange : MethodName := ⟨RX1, "readChange", "(I)V"⟩
abbrev b1_readChange : ByteArray := prog_3_method_17_code
def y1_openDefault : MethodName := ⟨RX1, "openDefault", "(II)V"⟩
abbrev b1_openDefault : ByteArray := prog_3_method_19_code
def y1_readBehindField : MethodName := ⟨RX1, "readBehindField", "(II)V"⟩
abbrev b1_readBehindField : ByteArray := prog_3_method_16_code
def y1_readDollar : MethodName := ⟨RX1, "readDollar", "()V"⟩
abbrev b1_readDollar : ByteArray := prog_3_method_14_code
def y1_readLiteral : MethodName := ⟨RX1, "readLiteral", "()V"⟩
abbrev b1_readLiteral : ByteArray := prog_3_method_13_code
def y1_readBody : MethodName := ⟨RX1, "readBody", "()V"⟩
abbrev b1_readBody : ByteArray := prog_3_method_11_code
def y1_readOrder : MethodName := ⟨RX1, "readOrder", "(I)V"⟩
abbrev b1_readOrder : ByteArray := prog_3_method_9_code
def y1_isWord : MethodName := ⟨RX1, "isWord", "(ILjava/lang/String;)Z"⟩
abbrev b1_isWord : ByteArray := prog_3_method_8_code
def y1_readLibrary : MethodName := ⟨RX1, "readLibrary", "([II)V"⟩
abbrev b1_readLibrary : ByteArray := prog_3_method_3_code
def y5_countBytes : MethodName := ⟨RX5, "countBytes", "(I)I"⟩
abbrev b5_countBytes : ByteArray := prog_1_method_41_code
def y5_bufferBytes : MethodName := ⟨RX5, "bufferBytes", "(I)V"⟩
abbrev b5_bufferBytes : ByteArray := prog_1_method_42_code
def y5_append : MethodName := ⟨RX5, "append", "(IIIII)I"⟩
abbrev b5_append : ByteArray := prog_1_method_2_code
def y5_load : MethodName := ⟨RX5, "load", "()I"⟩
abbrev b5_load : ByteArray := prog_1_method_3_code
def y5_errorCode : MethodName := ⟨RX5, "errorCode", "()I"⟩
abbrev b5_errorCode : ByteArray := prog_1_method_4_code
def y5_errorPosition : MethodName := ⟨RX5, "errorPosition", "()I"⟩
abbrev b5_errorPosition : ByteArray := prog_1_method_5_code
def y5_find : MethodName := ⟨RX5, "find", "()I"⟩
abbrev b5_find : ByteArray := prog_1_method_6_code
def y5_size : MethodName := ⟨RX5, "size", "(I)I"⟩
abbrev b5_size : ByteArray := prog_1_method_7_code
def y5_requireSnippet : MethodName := ⟨RX5, "requireSnippet", "(I)LSnippetExpander$Snippet;"⟩
abbrev b5_requireSnippet : ByteArray := prog_1_method_43_code
def y5_snippet : MethodName := ⟨RX5, "snippet", "(II)I"⟩
abbrev b5_snippet : ByteArray := prog_1_method_8_code
def y5_letter : MethodName := ⟨RX5, "letter", "(II)I"⟩
abbrev b5_letter : ByteArray := prog_1_method_9_code
def y5_requireField : MethodName := ⟨RX5, "requireField", "(I)V"⟩
abbrev b5_requireField : ByteArray := prog_1_method_44_code
def y5_depends : MethodName := ⟨RX5, "depends", "(II)I"⟩
abbrev b5_depends : ByteArray := prog_1_method_10_code
def y5_document : MethodName := ⟨RX5, "document", "(I)I"⟩
abbrev b5_document : ByteArray := prog_1_method_11_code
def y5_takeSession : MethodName := ⟨RX5, "takeSession", "(I)V"⟩
abbrev b5_takeSession : ByteArray := prog_1_method_50_code
def y5_measuredText : MethodName := ⟨RX5, "measuredText", "(I)J"⟩
abbrev b5_measuredText : ByteArray := prog_1_method_53_code
def y5_liveFields : MethodName := ⟨RX5, "liveFields", "(I)I"⟩
abbrev b5_liveFields : ByteArray := prog_1_method_54_code
def y5_session : MethodName := ⟨RX5, "session", "(II)I"⟩
abbrev b5_session : ByteArray := prog_1_method_12_code
def y5_account : MethodName := ⟨RX5, "account", "(I)I"⟩
abbrev b5_account : ByteArray := prog_1_method_13_code
def y5_requireSession : MethodName := ⟨RX5, "requireSession", "()I"⟩
abbrev b5_requireSession : ByteArray := prog_1_method_47_code
def y5_lookAt : MethodName := ⟨RX5, "lookAt", "(I)V"⟩
abbrev b5_lookAt : ByteArray := prog_1_method_51_code
def y5_lookAtInnermost : MethodName := ⟨RX5, "lookAtInnermost", "()V"⟩
abbrev b5_lookAtInnermost : ByteArray := prog_1_method_52_code
def y5_field : MethodName := ⟨RX5, "field", "(II)I"⟩
abbrev b5_field : ByteArray := prog_1_method_14_code
def y5_value : MethodName := ⟨RX5, "value", "(II)I"⟩
abbrev b5_value : ByteArray := prog_1_method_15_code
def y5_occurrence : MethodName := ⟨RX5, "occurrence", "(II)I"⟩
abbrev b5_occurrence : ByteArray := prog_1_method_16_code
def y5_text : MethodName := ⟨RX5, "text", "(I)I"⟩
abbrev b5_text : ByteArray := prog_1_method_17_code
def y5_orderAt : MethodName := ⟨RX5, "orderAt", "(I)I"⟩
abbrev b5_orderAt : ByteArray := prog_1_method_18_code
def y5_why : MethodName := ⟨RX5, "why", "(I)I"⟩
abbrev b5_why : ByteArray := prog_1_method_19_code
def y5_yielded : MethodName := ⟨RX5, "yielded", "()I"⟩
abbrev b5_yielded : ByteArray := prog_1_method_20_code
def y5_mirrored : MethodName := ⟨RX5, "mirrored", "()I"⟩
abbrev b5_mirrored : ByteArray := prog_1_method_21_code
def y5_longest : MethodName := ⟨RX5, "longest", "()I"⟩
abbrev b5_longest : ByteArray := prog_1_method_22_code
def y5_untouched : MethodName := ⟨RX5, "untouched", "()F"⟩
abbrev b5_untouched : ByteArray := prog_1_method_23_code
def y5_meanLength : MethodName := ⟨RX5, "meanLength", "()D"⟩
abbrev b5_meanLength : ByteArray := prog_1_method_24_code
def y5_requireBytesAtOnce : MethodName := ⟨RX5, "requireBytesAtOnce", "(I)V"⟩
abbrev b5_requireBytesAtOnce : ByteArray := prog_1_method_45_code
def y5_textIfTyped : MethodName := ⟨RX5, "textIfTyped", "(III)J"⟩
abbrev b5_textIfTyped : ByteArray := prog_1_method_55_code
def y5_lengthIf : MethodName := ⟨RX5, "lengthIf", "(I)I"⟩
abbrev b5_lengthIf : ByteArray := prog_1_method_25_code
def y5_wouldHide : MethodName := ⟨RX5, "wouldHide", "(I)I"⟩
abbrev b5_wouldHide : ByteArray := prog_1_method_26_code
def y5_lengthOf : MethodName := ⟨RX5, "lengthOf", "(I)I"⟩
abbrev b5_lengthOf : ByteArray := prog_1_method_27_code
def y5_refuse : MethodName := ⟨RX5, "refuse", "(I)I"⟩
abbrev b5_refuse : ByteArray := prog_1_method_48_code
def y5_reasonNotToEnd : MethodName := ⟨RX5, "reasonNotToEnd", "(IJ)I"⟩
abbrev b5_reasonNotToEnd : ByteArray := prog_1_method_57_code
def y5_keepForUndo : MethodName := ⟨RX5, "keepForUndo", "()V"⟩
abbrev b5_keepForUndo : ByteArray := prog_1_method_49_code
def y5_endSession : MethodName := ⟨RX5, "endSession", "()V"⟩
abbrev b5_endSession : ByteArray := prog_1_method_58_code
def y5_expand : MethodName := ⟨RX5, "expand", "(I)I"⟩
abbrev b5_expand : ByteArray := prog_1_method_28_code
def y5_typeFromBuffer : MethodName := ⟨RX5, "typeFromBuffer", "(I)I"⟩
abbrev b5_typeFromBuffer : ByteArray := prog_1_method_56_code
def y5_type : MethodName := ⟨RX5, "type", "(I)I"⟩
abbrev b5_type : ByteArray := prog_1_method_29_code
def y5_erase : MethodName := ⟨RX5, "erase", "()I"⟩
abbrev b5_erase : ByteArray := prog_1_method_30_code
def y5_reset : MethodName := ⟨RX5, "reset", "()I"⟩
abbrev b5_reset : ByteArray := prog_1_method_31_code
def y5_next : MethodName := ⟨RX5, "next", "()I"⟩
abbrev b5_next : ByteArray := prog_1_method_32_code
def y5_previous : MethodName := ⟨RX5, "previous", "()I"⟩
abbrev b5_previous : ByteArray := prog_1_method_33_code
def y5_go : MethodName := ⟨RX5, "go", "(I)I"⟩
abbrev b5_go : ByteArray := prog_1_method_34_code
def y5_finish : MethodName := ⟨RX5, "finish", "()I"⟩
abbrev b5_finish : ByteArray := prog_1_method_35_code
def y5_drop : MethodName := ⟨RX5, "drop", "()I"⟩
abbrev b5_drop : ByteArray := prog_1_method_36_code
def y5_setOrder : MethodName := ⟨RX5, "setOrder", "(Z)I"⟩
abbrev b5_setOrder : ByteArray := prog_1_method_37_code
def y5_undo : MethodName := ⟨RX5, "undo", "()I"⟩
abbrev b5_undo : ByteArray := prog_1_method_38_code
def y5_requireSlot : MethodName := ⟨RX5, "requireSlot", "(I)V"⟩
abbrev b5_requireSlot : ByteArray := prog_1_method_46_code
def y5_save : MethodName := ⟨RX5, "save", "(I)I"⟩
abbrev b5_save : ByteArray := prog_1_method_39_code
def y5_restore : MethodName := ⟨RX5, "restore", "(I)I"⟩
abbrev b5_restore : ByteArray := prog_1_method_40_code
def y7_thrown : MethodName := ⟨RX7, "thrown", "()I"⟩
abbrev b7_thrown : ByteArray := prog_8_method_2_code
def y7_within : MethodName := ⟨RX7, "within", "(III)Z"⟩
abbrev b7_within : ByteArray := prog_8_method_3_code
def y7_has : MethodName := ⟨RX7, "has", "(II)Z"⟩
abbrev b7_has : ByteArray := prog_8_method_4_code
def y7_bits : MethodName := ⟨RX7, "bits", "(I)I"⟩
abbrev b7_bits : ByteArray := prog_8_method_5_code
def y7_throwsIf : MethodName := ⟨RX7, "throwsIf", "(ZI)Z"⟩
abbrev b7_throwsIf : ByteArray := prog_8_method_6_code
def y7_copies : MethodName := ⟨RX7, "copies", "([II[II)V"⟩
abbrev b7_copies : ByteArray := prog_8_method_7_code
def y7_noSnippet : MethodName := ⟨RX7, "noSnippet", "(I)Z"⟩
abbrev b7_noSnippet : ByteArray := prog_8_method_8_code
def y7_isField : MethodName := ⟨RX7, "isField", "(I)Z"⟩
abbrev b7_isField : ByteArray := prog_8_method_9_code
def y7_bytesIn : MethodName := ⟨RX7, "bytesIn", "(I)I"⟩
abbrev b7_bytesIn : ByteArray := prog_8_method_10_code
def y7_puts : MethodName := ⟨RX7, "puts", "(I)V"⟩
abbrev b7_puts : ByteArray := prog_8_method_12_code
def y7_append : MethodName := ⟨RX7, "append", "(IIIII)I"⟩
abbrev b7_append : ByteArray := prog_8_method_11_code
def y7_byteAt : MethodName := ⟨RX7, "byteAt", "(I)I"⟩
abbrev b7_byteAt : ByteArray := prog_8_method_13_code
def y7_fails : MethodName := ⟨RX7, "fails", "(II)Z"⟩
abbrev b7_fails : ByteArray := prog_8_method_14_code
def y7_isLetter : MethodName := ⟨RX7, "isLetter", "(I)Z"⟩
abbrev b7_isLetter : ByteArray := prog_8_method_15_code
def y7_token : MethodName := ⟨RX7, "token", "()V"⟩
abbrev b7_token : ByteArray := prog_8_method_16_code
def y7_isSign : MethodName := ⟨RX7, "isSign", "(I)Z"⟩
abbrev b7_isSign : ByteArray := prog_8_method_18_code
def y7_isName : MethodName := ⟨RX7, "isName", "(LSnippetExpanderModel$Library;III)Z"⟩
abbrev b7_isName : ByteArray := prog_8_method_19_code
def y7_readName : MethodName := ⟨RX7, "readName", "()Z"⟩
abbrev b7_readName : ByteArray := prog_8_method_20_code
def y7_item : MethodName := ⟨RX7, "item", "(I)V"⟩
abbrev b7_item : ByteArray := prog_8_method_21_code
def y7_turnsBack : MethodName := ⟨RX7, "turnsBack", "(I)Z"⟩
abbrev b7_turnsBack : ByteArray := prog_8_method_22_code
def y7_dependsOn : MethodName := ⟨RX7, "dependsOn", "(I)V"⟩
abbrev b7_dependsOn : ByteArray := prog_8_method_23_code
def y7_changeOf : MethodName := ⟨RX7, "changeOf", "(I)I"⟩
abbrev b7_changeOf : ByteArray := prog_8_method_24_code
def y7_readRest : MethodName := ⟨RX7, "readRest", "(III)Z"⟩
abbrev b7_readRest : ByteArray := prog_8_method_26_code
def y7_readOccurrence : MethodName := ⟨RX7, "readOccurrence", "(I)Z"⟩
abbrev b7_readOccurrence : ByteArray := prog_8_method_25_code
def y7_readBody : MethodName := ⟨RX7, "readBody", "()Z"⟩
abbrev b7_readBody : ByteArray := prog_8_method_27_code
def y7_readSnippet : MethodName := ⟨RX7, "readSnippet", "()Z"⟩
abbrev b7_readSnippet : ByteArray := prog_8_method_28_code
def y7_readOrder : MethodName := ⟨RX7, "readOrder", "()Z"⟩
abbrev b7_readOrder : ByteArray := prog_8_method_29_code
def y7_is : MethodName := ⟨RX7, "is", "(Ljava/lang/String;)Z"⟩
abbrev b7_is : ByteArray := prog_8_method_17_code
def y7_readAll : MethodName := ⟨RX7, "readAll", "()Z"⟩
abbrev b7_readAll : ByteArray := prog_8_method_30_code
def y7_load : MethodName := ⟨RX7, "load", "()I"⟩
abbrev b7_load : ByteArray := prog_8_method_31_code
def y7_errorCode : MethodName := ⟨RX7, "errorCode", "()I"⟩
abbrev b7_errorCode : ByteArray := prog_8_method_32_code
def y7_errorPosition : MethodName := ⟨RX7, "errorPosition", "()I"⟩
abbrev b7_errorPosition : ByteArray := prog_8_method_33_code
def y7_find : MethodName := ⟨RX7, "find", "()I"⟩
abbrev b7_find : ByteArray := prog_8_method_34_code
def y7_of : MethodName := ⟨RX7, "of", "(I)I"⟩
abbrev b7_of : ByteArray := prog_8_method_35_code
def y7_many : MethodName := ⟨RX7, "many", "()I"⟩
abbrev b7_many : ByteArray := prog_8_method_36_code
def y7_isTyped : MethodName := ⟨RX7, "isTyped", "(I)Z"⟩
abbrev b7_isTyped : ByteArray := prog_8_method_37_code
def y7_shows : MethodName := ⟨RX7, "shows", "()V"⟩
abbrev b7_shows : ByteArray := prog_8_method_40_code
def y7_lays : MethodName := ⟨RX7, "lays", "(I)V"⟩
abbrev b7_lays : ByteArray := prog_8_method_38_code
def y7_laysBare : MethodName := ⟨RX7, "laysBare", "(I)V"⟩
abbrev b7_laysBare : ByteArray := prog_8_method_39_code
def y7_sum : MethodName := ⟨RX7, "sum", "(II)I"⟩
abbrev b7_sum : ByteArray := prog_8_method_41_code
def y7_changed : MethodName := ⟨RX7, "changed", "(II)I"⟩
abbrev b7_changed : ByteArray := prog_8_method_42_code
def y7_valueLength : MethodName := ⟨RX7, "valueLength", "(I)I"⟩
abbrev b7_valueLength : ByteArray := prog_8_method_43_code
def y7_bodyLength : MethodName := ⟨RX7, "bodyLength", "(II)I"⟩
abbrev b7_bodyLength : ByteArray := prog_8_method_45_code
def y7_lengthAt : MethodName := ⟨RX7, "lengthAt", "(I)I"⟩
abbrev b7_lengthAt : ByteArray := prog_8_method_44_code
def y7_textLength : MethodName := ⟨RX7, "textLength", "()I"⟩
abbrev b7_textLength : ByteArray := prog_8_method_46_code
def y7_writesNumber : MethodName := ⟨RX7, "writesNumber", "(I)V"⟩
abbrev b7_writesNumber : ByteArray := prog_8_method_49_code
def y7_turned : MethodName := ⟨RX7, "turned", "(II)I"⟩
abbrev b7_turned : ByteArray := prog_8_method_50_code
def y7_changes : MethodName := ⟨RX7, "changes", "(II)V"⟩
abbrev b7_changes : ByteArray := prog_8_method_51_code
def y7_laysValue : MethodName := ⟨RX7, "laysValue", "(I)V"⟩
abbrev b7_laysValue : ByteArray := prog_8_method_47_code
def y7_writesBody : MethodName := ⟨RX7, "writesBody", "(II)V"⟩
abbrev b7_writesBody : ByteArray := prog_8_method_52_code
def y7_writesValue : MethodName := ⟨RX7, "writesValue", "(I)V"⟩
abbrev b7_writesValue : ByteArray := prog_8_method_48_code
def y7_writesText : MethodName := ⟨RX7, "writesText", "()V"⟩
abbrev b7_writesText : ByteArray := prog_8_method_53_code
def y7_firstShown : MethodName := ⟨RX7, "firstShown", "(I)I"⟩
abbrev b7_firstShown : ByteArray := prog_8_method_54_code
def y7_keyOf : MethodName := ⟨RX7, "keyOf", "(I)I"⟩
abbrev b7_keyOf : ByteArray := prog_8_method_55_code
def y7_laysLeaving : MethodName := ⟨RX7, "laysLeaving", "()V"⟩
abbrev b7_laysLeaving : ByteArray := prog_8_method_56_code
def y7_placeOf : MethodName := ⟨RX7, "placeOf", "(I)I"⟩
abbrev b7_placeOf : ByteArray := prog_8_method_57_code
def y7_size : MethodName := ⟨RX7, "size", "(I)I"⟩
abbrev b7_size : ByteArray := prog_8_method_58_code
def y7_fieldsOf : MethodName := ⟨RX7, "fieldsOf", "(I)I"⟩
abbrev b7_fieldsOf : ByteArray := prog_8_method_59_code
def y7_deepest : MethodName := ⟨RX7, "deepest", "(I)I"⟩
abbrev b7_deepest : ByteArray := prog_8_method_60_code
def y7_defaults : MethodName := ⟨RX7, "defaults", "(I)I"⟩
abbrev b7_defaults : ByteArray := prog_8_method_61_code
def y7_snippet : MethodName := ⟨RX7, "snippet", "(II)I"⟩
abbrev b7_snippet : ByteArray := prog_8_method_62_code
def y7_letter : MethodName := ⟨RX7, "letter", "(II)I"⟩
abbrev b7_letter : ByteArray := prog_8_method_63_code
def y7_depends : MethodName := ⟨RX7, "depends", "(II)I"⟩
abbrev b7_depends : ByteArray := prog_8_method_64_code
def y7_document : MethodName := ⟨RX7, "document", "(I)I"⟩
abbrev b7_document : ByteArray := prog_8_method_65_code
def y7_session : MethodName := ⟨RX7, "session", "(II)I"⟩
abbrev b7_session : ByteArray := prog_8_method_66_code
def y7_account : MethodName := ⟨RX7, "account", "(I)I"⟩
abbrev b7_account : ByteArray := prog_8_method_67_code
def y7_noSession : MethodName := ⟨RX7, "noSession", "(I)Z"⟩
abbrev b7_noSession : ByteArray := prog_8_method_68_code
def y7_shownOf : MethodName := ⟨RX7, "shownOf", "(I)I"⟩
abbrev b7_shownOf : ByteArray := prog_8_method_69_code
def y7_allOf : MethodName := ⟨RX7, "allOf", "(I)I"⟩
abbrev b7_allOf : ByteArray := prog_8_method_70_code
def y7_field : MethodName := ⟨RX7, "field", "(II)I"⟩
abbrev b7_field : ByteArray := prog_8_method_71_code
def y7_value : MethodName := ⟨RX7, "value", "(II)I"⟩
abbrev b7_value : ByteArray := prog_8_method_72_code
def y7_laysBegins : MethodName := ⟨RX7, "laysBegins", "(III)I"⟩
abbrev b7_laysBegins : ByteArray := prog_8_method_73_code
def y7_beginOf : MethodName := ⟨RX7, "beginOf", "(I)I"⟩
abbrev b7_beginOf : ByteArray := prog_8_method_74_code
def y7_occurrence : MethodName := ⟨RX7, "occurrence", "(II)I"⟩
abbrev b7_occurrence : ByteArray := prog_8_method_75_code
def y7_text : MethodName := ⟨RX7, "text", "(I)I"⟩
abbrev b7_text : ByteArray := prog_8_method_76_code
def y7_orderAt : MethodName := ⟨RX7, "orderAt", "(I)I"⟩
abbrev b7_orderAt : ByteArray := prog_8_method_77_code
def y7_whyOf : MethodName := ⟨RX7, "whyOf", "(I)I"⟩
abbrev b7_whyOf : ByteArray := prog_8_method_78_code
def y7_why : MethodName := ⟨RX7, "why", "(I)I"⟩
abbrev b7_why : ByteArray := prog_8_method_79_code
def y7_yielded : MethodName := ⟨RX7, "yielded", "()I"⟩
abbrev b7_yielded : ByteArray := prog_8_method_80_code
def y7_mirrored : MethodName := ⟨RX7, "mirrored", "()I"⟩
abbrev b7_mirrored : ByteArray := prog_8_method_81_code
def y7_longest : MethodName := ⟨RX7, "longest", "()I"⟩
abbrev b7_longest : ByteArray := prog_8_method_82_code
def y7_untouched : MethodName := ⟨RX7, "untouched", "()F"⟩
abbrev b7_untouched : ByteArray := prog_8_method_83_code
def y7_meanLength : MethodName := ⟨RX7, "meanLength", "()D"⟩
abbrev b7_meanLength : ByteArray := prog_8_method_84_code
def y7_back : MethodName := ⟨RX7, "back", "(I)I"⟩
abbrev b7_back : ByteArray := prog_8_method_85_code
def y7_lengthIf : MethodName := ⟨RX7, "lengthIf", "(I)I"⟩
abbrev b7_lengthIf : ByteArray := prog_8_method_86_code
def y7_wouldHide : MethodName := ⟨RX7, "wouldHide", "(I)I"⟩
abbrev b7_wouldHide : ByteArray := prog_8_method_87_code
def y7_lengthOf : MethodName := ⟨RX7, "lengthOf", "(I)I"⟩
abbrev b7_lengthOf : ByteArray := prog_8_method_88_code
def y7_begins : MethodName := ⟨RX7, "begins", "()V"⟩
abbrev b7_begins : ByteArray := prog_8_method_89_code
def y7_done : MethodName := ⟨RX7, "done", "(I)I"⟩
abbrev b7_done : ByteArray := prog_8_method_90_code
def y7_refused : MethodName := ⟨RX7, "refused", "(I)I"⟩
abbrev b7_refused : ByteArray := prog_8_method_91_code
def y7_isTooLong : MethodName := ⟨RX7, "isTooLong", "(I)Z"⟩
abbrev b7_isTooLong : ByteArray := prog_8_method_92_code
def y7_types : MethodName := ⟨RX7, "types", "(I[II)Z"⟩
abbrev b7_types : ByteArray := prog_8_method_93_code
def y7_ends : MethodName := ⟨RX7, "ends", "()I"⟩
abbrev b7_ends : ByteArray := prog_8_method_94_code
def y7_tells : MethodName := ⟨RX7, "tells", "(II)I"⟩
abbrev b7_tells : ByteArray := prog_8_method_95_code
def y7_expand : MethodName := ⟨RX7, "expand", "(I)I"⟩
abbrev b7_expand : ByteArray := prog_8_method_96_code
def y7_type : MethodName := ⟨RX7, "type", "(I)I"⟩
abbrev b7_type : ByteArray := prog_8_method_97_code
def y7_erase : MethodName := ⟨RX7, "erase", "()I"⟩
abbrev b7_erase : ByteArray := prog_8_method_98_code
def y7_reset : MethodName := ⟨RX7, "reset", "()I"⟩
abbrev b7_reset : ByteArray := prog_8_method_99_code
def y7_currentNow : MethodName := ⟨RX7, "currentNow", "()I"⟩
abbrev b7_currentNow : ByteArray := prog_8_method_100_code
def y7_next : MethodName := ⟨RX7, "next", "()I"⟩
abbrev b7_next : ByteArray := prog_8_method_101_code
def y7_previous : MethodName := ⟨RX7, "previous", "()I"⟩
abbrev b7_previous : ByteArray := prog_8_method_102_code
def y7_go : MethodName := ⟨RX7, "go", "(I)I"⟩
abbrev b7_go : ByteArray := prog_8_method_103_code
def y7_finish : MethodName := ⟨RX7, "finish", "()I"⟩
abbrev b7_finish : ByteArray := prog_8_method_104_code
def y7_drop : MethodName := ⟨RX7, "drop", "()I"⟩
abbrev b7_drop : ByteArray := prog_8_method_105_code
def y7_setOrder : MethodName := ⟨RX7, "setOrder", "(Z)I"⟩
abbrev b7_setOrder : ByteArray := prog_8_method_106_code
def y7_undo : MethodName := ⟨RX7, "undo", "()I"⟩
abbrev b7_undo : ByteArray := prog_8_method_107_code
def y7_noSlot : MethodName := ⟨RX7, "noSlot", "(I)Z"⟩
abbrev b7_noSlot : ByteArray := prog_8_method_108_code
def y7_save : MethodName := ⟨RX7, "save", "(I)I"⟩
abbrev b7_save : ByteArray := prog_8_method_109_code
def y7_restore : MethodName := ⟨RX7, "restore", "(I)I"⟩
abbrev b7_restore : ByteArray := prog_8_method_110_code
theorem q_136 : u_lay RX0 TX0 0 ∈ zGood := zin1 (List.mem_of_getElem? (i := 136) rfl) (by decide +kernel)
theorem q_138 : u_lay RX0 TX0 1 ∈ zGood := zin1 (List.mem_of_getElem? (i := 138) rfl) (by decide +kernel)
theorem q_140 : u_lay RX0 TX0 2 ∈ zGood := zin1 (List.mem_of_getElem? (i := 140) rfl) (by decide +kernel)
theorem q_161 : u_lay RX1 TX1 0 ∈ zGood := zin1 (List.mem_of_getElem? (i := 161) rfl) (by decide +kernel)
theorem q_163 : u_lay RX1 TX1 1 ∈ zGood := zin1 (List.mem_of_getElem? (i := 163) rfl) (by decide +kernel)
theorem q_165 : u_lay RX1 TX1 2 ∈ zGood := zin1 (List.mem_of_getElem? (i := 165) rfl) (by decide +kernel)
theorem q_167 : u_lay RX1 TX1 3 ∈ zGood := zin1 (List.mem_of_getElem? (i := 167) rfl) (by decide +kernel)
theorem q_169 : u_lay RX1 TX1 4 ∈ zGood := zin1 (List.mem_of_getElem? (i := 169) rfl) (by decide +kernel)
theorem q_171 : u_lay RX1 TX1 5 ∈ zGood := zin1 (List.mem_of_getElem? (i := 171) rfl) (by decide +kernel)
theorem q_173 : u_lay RX1 TX1 6 ∈ zGood := zin1 (List.mem_of_getElem? (i := 173) rfl) (by decide +kernel)
theorem q_175 : u_lay RX1 TX1 7 ∈ zGood := zin1 (List.mem_of_getElem? (i := 175) rfl) (by decide +kernel)
theorem q_91 : u_lay RX2 TX2 0 ∈ zGood := zin1 (List.mem_of_getElem? (i := 91) rfl) (by decide +kernel)
theorem q_93 : u_lay RX2 TX2 1 ∈ zGood := zin1 (List.mem_of_getElem? (i := 93) rfl) (by decide +kernel)
theorem q_95 : u_lay RX2 TX2 2 ∈ zGood := zin1 (List.mem_of_getElem? (i := 95) rfl) (by decide +kernel)
theorem q_97 : u_lay RX2 TX2 3 ∈ zGood := zin1 (List.mem_of_getElem? (i := 97) rfl) (by decide +kernel)
theorem q_99 : u_lay RX2 TX2 4 ∈ zGood := zin1 (List.mem_of_getElem? (i := 99) rfl) (by decide +kernel)
theorem q_101 : u_lay RX2 TX2 5 ∈ zGood := zin1 (List.mem_of_getElem? (i := 101) rfl) (by decide +kernel)
theorem q_103 : u_lay RX2 TX2 6 ∈ zGood := zin1 (List.mem_of_getElem? (i := 103) rfl) (by decide +kernel)
theorem q_105 : u_lay RX2 TX2 7 ∈ zGood := zin1 (List.mem_of_getElem? (i := 105) rfl) (by decide +kernel)
theorem q_107 : u_lay RX2 TX2 8 ∈ zGood := zin1 (List.mem_of_getElem? (i := 107) rfl) (by decide +kernel)
theorem q_109 : u_lay RX2 TX2 9 ∈ zGood := zin1 (List.mem_of_getElem? (i := 109) rfl) (by decide +kernel)
theorem q_111 : u_lay RX2 TX2 10 ∈ zGood := zin1 (List.mem_of_getElem? (i := 111) rfl) (by decide +kernel)
theorem q_113 : u_lay RX2 TX2 11 ∈ zGood := zin1 (List.mem_of_getElem? (i := 113) rfl) (by decide +kernel)
theorem q_115 : u_lay RX2 TX2 12 ∈ zGood := zin1 (List.mem_of_getElem? (i := 115) rfl) (by decide +kernel)
theorem q_117 : u_lay RX2 TX2 13 ∈ zGood := zin1 (List.mem_of_getElem? (i := 117) rfl) (by decide +kernel)
theorem q_119 : u_lay RX2 TX2 14 ∈ zGood := zin1 (List.mem_of_getElem? (i := 119) rfl) (by decide +kernel)
theorem q_121 : u_lay RX2 TX2 15 ∈ zGood := zin1 (List.mem_of_getElem? (i := 121) rfl) (by decide +kernel)
theorem q_123 : u_lay RX2 TX2 16 ∈ zGood := zin1 (List.mem_of_getElem? (i := 123) rfl) (by decide +kernel)
theorem q_201 : u_lay RX3 TX3 0 ∈ zGood := zin1 (List.mem_of_getElem? (i := 201) rfl) (by decide +kernel)
theorem q_203 : u_lay RX3 TX3 1 ∈ zGood := zin1 (List.mem_of_getElem? (i := 203) rfl) (by decide +kernel)
theorem q_205 : u_lay RX3 TX3 2 ∈ zGood := zin1 (List.mem_of_getElem? (i := 205) rfl) (by decide +kernel)
theorem q_207 : u_lay RX3 TX3 3 ∈ zGood := zin1 (List.mem_of_getElem? (i := 207) rfl) (by decide +kernel)
theorem q_209 : u_lay RX3 TX3 4 ∈ zGood := zin1 (List.mem_of_getElem? (i := 209) rfl) (by decide +kernel)
theorem q_211 : u_lay RX3 TX3 5 ∈ zGood := zin1 (List.mem_of_getElem? (i := 211) rfl) (by decide +kernel)
theorem q_213 : u_lay RX3 TX3 6 ∈ zGood := zin1 (List.mem_of_getElem? (i := 213) rfl) (by decide +kernel)
theorem q_215 : u_lay RX3 TX3 7 ∈ zGood := zin1 (List.mem_of_getElem? (i := 215) rfl) (by decide +kernel)
theorem q_217 : u_lay RX3 TX3 8 ∈ zGood := zin1 (List.mem_of_getElem? (i := 217) rfl) (by decide +kernel)
theorem q_253 : u_lay RX4 TX4 0 ∈ zGood := zin2 (List.mem_of_getElem? (i := 13) rfl) (by decide +kernel)
theorem q_255 : u_lay RX4 TX4 1 ∈ zGood := zin2 (List.mem_of_getElem? (i := 15) rfl) (by decide +kernel)
theorem q_257 : u_lay RX4 TX4 2 ∈ zGood := zin2 (List.mem_of_getElem? (i := 17) rfl) (by decide +kernel)
theorem q_259 : u_lay RX4 TX4 3 ∈ zGood := zin2 (List.mem_of_getElem? (i := 19) rfl) (by decide +kernel)
theorem q_261 : u_lay RX4 TX4 4 ∈ zGood := zin2 (List.mem_of_getElem? (i := 21) rfl) (by decide +kernel)
theorem q_263 : u_lay RX4 TX4 5 ∈ zGood := zin2 (List.mem_of_getElem? (i := 23) rfl) (by decide +kernel)
theorem q_265 : u_lay RX4 TX4 6 ∈ zGood := zin2 (List.mem_of_getElem? (i := 25) rfl) (by decide +kernel)
theorem q_267 : u_lay RX4 TX4 7 ∈ zGood := zin2 (List.mem_of_getElem? (i := 27) rfl) (by decide +kernel)
theorem q_269 : u_lay RX4 TX4 8 ∈ zGood := zin2 (List.mem_of_getElem? (i := 29) rfl) (by decide +kernel)
theorem q_271 : u_lay RX4 TX4 9 ∈ zGood := zin2 (List.mem_of_getElem? (i := 31) rfl) (by decide +kernel)
theorem q_273 : u_lay RX4 TX4 10 ∈ zGood := zin2 (List.mem_of_getElem? (i := 33) rfl) (by decide +kernel)
theorem q_275 : u_lay RX4 TX4 11 ∈ zGood := zin2 (List.mem_of_getElem? (i := 35) rfl) (by decide +kernel)
theorem q_277 : u_lay RX4 TX4 12 ∈ zGood := zin2 (List.mem_of_getElem? (i := 37) rfl) (by decide +kernel)
theorem q_295 : u_lay RX5 TX5 0 ∈ zGood := zin2 (List.mem_of_getElem? (i := 55) rfl) (by decide +kernel)
theorem q_297 : u_lay RX5 TX5 1 ∈ zGood := zin2 (List.mem_of_getElem? (i := 57) rfl) (by decide +kernel)
theorem q_299 : u_lay RX5 TX5 2 ∈ zGood := zin2 (List.mem_of_getElem? (i := 59) rfl) (by decide +kernel)
theorem q_301 : u_lay RX5 TX5 3 ∈ zGood := zin2 (List.mem_of_getElem? (i := 61) rfl) (by decide +kernel)
theorem q_303 : u_lay RX5 TX5 4 ∈ zGood := zin2 (List.mem_of_getElem? (i := 63) rfl) (by decide +kernel)
theorem q_305 : u_lay RX5 TX5 5 ∈ zGood := zin2 (List.mem_of_getElem? (i := 65) rfl) (by decide +kernel)
theorem q_307 : u_lay RX5 TX5 6 ∈ zGood := zin2 (List.mem_of_getElem? (i := 67) rfl) (by decide +kernel)
theorem q_309 : u_lay RX5 TX5 7 ∈ zGood := zin2 (List.mem_of_getElem? (i := 69) rfl) (by decide +kernel)
theorem q_311 : u_lay RX5 TX5 8 ∈ zGood := zin2 (List.mem_of_getElem? (i := 71) rfl) (by decide +kernel)
theorem q_313 : u_lay RX5 TX5 9 ∈ zGood := zin2 (List.mem_of_getElem? (i := 73) rfl) (by decide +kernel)
theorem q_315 : u_lay RX5 TX5 10 ∈ zGood := zin2 (List.mem_of_getElem? (i := 75) rfl) (by decide +kernel)
theorem q_317 : u_lay RX5 TX5 11 ∈ zGood := zin2 (List.mem_of_getElem? (i := 77) rfl) (by decide +kernel)
theorem q_319 : u_lay RX5 TX5 12 ∈ zGood := zin2 (List.mem_of_getElem? (i := 79) rfl) (by decide +kernel)
theorem q_321 : u_lay RX5 TX5 13 ∈ zGood := zin2 (List.mem_of_getElem? (i := 81) rfl) (by decide +kernel)
theorem q_1166 : u_lay RX6 TX6 0 ∈ zGood := zin5 (List.mem_of_getElem? (i := 206) rfl) (by decide +kernel)
theorem q_1168 : u_lay RX6 TX6 1 ∈ zGood := zin5 (List.mem_of_getElem? (i := 208) rfl) (by decide +kernel)
theorem q_1170 : u_lay RX6 TX6 2 ∈ zGood := zin5 (List.mem_of_getElem? (i := 210) rfl) (by decide +kernel)
theorem q_1172 : u_lay RX6 TX6 3 ∈ zGood := zin5 (List.mem_of_getElem? (i := 212) rfl) (by decide +kernel)
theorem q_1174 : u_lay RX6 TX6 4 ∈ zGood := zin5 (List.mem_of_getElem? (i := 214) rfl) (by decide +kernel)
theorem q_1176 : u_lay RX6 TX6 5 ∈ zGood := zin5 (List.mem_of_getElem? (i := 216) rfl) (by decide +kernel)
theorem q_1178 : u_lay RX6 TX6 6 ∈ zGood := zin5 (List.mem_of_getElem? (i := 218) rfl) (by decide +kernel)
theorem q_1180 : u_lay RX6 TX6 7 ∈ zGood := zin5 (List.mem_of_getElem? (i := 220) rfl) (by decide +kernel)
theorem q_1182 : u_lay RX6 TX6 8 ∈ zGood := zin5 (List.mem_of_getElem? (i := 222) rfl) (by decide +kernel)
theorem q_1184 : u_lay RX6 TX6 9 ∈ zGood := zin5 (List.mem_of_getElem? (i := 224) rfl) (by decide +kernel)
theorem q_1186 : u_lay RX6 TX6 10 ∈ zGood := zin5 (List.mem_of_getElem? (i := 226) rfl) (by decide +kernel)
theorem q_1188 : u_lay RX6 TX6 11 ∈ zGood := zin5 (List.mem_of_getElem? (i := 228) rfl) (by decide +kernel)
theorem q_1190 : u_lay RX6 TX6 12 ∈ zGood := zin5 (List.mem_of_getElem? (i := 230) rfl) (by decide +kernel)
theorem q_1192 : u_lay RX6 TX6 13 ∈ zGood := zin5 (List.mem_of_getElem? (i := 232) rfl) (by decide +kernel)
theorem q_1194 : u_lay RX6 TX6 14 ∈ zGood := zin5 (List.mem_of_getElem? (i := 234) rfl) (by decide +kernel)
theorem q_1233 : u_lay RX7 TX7 0 ∈ zGood := zin6 (List.mem_of_getElem? (i := 33) rfl) (by decide +kernel)
theorem q_1235 : u_lay RX7 TX7 1 ∈ zGood := zin6 (List.mem_of_getElem? (i := 35) rfl) (by decide +kernel)
theorem q_1237 : u_lay RX7 TX7 2 ∈ zGood := zin6 (List.mem_of_getElem? (i := 37) rfl) (by decide +kernel)
theorem q_1239 : u_lay RX7 TX7 3 ∈ zGood := zin6 (List.mem_of_getElem? (i := 39) rfl) (by decide +kernel)
theorem q_1241 : u_lay RX7 TX7 4 ∈ zGood := zin6 (List.mem_of_getElem? (i := 41) rfl) (by decide +kernel)
theorem q_1243 : u_lay RX7 TX7 5 ∈ zGood := zin6 (List.mem_of_getElem? (i := 43) rfl) (by decide +kernel)
theorem q_1245 : u_lay RX7 TX7 6 ∈ zGood := zin6 (List.mem_of_getElem? (i := 45) rfl) (by decide +kernel)
theorem q_1247 : u_lay RX7 TX7 7 ∈ zGood := zin6 (List.mem_of_getElem? (i := 47) rfl) (by decide +kernel)
theorem q_1249 : u_lay RX7 TX7 8 ∈ zGood := zin6 (List.mem_of_getElem? (i := 49) rfl) (by decide +kernel)
theorem q_1251 : u_lay RX7 TX7 9 ∈ zGood := zin6 (List.mem_of_getElem? (i := 51) rfl) (by decide +kernel)
theorem q_1253 : u_lay RX7 TX7 10 ∈ zGood := zin6 (List.mem_of_getElem? (i := 53) rfl) (by decide +kernel)
theorem q_1255 : u_lay RX7 TX7 11 ∈ zGood := zin6 (List.mem_of_getElem? (i := 55) rfl) (by decide +kernel)
theorem q_1257 : u_lay RX7 TX7 12 ∈ zGood := zin6 (List.mem_of_getElem? (i := 57) rfl) (by decide +kernel)
theorem q_1259 : u_lay RX7 TX7 13 ∈ zGood := zin6 (List.mem_of_getElem? (i := 59) rfl) (by decide +kernel)
theorem q_1261 : u_lay RX7 TX7 14 ∈ zGood := zin6 (List.mem_of_getElem? (i := 61) rfl) (by decide +kernel)
theorem q_1263 : u_lay RX7 TX7 15 ∈ zGood := zin6 (List.mem_of_getElem? (i := 63) rfl) (by decide +kernel)
theorem q_1265 : u_lay RX7 TX7 16 ∈ zGood := zin6 (List.mem_of_getElem? (i := 65) rfl) (by decide +kernel)
theorem q_1267 : u_lay RX7 TX7 17 ∈ zGood := zin6 (List.mem_of_getElem? (i := 67) rfl) (by decide +kernel)
theorem q_1269 : u_lay RX7 TX7 18 ∈ zGood := zin6 (List.mem_of_getElem? (i := 69) rfl) (by decide +kernel)
theorem q_1271 : u_lay RX7 TX7 19 ∈ zGood := zin6 (List.mem_of_getElem? (i := 71) rfl) (by decide +kernel)
theorem q_1273 : u_lay RX7 TX7 20 ∈ zGood := zin6 (List.mem_of_getElem? (i := 73) rfl) (by decide +kernel)
theorem q_1275 : u_lay RX7 TX7 21 ∈ zGood := zin6 (List.mem_of_getElem? (i := 75) rfl) (by decide +kernel)
theorem q_1277 : u_lay RX7 TX7 22 ∈ zGood := zin6 (List.mem_of_getElem? (i := 77) rfl) (by decide +kernel)
theorem q_1279 : u_lay RX7 TX7 23 ∈ zGood := zin6 (List.mem_of_getElem? (i := 79) rfl) (by decide +kernel)
theorem q_1281 : u_lay RX7 TX7 24 ∈ zGood := zin6 (List.mem_of_getElem? (i := 81) rfl) (by decide +kernel)
theorem q_1283 : u_lay RX7 TX7 25 ∈ zGood := zin6 (List.mem_of_getElem? (i := 83) rfl) (by decide +kernel)
theorem q_1285 : u_lay RX7 TX7 26 ∈ zGood := zin6 (List.mem_of_getElem? (i := 85) rfl) (by decide +kernel)
theorem q_1287 : u_lay RX7 TX7 27 ∈ zGood := zin6 (List.mem_of_getElem? (i := 87) rfl) (by decide +kernel)
theorem q_1289 : u_lay RX7 TX7 28 ∈ zGood := zin6 (List.mem_of_getElem? (i := 89) rfl) (by decide +kernel)
theorem q_1291 : u_lay RX7 TX7 29 ∈ zGood := zin6 (List.mem_of_getElem? (i := 91) rfl) (by decide +kernel)
theorem q_1293 : u_lay RX7 TX7 30 ∈ zGood := zin6 (List.mem_of_getElem? (i := 93) rfl) (by decide +kernel)
theorem q_1295 : u_lay RX7 TX7 31 ∈ zGood := zin6 (List.mem_of_getElem? (i := 95) rfl) (by decide +kernel)
theorem q_1297 : u_lay RX7 TX7 32 ∈ zGood := zin6 (List.mem_of_getElem? (i := 97) rfl) (by decide +kernel)
theorem q_1299 : u_lay RX7 TX7 33 ∈ zGood := zin6 (List.mem_of_getElem? (i := 99) rfl) (by decide +kernel)
theorem q_1301 : u_lay RX7 TX7 34 ∈ zGood := zin6 (List.mem_of_getElem? (i := 101) rfl) (by decide +kernel)
theorem q_1303 : u_lay RX7 TX7 35 ∈ zGood := zin6 (List.mem_of_getElem? (i := 103) rfl) (by decide +kernel)
theorem q_50 : Cond.fieldLink RX2 49 (TX2 2).1 (TX2 2).2.1 (TX2 2).2.2.1 ∈ zGood := zin1 (List.mem_of_getElem? (i := 50) rfl) (by decide +kernel)
theorem q_54 : Cond.fieldLink RX2 53 (TX2 3).1 (TX2 3).2.1 (TX2 3).2.2.1 ∈ zGood := zin1 (List.mem_of_getElem? (i := 54) rfl) (by decide +kernel)
theorem q_88 : Cond.fieldLink RX2 56 (TX2 15).1 (TX2 15).2.1 (TX2 15).2.2.1 ∈ zGood := zin1 (List.mem_of_getElem? (i := 88) rfl) (by decide +kernel)
theorem q_89 : Cond.fieldLink RX2 59 (TX2 16).1 (TX2 16).2.1 (TX2 16).2.2.1 ∈ zGood := zin1 (List.mem_of_getElem? (i := 89) rfl) (by decide +kernel)
theorem q_75 : Cond.fieldLink RX2 31 (TX2 9).1 (TX2 9).2.1 (TX2 9).2.2.1 ∈ zGood := zin1 (List.mem_of_getElem? (i := 75) rfl) (by decide +kernel)
theorem q_78 : Cond.fieldLink RX2 34 (TX2 10).1 (TX2 10).2.1 (TX2 10).2.2.1 ∈ zGood := zin1 (List.mem_of_getElem? (i := 78) rfl) (by decide +kernel)
theorem q_420 : Cond.methodLink RX2 62 Lib.Math.min.name ∈ zGood := zin2 (List.mem_of_getElem? (i := 180) rfl) (by decide +kernel)
theorem q_333 : Cond.static Lib.Math.min.name ∈ zGood := zin2 (List.mem_of_getElem? (i := 93) rfl) (by decide +kernel)
theorem q_13 : Cond.initialized "java/lang/Math" ∈ zGood := zin1 (List.mem_of_getElem? (i := 13) rfl) (by decide +kernel)
theorem q_334 : Cond.code Lib.Math.min.name Lib.Math.min.code 2 (some .int) ∈ zGood := zin2 (List.mem_of_getElem? (i := 94) rfl) (by decide +kernel)
theorem q_48 : Cond.fieldLink RX2 68 (TX2 1).1 (TX2 1).2.1 (TX2 1).2.2.1 ∈ zGood := zin1 (List.mem_of_getElem? (i := 48) rfl) (by decide +kernel)
theorem q_46 : Cond.fieldLink RX2 9 (TX2 0).1 (TX2 0).2.1 (TX2 0).2.2.1 ∈ zGood := zin1 (List.mem_of_getElem? (i := 46) rfl) (by decide +kernel)
theorem q_80 : Cond.fieldLink RX2 43 (TX2 11).1 (TX2 11).2.1 (TX2 11).2.2.1 ∈ zGood := zin1 (List.mem_of_getElem? (i := 80) rfl) (by decide +kernel)
theorem q_82 : Cond.fieldLink RX2 46 (TX2 12).1 (TX2 12).2.1 (TX2 12).2.2.1 ∈ zGood := zin1 (List.mem_of_getElem? (i := 82) rfl) (by decide +kernel)
theorem q_57 : Cond.fieldLink RX2 15 (TX2 4).1 (TX2 4).2.1 (TX2 4).2.2.1 ∈ zGood := zin1 (List.mem_of_getElem? (i := 57) rfl) (by decide +kernel)
theorem q_61 : Cond.fieldLink RX2 18 (TX2 5).1 (TX2 5).2.1 (TX2 5).2.2.1 ∈ zGood := zin1 (List.mem_of_getElem? (i := 61) rfl) (by decide +kernel)
theorem q_65 : Cond.fieldLink RX2 21 (TX2 6).1 (TX2 6).2.1 (TX2 6).2.2.1 ∈ zGood := zin1 (List.mem_of_getElem? (i := 65) rfl) (by decide +kernel)
theorem q_69 : Cond.fieldLink RX2 25 (TX2 7).1 (TX2 7).2.1 (TX2 7).2.2.1 ∈ zGood := zin1 (List.mem_of_getElem? (i := 69) rfl) (by decide +kernel)
theorem q_73 : Cond.fieldLink RX2 28 (TX2 8).1 (TX2 8).2.1 (TX2 8).2.2.1 ∈ zGood := zin1 (List.mem_of_getElem? (i := 73) rfl) (by decide +kernel)
theorem q_84 : Cond.fieldLink RX2 37 (TX2 13).1 (TX2 13).2.1 (TX2 13).2.2.1 ∈ zGood := zin1 (List.mem_of_getElem? (i := 84) rfl) (by decide +kernel)
theorem q_86 : Cond.fieldLink RX2 40 (TX2 14).1 (TX2 14).2.1 (TX2 14).2.2.1 ∈ zGood := zin1 (List.mem_of_getElem? (i := 86) rfl) (by decide +kernel)
theorem q_838 : Cond.methodLink RX2 71 Lib.Math.max.name ∈ zGood := zin4 (List.mem_of_getElem? (i := 118) rfl) (by decide +kernel)
theorem q_839 : Cond.static Lib.Math.max.name ∈ zGood := zin4 (List.mem_of_getElem? (i := 119) rfl) (by decide +kernel)
theorem q_840 : Cond.code Lib.Math.max.name Lib.Math.max.code 2 (some .int) ∈ zGood := zin4 (List.mem_of_getElem? (i := 120) rfl) (by decide +kernel)
theorem q_183 : Cond.fieldLink RX3 30 (TX3 0).1 (TX3 0).2.1 (TX3 0).2.2.1 ∈ zGood := zin1 (List.mem_of_getElem? (i := 183) rfl) (by decide +kernel)
theorem q_185 : Cond.fieldLink RX3 34 (TX3 1).1 (TX3 1).2.1 (TX3 1).2.2.1 ∈ zGood := zin1 (List.mem_of_getElem? (i := 185) rfl) (by decide +kernel)
theorem q_199 : Cond.fieldLink RX3 38 (TX3 8).1 (TX3 8).2.1 (TX3 8).2.2.1 ∈ zGood := zin1 (List.mem_of_getElem? (i := 199) rfl) (by decide +kernel)
theorem q_187 : Cond.fieldLink RX3 9 (TX3 2).1 (TX3 2).2.1 (TX3 2).2.2.1 ∈ zGood := zin1 (List.mem_of_getElem? (i := 187) rfl) (by decide +kernel)
theorem q_598 : Cond.methodLink RX3 41 arraycopyName ∈ zGood := zin3 (List.mem_of_getElem? (i := 118) rfl) (by decide +kernel)
theorem q_531 : Cond.native arraycopyName ∈ zGood := zin3 (List.mem_of_getElem? (i := 51) rfl) (by decide +kernel)
theorem q_530 : Cond.static arraycopyName ∈ zGood := zin3 (List.mem_of_getElem? (i := 50) rfl) (by decide +kernel)
theorem q_20 : Cond.initialized "java/lang/System" ∈ zGood := zin1 (List.mem_of_getElem? (i := 20) rfl) (by decide +kernel)
theorem q_189 : Cond.fieldLink RX3 15 (TX3 3).1 (TX3 3).2.1 (TX3 3).2.2.1 ∈ zGood := zin1 (List.mem_of_getElem? (i := 189) rfl) (by decide +kernel)
theorem q_191 : Cond.fieldLink RX3 18 (TX3 4).1 (TX3 4).2.1 (TX3 4).2.2.1 ∈ zGood := zin1 (List.mem_of_getElem? (i := 191) rfl) (by decide +kernel)
theorem q_194 : Cond.fieldLink RX3 21 (TX3 5).1 (TX3 5).2.1 (TX3 5).2.2.1 ∈ zGood := zin1 (List.mem_of_getElem? (i := 194) rfl) (by decide +kernel)
theorem q_195 : Cond.fieldLink RX3 24 (TX3 6).1 (TX3 6).2.1 (TX3 6).2.2.1 ∈ zGood := zin1 (List.mem_of_getElem? (i := 195) rfl) (by decide +kernel)
theorem q_197 : Cond.fieldLink RX3 27 (TX3 7).1 (TX3 7).2.1 (TX3 7).2.2.1 ∈ zGood := zin1 (List.mem_of_getElem? (i := 197) rfl) (by decide +kernel)
theorem q_638 : Cond.methodLink RX3 47 Lib.Math.min.name ∈ zGood := zin3 (List.mem_of_getElem? (i := 158) rfl) (by decide +kernel)
theorem q_228 : Cond.fieldLink RX4 43 (TX4 0).1 (TX4 0).2.1 (TX4 0).2.2.1 ∈ zGood := zin1 (List.mem_of_getElem? (i := 228) rfl) (by decide +kernel)
theorem q_192 : Cond.fieldLink RX4 47 (TX3 4).1 (TX3 4).2.1 (TX3 4).2.2.1 ∈ zGood := zin1 (List.mem_of_getElem? (i := 192) rfl) (by decide +kernel)
theorem q_230 : Cond.fieldLink RX4 52 (TX4 1).1 (TX4 1).2.1 (TX4 1).2.2.1 ∈ zGood := zin1 (List.mem_of_getElem? (i := 230) rfl) (by decide +kernel)
theorem q_525 : Cond.methodLink RX4 56 y3_typedLength ∈ zGood := zin3 (List.mem_of_getElem? (i := 45) rfl) (by decide +kernel)
theorem q_526 : Cond.instanceMethod y3_typedLength ∈ zGood := zin3 (List.mem_of_getElem? (i := 46) rfl) (by decide +kernel)
theorem q_527 : Cond.selects RX3 y3_typedLength y3_typedLength ∈ zGood := zin3 (List.mem_of_getElem? (i := 47) rfl) (by decide +kernel)
theorem q_5 : Cond.initialized RX3 ∈ zGood := zin1 (List.mem_of_getElem? (i := 5) rfl) (by decide +kernel)
theorem q_528 : Cond.code y3_typedLength b3_typedLength 3 (some .int) ∈ zGood := zin3 (List.mem_of_getElem? (i := 48) rfl) (by decide +kernel)
theorem q_232 : Cond.fieldLink RX4 9 (TX4 2).1 (TX4 2).2.1 (TX4 2).2.2.1 ∈ zGood := zin1 (List.mem_of_getElem? (i := 232) rfl) (by decide +kernel)
theorem q_196 : Cond.fieldLink RX4 60 (TX3 6).1 (TX3 6).2.1 (TX3 6).2.2.1 ∈ zGood := zin1 (List.mem_of_getElem? (i := 196) rfl) (by decide +kernel)
theorem q_249 : Cond.fieldLink RX4 32 (TX4 11).1 (TX4 11).2.1 (TX4 11).2.2.1 ∈ zGood := zin2 (List.mem_of_getElem? (i := 9) rfl) (by decide +kernel)
theorem q_529 : Cond.methodLink RX4 63 arraycopyName ∈ zGood := zin3 (List.mem_of_getElem? (i := 49) rfl) (by decide +kernel)
theorem q_233 : Cond.fieldLink RX4 69 (TX4 3).1 (TX4 3).2.1 (TX4 3).2.2.1 ∈ zGood := zin1 (List.mem_of_getElem? (i := 233) rfl) (by decide +kernel)
theorem q_237 : Cond.fieldLink RX4 19 (TX4 5).1 (TX4 5).2.1 (TX4 5).2.2.1 ∈ zGood := zin1 (List.mem_of_getElem? (i := 237) rfl) (by decide +kernel)
theorem q_58 : Cond.fieldLink RX4 72 (TX2 4).1 (TX2 4).2.1 (TX2 4).2.2.1 ∈ zGood := zin1 (List.mem_of_getElem? (i := 58) rfl) (by decide +kernel)
theorem q_239 : Cond.fieldLink RX4 22 (TX4 6).1 (TX4 6).2.1 (TX4 6).2.2.1 ∈ zGood := zin1 (List.mem_of_getElem? (i := 239) rfl) (by decide +kernel)
theorem q_52 : Cond.fieldLink RX4 99 (TX2 2).1 (TX2 2).2.1 (TX2 2).2.2.1 ∈ zGood := zin1 (List.mem_of_getElem? (i := 52) rfl) (by decide +kernel)
theorem q_70 : Cond.fieldLink RX4 102 (TX2 7).1 (TX2 7).2.1 (TX2 7).2.2.1 ∈ zGood := zin1 (List.mem_of_getElem? (i := 70) rfl) (by decide +kernel)
theorem q_235 : Cond.fieldLink RX4 15 (TX4 4).1 (TX4 4).2.1 (TX4 4).2.2.1 ∈ zGood := zin1 (List.mem_of_getElem? (i := 235) rfl) (by decide +kernel)
theorem q_540 : Cond.methodLink RX4 105 y4_isDefaultShown ∈ zGood := zin3 (List.mem_of_getElem? (i := 60) rfl) (by decide +kernel)
theorem q_541 : Cond.instanceMethod y4_isDefaultShown ∈ zGood := zin3 (List.mem_of_getElem? (i := 61) rfl) (by decide +kernel)
theorem q_542 : Cond.selects RX4 y4_isDefaultShown y4_isDefaultShown ∈ zGood := zin3 (List.mem_of_getElem? (i := 62) rfl) (by decide +kernel)
theorem q_6 : Cond.initialized RX4 ∈ zGood := zin1 (List.mem_of_getElem? (i := 6) rfl) (by decide +kernel)
theorem q_543 : Cond.code y4_isDefaultShown b4_isDefaultShown 2 (some .boolean) ∈ zGood := zin3 (List.mem_of_getElem? (i := 63) rfl) (by decide +kernel)
theorem q_66 : Cond.fieldLink RX4 108 (TX2 6).1 (TX2 6).2.1 (TX2 6).2.2.1 ∈ zGood := zin1 (List.mem_of_getElem? (i := 66) rfl) (by decide +kernel)
theorem q_544 : Cond.methodLink RX4 87 y4_isTyped ∈ zGood := zin3 (List.mem_of_getElem? (i := 64) rfl) (by decide +kernel)
theorem q_545 : Cond.instanceMethod y4_isTyped ∈ zGood := zin3 (List.mem_of_getElem? (i := 65) rfl) (by decide +kernel)
theorem q_546 : Cond.selects RX4 y4_isTyped y4_isTyped ∈ zGood := zin3 (List.mem_of_getElem? (i := 66) rfl) (by decide +kernel)
theorem q_547 : Cond.code y4_isTyped b4_isTyped 2 (some .boolean) ∈ zGood := zin3 (List.mem_of_getElem? (i := 67) rfl) (by decide +kernel)
theorem q_551 : Cond.constant "java/lang/Integer" 265 (zi 1431655765) ∈ zGood := zin3 (List.mem_of_getElem? (i := 71) rfl) (by decide +kernel)
theorem q_552 : Cond.constant "java/lang/Integer" 266 (zi 858993459) ∈ zGood := zin3 (List.mem_of_getElem? (i := 72) rfl) (by decide +kernel)
theorem q_553 : Cond.constant "java/lang/Integer" 267 (zi 252645135) ∈ zGood := zin3 (List.mem_of_getElem? (i := 73) rfl) (by decide +kernel)
theorem q_568 : Cond.constantLong RX4 130 (zl 10) ∈ zGood := zin3 (List.mem_of_getElem? (i := 88) rfl) (by decide +kernel)
theorem q_241 : Cond.fieldLink RX4 25 (TX4 7).1 (TX4 7).2.1 (TX4 7).2.2.1 ∈ zGood := zin2 (List.mem_of_getElem? (i := 1) rfl) (by decide +kernel)
theorem q_62 : Cond.fieldLink RX4 117 (TX2 5).1 (TX2 5).2.1 (TX2 5).2.2.1 ∈ zGood := zin1 (List.mem_of_getElem? (i := 62) rfl) (by decide +kernel)
theorem q_562 : Cond.methodLink RX4 120 Lib.MathLoose.min_long.x ∈ zGood := zin3 (List.mem_of_getElem? (i := 82) rfl) (by decide +kernel)
theorem q_563 : Cond.static Lib.MathLoose.min_long.x ∈ zGood := zin3 (List.mem_of_getElem? (i := 83) rfl) (by decide +kernel)
theorem q_564 : Cond.code Lib.MathLoose.min_long.x Lib.MathLoose.min_long.code 4 (some .long) ∈ zGood := zin3 (List.mem_of_getElem? (i := 84) rfl) (by decide +kernel)
theorem q_565 : Cond.methodLink RX4 126 y4_countDigits ∈ zGood := zin3 (List.mem_of_getElem? (i := 85) rfl) (by decide +kernel)
theorem q_566 : Cond.static y4_countDigits ∈ zGood := zin3 (List.mem_of_getElem? (i := 86) rfl) (by decide +kernel)
theorem q_567 : Cond.code y4_countDigits b4_countDigits 6 (some .int) ∈ zGood := zin3 (List.mem_of_getElem? (i := 87) rfl) (by decide +kernel)
theorem q_79 : Cond.fieldLink RX4 111 (TX2 10).1 (TX2 10).2.1 (TX2 10).2.2.1 ∈ zGood := zin1 (List.mem_of_getElem? (i := 79) rfl) (by decide +kernel)
theorem q_558 : Cond.methodLink RX4 114 y4_changedLength ∈ zGood := zin3 (List.mem_of_getElem? (i := 78) rfl) (by decide +kernel)
theorem q_559 : Cond.instanceMethod y4_changedLength ∈ zGood := zin3 (List.mem_of_getElem? (i := 79) rfl) (by decide +kernel)
theorem q_560 : Cond.selects RX4 y4_changedLength y4_changedLength ∈ zGood := zin3 (List.mem_of_getElem? (i := 80) rfl) (by decide +kernel)
theorem q_561 : Cond.code y4_changedLength b4_changedLength 4 (some .long) ∈ zGood := zin3 (List.mem_of_getElem? (i := 81) rfl) (by decide +kernel)
theorem q_536 : Cond.methodLink RX4 75 y4_show ∈ zGood := zin3 (List.mem_of_getElem? (i := 56) rfl) (by decide +kernel)
theorem q_538 : Cond.instanceMethod y4_show ∈ zGood := zin3 (List.mem_of_getElem? (i := 58) rfl) (by decide +kernel)
theorem qs_4_show : Cond.selects RX4 y4_show y4_show ∈ zGood := zinS (q := (y4_show, 13)) (List.mem_of_getElem? (i := 18) rfl) (by decide +kernel)
theorem q_539 : Cond.code y4_show b4_show 4 (none) ∈ zGood := zin3 (List.mem_of_getElem? (i := 59) rfl) (by decide +kernel)
theorem q_554 : Cond.methodLink RX4 91 y4_measurePart ∈ zGood := zin3 (List.mem_of_getElem? (i := 74) rfl) (by decide +kernel)
theorem q_556 : Cond.instanceMethod y4_measurePart ∈ zGood := zin3 (List.mem_of_getElem? (i := 76) rfl) (by decide +kernel)
theorem qs_4_measurePart : Cond.selects RX4 y4_measurePart y4_measurePart ∈ zGood := zinS (q := (y4_measurePart, 13)) (List.mem_of_getElem? (i := 19) rfl) (by decide +kernel)
theorem q_557 : Cond.code y4_measurePart b4_measurePart 5 (some .long) ∈ zGood := zin3 (List.mem_of_getElem? (i := 77) rfl) (by decide +kernel)
theorem q_243 : Cond.fieldLink RX4 95 (TX4 8).1 (TX4 8).2.1 (TX4 8).2.2.1 ∈ zGood := zin2 (List.mem_of_getElem? (i := 3) rfl) (by decide +kernel)
theorem q_76 : Cond.fieldLink RX4 78 (TX2 9).1 (TX2 9).2.1 (TX2 9).2.2.1 ∈ zGood := zin1 (List.mem_of_getElem? (i := 76) rfl) (by decide +kernel)
theorem q_548 : Cond.methodLink RX4 81 yJ_bitCount ∈ zGood := zin3 (List.mem_of_getElem? (i := 68) rfl) (by decide +kernel)
theorem q_549 : Cond.static yJ_bitCount ∈ zGood := zin3 (List.mem_of_getElem? (i := 69) rfl) (by decide +kernel)
theorem q_21 : Cond.initialized "java/lang/Integer" ∈ zGood := zin1 (List.mem_of_getElem? (i := 21) rfl) (by decide +kernel)
theorem q_550 : Cond.code yJ_bitCount bJ_bitCount 1 (some .int) ∈ zGood := zin3 (List.mem_of_getElem? (i := 70) rfl) (by decide +kernel)
theorem q_608 : Cond.methodLink RX4 135 y2_firstItemOf ∈ zGood := zin3 (List.mem_of_getElem? (i := 128) rfl) (by decide +kernel)
theorem q_609 : Cond.instanceMethod y2_firstItemOf ∈ zGood := zin3 (List.mem_of_getElem? (i := 129) rfl) (by decide +kernel)
theorem q_610 : Cond.selects RX2 y2_firstItemOf y2_firstItemOf ∈ zGood := zin3 (List.mem_of_getElem? (i := 130) rfl) (by decide +kernel)
theorem q_3 : Cond.initialized RX2 ∈ zGood := zin1 (List.mem_of_getElem? (i := 3) rfl) (by decide +kernel)
theorem q_611 : Cond.code y2_firstItemOf b2_firstItemOf 2 (some .int) ∈ zGood := zin3 (List.mem_of_getElem? (i := 131) rfl) (by decide +kernel)
theorem q_85 : Cond.fieldLink RX4 138 (TX2 13).1 (TX2 13).2.1 (TX2 13).2.2.1 ∈ zGood := zin1 (List.mem_of_getElem? (i := 85) rfl) (by decide +kernel)
theorem q_83 : Cond.fieldLink RX4 141 (TX2 12).1 (TX2 12).2.1 (TX2 12).2.2.1 ∈ zGood := zin1 (List.mem_of_getElem? (i := 83) rfl) (by decide +kernel)
theorem q_81 : Cond.fieldLink RX4 144 (TX2 11).1 (TX2 11).2.1 (TX2 11).2.2.1 ∈ zGood := zin1 (List.mem_of_getElem? (i := 81) rfl) (by decide +kernel)
theorem q_941 : Cond.methodLink RX4 132 y4_lengthAheadInPart ∈ zGood := zin4 (List.mem_of_getElem? (i := 221) rfl) (by decide +kernel)
theorem q_943 : Cond.instanceMethod y4_lengthAheadInPart ∈ zGood := zin4 (List.mem_of_getElem? (i := 223) rfl) (by decide +kernel)
theorem qs_4_lengthAheadInPart : Cond.selects RX4 y4_lengthAheadInPart y4_lengthAheadInPart ∈ zGood := zinS (q := (y4_lengthAheadInPart, 13)) (List.mem_of_getElem? (i := 34) rfl) (by decide +kernel)
theorem q_944 : Cond.code y4_lengthAheadInPart b4_lengthAheadInPart 7 (some .long) ∈ zGood := zin4 (List.mem_of_getElem? (i := 224) rfl) (by decide +kernel)
theorem q_247 : Cond.fieldLink RX4 147 (TX4 10).1 (TX4 10).2.1 (TX4 10).2.2.1 ∈ zGood := zin2 (List.mem_of_getElem? (i := 7) rfl) (by decide +kernel)
theorem q_245 : Cond.fieldLink RX4 29 (TX4 9).1 (TX4 9).2.1 (TX4 9).2.2.1 ∈ zGood := zin2 (List.mem_of_getElem? (i := 5) rfl) (by decide +kernel)
theorem q_577 : Cond.methodLink RX4 154 y4_isLive ∈ zGood := zin3 (List.mem_of_getElem? (i := 97) rfl) (by decide +kernel)
theorem q_578 : Cond.instanceMethod y4_isLive ∈ zGood := zin3 (List.mem_of_getElem? (i := 98) rfl) (by decide +kernel)
theorem q_579 : Cond.selects RX4 y4_isLive y4_isLive ∈ zGood := zin3 (List.mem_of_getElem? (i := 99) rfl) (by decide +kernel)
theorem q_580 : Cond.code y4_isLive b4_isLive 2 (some .boolean) ∈ zGood := zin3 (List.mem_of_getElem? (i := 100) rfl) (by decide +kernel)
theorem q_573 : Cond.methodLink RX4 150 y4_addToOrder ∈ zGood := zin3 (List.mem_of_getElem? (i := 93) rfl) (by decide +kernel)
theorem q_575 : Cond.instanceMethod y4_addToOrder ∈ zGood := zin3 (List.mem_of_getElem? (i := 95) rfl) (by decide +kernel)
theorem qs_4_addToOrder : Cond.selects RX4 y4_addToOrder y4_addToOrder ∈ zGood := zinS (q := (y4_addToOrder, 13)) (List.mem_of_getElem? (i := 20) rfl) (by decide +kernel)
theorem q_576 : Cond.code y4_addToOrder b4_addToOrder 2 (none) ∈ zGood := zin3 (List.mem_of_getElem? (i := 96) rfl) (by decide +kernel)
theorem q_56 : Cond.fieldLink RX4 157 (TX2 3).1 (TX2 3).2.1 (TX2 3).2.2.1 ∈ zGood := zin1 (List.mem_of_getElem? (i := 56) rfl) (by decide +kernel)
theorem q_621 : Cond.methodLink RX4 176 y4_toUpper ∈ zGood := zin3 (List.mem_of_getElem? (i := 141) rfl) (by decide +kernel)
theorem q_622 : Cond.static y4_toUpper ∈ zGood := zin3 (List.mem_of_getElem? (i := 142) rfl) (by decide +kernel)
theorem q_623 : Cond.code y4_toUpper b4_toUpper 1 (some .int) ∈ zGood := zin3 (List.mem_of_getElem? (i := 143) rfl) (by decide +kernel)
theorem q_624 : Cond.methodLink RX4 179 y4_toLower ∈ zGood := zin3 (List.mem_of_getElem? (i := 144) rfl) (by decide +kernel)
theorem q_625 : Cond.static y4_toLower ∈ zGood := zin3 (List.mem_of_getElem? (i := 145) rfl) (by decide +kernel)
theorem q_626 : Cond.code y4_toLower b4_toLower 1 (some .int) ∈ zGood := zin3 (List.mem_of_getElem? (i := 146) rfl) (by decide +kernel)
theorem q_627 : Cond.methodLink RX4 182 y4_digitAhead ∈ zGood := zin3 (List.mem_of_getElem? (i := 147) rfl) (by decide +kernel)
theorem q_628 : Cond.static y4_digitAhead ∈ zGood := zin3 (List.mem_of_getElem? (i := 148) rfl) (by decide +kernel)
theorem q_629 : Cond.code y4_digitAhead b4_digitAhead 6 (some .int) ∈ zGood := zin3 (List.mem_of_getElem? (i := 149) rfl) (by decide +kernel)
theorem q_612 : Cond.methodLink RX4 167 y2_endItemOf ∈ zGood := zin3 (List.mem_of_getElem? (i := 132) rfl) (by decide +kernel)
theorem q_613 : Cond.instanceMethod y2_endItemOf ∈ zGood := zin3 (List.mem_of_getElem? (i := 133) rfl) (by decide +kernel)
theorem q_614 : Cond.selects RX2 y2_endItemOf y2_endItemOf ∈ zGood := zin3 (List.mem_of_getElem? (i := 134) rfl) (by decide +kernel)
theorem q_615 : Cond.code y2_endItemOf b2_endItemOf 2 (some .int) ∈ zGood := zin3 (List.mem_of_getElem? (i := 135) rfl) (by decide +kernel)
theorem q_616 : Cond.constantLong RX4 170 (zl 400) ∈ zGood := zin3 (List.mem_of_getElem? (i := 136) rfl) (by decide +kernel)
theorem q_617 : Cond.methodLink RX4 172 y4_changedByte ∈ zGood := zin3 (List.mem_of_getElem? (i := 137) rfl) (by decide +kernel)
theorem q_619 : Cond.instanceMethod y4_changedByte ∈ zGood := zin3 (List.mem_of_getElem? (i := 139) rfl) (by decide +kernel)
theorem qs_4_changedByte : Cond.selects RX4 y4_changedByte y4_changedByte ∈ zGood := zinS (q := (y4_changedByte, 13)) (List.mem_of_getElem? (i := 24) rfl) (by decide +kernel)
theorem q_620 : Cond.code y4_changedByte b4_changedByte 6 (some .int) ∈ zGood := zin3 (List.mem_of_getElem? (i := 140) rfl) (by decide +kernel)
theorem q_604 : Cond.methodLink RX4 160 y4_renderPart ∈ zGood := zin3 (List.mem_of_getElem? (i := 124) rfl) (by decide +kernel)
theorem q_606 : Cond.instanceMethod y4_renderPart ∈ zGood := zin3 (List.mem_of_getElem? (i := 126) rfl) (by decide +kernel)
theorem qs_4_renderPart : Cond.selects RX4 y4_renderPart y4_renderPart ∈ zGood := zinS (q := (y4_renderPart, 13)) (List.mem_of_getElem? (i := 23) rfl) (by decide +kernel)
theorem q_607 : Cond.code y4_renderPart b4_renderPart 10 (none) ∈ zGood := zin3 (List.mem_of_getElem? (i := 127) rfl) (by decide +kernel)
theorem q_678 : Cond.methodLink RX4 164 y4_renderValues ∈ zGood := zin3 (List.mem_of_getElem? (i := 198) rfl) (by decide +kernel)
theorem q_601 : Cond.instanceMethod y4_renderValues ∈ zGood := zin3 (List.mem_of_getElem? (i := 121) rfl) (by decide +kernel)
theorem q_602 : Cond.selects RX4 y4_renderValues y4_renderValues ∈ zGood := zin3 (List.mem_of_getElem? (i := 122) rfl) (by decide +kernel)
theorem q_603 : Cond.code y4_renderValues b4_renderValues 4 (none) ∈ zGood := zin3 (List.mem_of_getElem? (i := 123) rfl) (by decide +kernel)
theorem q_251 : Cond.fieldLink RX4 35 (TX4 12).1 (TX4 12).2.1 (TX4 12).2.2.1 ∈ zGood := zin2 (List.mem_of_getElem? (i := 11) rfl) (by decide +kernel)
theorem q_131 : Cond.fieldLink RX0 20 (TX0 1).1 (TX0 1).2.1 (TX0 1).2.2.1 ∈ zGood := zin1 (List.mem_of_getElem? (i := 131) rfl) (by decide +kernel)
theorem q_128 : Cond.fieldLink RX0 11 (TX0 0).1 (TX0 0).2.1 (TX0 0).2.2.1 ∈ zGood := zin1 (List.mem_of_getElem? (i := 128) rfl) (by decide +kernel)
theorem q_408 : Cond.methodLink RX0 24 y2_isNamed ∈ zGood := zin2 (List.mem_of_getElem? (i := 168) rfl) (by decide +kernel)
theorem q_409 : Cond.instanceMethod y2_isNamed ∈ zGood := zin2 (List.mem_of_getElem? (i := 169) rfl) (by decide +kernel)
theorem q_410 : Cond.selects RX2 y2_isNamed y2_isNamed ∈ zGood := zin2 (List.mem_of_getElem? (i := 170) rfl) (by decide +kernel)
theorem q_411 : Cond.code y2_isNamed b2_isNamed 5 (some .boolean) ∈ zGood := zin2 (List.mem_of_getElem? (i := 171) rfl) (by decide +kernel)
theorem q_154 : Cond.fieldLink RX1 18 (TX1 3).1 (TX1 3).2.1 (TX1 3).2.2.1 ∈ zGood := zin1 (List.mem_of_getElem? (i := 154) rfl) (by decide +kernel)
theorem q_153 : Cond.fieldLink RX1 47 (TX1 2).1 (TX1 2).2.1 (TX1 2).2.2.1 ∈ zGood := zin1 (List.mem_of_getElem? (i := 153) rfl) (by decide +kernel)
theorem q_152 : Cond.fieldLink RX1 36 (TX1 1).1 (TX1 1).2.1 (TX1 1).2.2.1 ∈ zGood := zin1 (List.mem_of_getElem? (i := 152) rfl) (by decide +kernel)
theorem q_151 : Cond.fieldLink RX1 9 (TX1 0).1 (TX1 0).2.1 (TX1 0).2.2.1 ∈ zGood := zin1 (List.mem_of_getElem? (i := 151) rfl) (by decide +kernel)
theorem q_158 : Cond.fieldLink RX1 50 (TX1 6).1 (TX1 6).2.1 (TX1 6).2.2.1 ∈ zGood := zin1 (List.mem_of_getElem? (i := 158) rfl) (by decide +kernel)
theorem q_160 : Cond.fieldLink RX1 53 (TX1 7).1 (TX1 7).2.1 (TX1 7).2.2.1 ∈ zGood := zin1 (List.mem_of_getElem? (i := 160) rfl) (by decide +kernel)
theorem q_132 : Cond.fieldLink RX1 40 (TX0 1).1 (TX0 1).2.1 (TX0 1).2.2.1 ∈ zGood := zin1 (List.mem_of_getElem? (i := 132) rfl) (by decide +kernel)
theorem q_335 : Cond.methodLink RX1 56 y1_skipBlanks ∈ zGood := zin2 (List.mem_of_getElem? (i := 95) rfl) (by decide +kernel)
theorem q_337 : Cond.instanceMethod y1_skipBlanks ∈ zGood := zin2 (List.mem_of_getElem? (i := 97) rfl) (by decide +kernel)
theorem qs_1_skipBlanks : Cond.selects RX1 y1_skipBlanks y1_skipBlanks ∈ zGood := zinS (q := (y1_skipBlanks, 8)) (List.mem_of_getElem? (i := 0) rfl) (by decide +kernel)
theorem q_4 : Cond.initialized RX1 ∈ zGood := zin1 (List.mem_of_getElem? (i := 4) rfl) (by decide +kernel)
theorem q_338 : Cond.code y1_skipBlanks b1_skipBlanks 2 (none) ∈ zGood := zin2 (List.mem_of_getElem? (i := 98) rfl) (by decide +kernel)
theorem q_339 : Cond.methodLink RX1 59 y1_endOfWord ∈ zGood := zin2 (List.mem_of_getElem? (i := 99) rfl) (by decide +kernel)
theorem q_341 : Cond.instanceMethod y1_endOfWord ∈ zGood := zin2 (List.mem_of_getElem? (i := 101) rfl) (by decide +kernel)
theorem qs_1_endOfWord : Cond.selects RX1 y1_endOfWord y1_endOfWord ∈ zGood := zinS (q := (y1_endOfWord, 8)) (List.mem_of_getElem? (i := 1) rfl) (by decide +kernel)
theorem q_342 : Cond.code y1_endOfWord b1_endOfWord 3 (some .int) ∈ zGood := zin2 (List.mem_of_getElem? (i := 102) rfl) (by decide +kernel)
theorem q_404 : Cond.methodLink RX1 100 y0_indexOf ∈ zGood := zin2 (List.mem_of_getElem? (i := 164) rfl) (by decide +kernel)
theorem q_405 : Cond.instanceMethod y0_indexOf ∈ zGood := zin2 (List.mem_of_getElem? (i := 165) rfl) (by decide +kernel)
theorem q_406 : Cond.selects RX0 y0_indexOf y0_indexOf ∈ zGood := zin2 (List.mem_of_getElem? (i := 166) rfl) (by decide +kernel)
theorem q_2 : Cond.initialized RX0 ∈ zGood := zin1 (List.mem_of_getElem? (i := 2) rfl) (by decide +kernel)
theorem q_407 : Cond.code y0_indexOf b0_indexOf 5 (some .int) ∈ zGood := zin2 (List.mem_of_getElem? (i := 167) rfl) (by decide +kernel)
theorem q_129 : Cond.fieldLink RX1 22 (TX0 0).1 (TX0 0).2.1 (TX0 0).2.2.1 ∈ zGood := zin1 (List.mem_of_getElem? (i := 129) rfl) (by decide +kernel)
theorem q_155 : Cond.fieldLink RX1 26 (TX1 4).1 (TX1 4).2.1 (TX1 4).2.2.1 ∈ zGood := zin1 (List.mem_of_getElem? (i := 155) rfl) (by decide +kernel)
theorem q_90 : Cond.fieldLink RX1 104 (TX2 16).1 (TX2 16).2.1 (TX2 16).2.2.1 ∈ zGood := zin1 (List.mem_of_getElem? (i := 90) rfl) (by decide +kernel)
theorem q_400 : Cond.methodLink RX1 80 y1_fail ∈ zGood := zin2 (List.mem_of_getElem? (i := 160) rfl) (by decide +kernel)
theorem q_402 : Cond.instanceMethod y1_fail ∈ zGood := zin2 (List.mem_of_getElem? (i := 162) rfl) (by decide +kernel)
theorem qs_1_fail : Cond.selects RX1 y1_fail y1_fail ∈ zGood := zinS (q := (y1_fail, 8)) (List.mem_of_getElem? (i := 4) rfl) (by decide +kernel)
theorem q_403 : Cond.code y1_fail b1_fail 3 (none) ∈ zGood := zin2 (List.mem_of_getElem? (i := 163) rfl) (by decide +kernel)
theorem q_412 : Cond.methodLink RX1 109 y2_clear ∈ zGood := zin2 (List.mem_of_getElem? (i := 172) rfl) (by decide +kernel)
theorem q_413 : Cond.instanceMethod y2_clear ∈ zGood := zin2 (List.mem_of_getElem? (i := 173) rfl) (by decide +kernel)
theorem q_414 : Cond.selects RX2 y2_clear y2_clear ∈ zGood := zin2 (List.mem_of_getElem? (i := 174) rfl) (by decide +kernel)
theorem q_415 : Cond.code y2_clear b2_clear 3 (none) ∈ zGood := zin2 (List.mem_of_getElem? (i := 175) rfl) (by decide +kernel)
theorem q_416 : Cond.methodLink RX1 112 y2_setName ∈ zGood := zin2 (List.mem_of_getElem? (i := 176) rfl) (by decide +kernel)
theorem q_417 : Cond.instanceMethod y2_setName ∈ zGood := zin2 (List.mem_of_getElem? (i := 177) rfl) (by decide +kernel)
theorem q_418 : Cond.selects RX2 y2_setName y2_setName ∈ zGood := zin2 (List.mem_of_getElem? (i := 178) rfl) (by decide +kernel)
theorem q_419 : Cond.code y2_setName b2_setName 5 (none) ∈ zGood := zin2 (List.mem_of_getElem? (i := 179) rfl) (by decide +kernel)
theorem q_421 : Cond.methodLink RX1 96 y1_isAt ∈ zGood := zin2 (List.mem_of_getElem? (i := 181) rfl) (by decide +kernel)
theorem q_423 : Cond.instanceMethod y1_isAt ∈ zGood := zin2 (List.mem_of_getElem? (i := 183) rfl) (by decide +kernel)
theorem qs_1_isAt : Cond.selects RX1 y1_isAt y1_isAt ∈ zGood := zinS (q := (y1_isAt, 8)) (List.mem_of_getElem? (i := 5) rfl) (by decide +kernel)
theorem q_424 : Cond.code y1_isAt b1_isAt 2 (some .boolean) ∈ zGood := zin2 (List.mem_of_getElem? (i := 184) rfl) (by decide +kernel)
theorem q_156 : Cond.fieldLink RX1 116 (TX1 5).1 (TX1 5).2.1 (TX1 5).2.2.1 ∈ zGood := zin1 (List.mem_of_getElem? (i := 156) rfl) (by decide +kernel)
theorem q_87 : Cond.fieldLink RX1 128 (TX2 14).1 (TX2 14).2.1 (TX2 14).2.2.1 ∈ zGood := zin1 (List.mem_of_getElem? (i := 87) rfl) (by decide +kernel)
theorem q_71 : Cond.fieldLink RX1 131 (TX2 7).1 (TX2 7).2.1 (TX2 7).2.2.1 ∈ zGood := zin1 (List.mem_of_getElem? (i := 71) rfl) (by decide +kernel)
theorem q_445 : Cond.methodLink RX1 144 y2_wouldDependOnItself ∈ zGood := zin2 (List.mem_of_getElem? (i := 205) rfl) (by decide +kernel)
theorem q_446 : Cond.instanceMethod y2_wouldDependOnItself ∈ zGood := zin2 (List.mem_of_getElem? (i := 206) rfl) (by decide +kernel)
theorem q_447 : Cond.selects RX2 y2_wouldDependOnItself y2_wouldDependOnItself ∈ zGood := zin2 (List.mem_of_getElem? (i := 207) rfl) (by decide +kernel)
theorem q_448 : Cond.code y2_wouldDependOnItself b2_wouldDependOnItself 4 (some .boolean) ∈ zGood := zin2 (List.mem_of_getElem? (i := 208) rfl) (by decide +kernel)
theorem q_53 : Cond.fieldLink RX1 148 (TX2 2).1 (TX2 2).2.1 (TX2 2).2.2.1 ∈ zGood := zin1 (List.mem_of_getElem? (i := 53) rfl) (by decide +kernel)
theorem q_59 : Cond.fieldLink RX1 151 (TX2 4).1 (TX2 4).2.1 (TX2 4).2.2.1 ∈ zGood := zin1 (List.mem_of_getElem? (i := 59) rfl) (by decide +kernel)
theorem q_449 : Cond.methodLink RX1 154 y2_addDependence ∈ zGood := zin2 (List.mem_of_getElem? (i := 209) rfl) (by decide +kernel)
theorem q_450 : Cond.instanceMethod y2_addDependence ∈ zGood := zin2 (List.mem_of_getElem? (i := 210) rfl) (by decide +kernel)
theorem q_451 : Cond.selects RX2 y2_addDependence y2_addDependence ∈ zGood := zin2 (List.mem_of_getElem? (i := 211) rfl) (by decide +kernel)
theorem q_452 : Cond.code y2_addDependence b2_addDependence 5 (none) ∈ zGood := zin2 (List.mem_of_getElem? (i := 212) rfl) (by decide +kernel)
theorem q_453 : Cond.methodLink RX1 157 y2_addOccurrence ∈ zGood := zin2 (List.mem_of_getElem? (i := 213) rfl) (by decide +kernel)
theorem q_454 : Cond.instanceMethod y2_addOccurrence ∈ zGood := zin2 (List.mem_of_getElem? (i := 214) rfl) (by decide +kernel)
theorem q_455 : Cond.selects RX2 y2_addOccurrence y2_addOccurrence ∈ zGood := zin2 (List.mem_of_getElem? (i := 215) rfl) (by decide +kernel)
theorem q_456 : Cond.code y2_addOccurrence b2_addOccurrence 4 (some .int) ∈ zGood := zin2 (List.mem_of_getElem? (i := 216) rfl) (by decide +kernel)
theorem q_465 : Cond.methodLink RX1 166 y1_changeOf ∈ zGood := zin2 (List.mem_of_getElem? (i := 225) rfl) (by decide +kernel)
theorem q_466 : Cond.static y1_changeOf ∈ zGood := zin2 (List.mem_of_getElem? (i := 226) rfl) (by decide +kernel)
theorem q_467 : Cond.code y1_changeOf b1_changeOf 1 (some .int) ∈ zGood := zin2 (List.mem_of_getElem? (i := 227) rfl) (by decide +kernel)
theorem q_64 : Cond.fieldLink RX1 169 (TX2 5).1 (TX2 5).2.1 (TX2 5).2.2.1 ∈ zGood := zin1 (List.mem_of_getElem? (i := 64) rfl) (by decide +kernel)
theorem q_74 : Cond.fieldLink RX1 172 (TX2 8).1 (TX2 8).2.1 (TX2 8).2.2.1 ∈ zGood := zin1 (List.mem_of_getElem? (i := 74) rfl) (by decide +kernel)
theorem q_68 : Cond.fieldLink RX1 175 (TX2 6).1 (TX2 6).2.1 (TX2 6).2.2.1 ∈ zGood := zin1 (List.mem_of_getElem? (i := 68) rfl) (by decide +kernel)
theorem q_468 : Cond.methodLink RX1 163 y1_openDefault ∈ zGood := zin2 (List.mem_of_getElem? (i := 228) rfl) (by decide +kernel)
theorem q_470 : Cond.instanceMethod y1_openDefault ∈ zGood := zin2 (List.mem_of_getElem? (i := 230) rfl) (by decide +kernel)
theorem qs_1_openDefault : Cond.selects RX1 y1_openDefault y1_openDefault ∈ zGood := zinS (q := (y1_openDefault, 8)) (List.mem_of_getElem? (i := 12) rfl) (by decide +kernel)
theorem q_471 : Cond.code y1_openDefault b1_openDefault 3 (none) ∈ zGood := zin2 (List.mem_of_getElem? (i := 231) rfl) (by decide +kernel)
theorem q_461 : Cond.methodLink RX1 160 y1_readChange ∈ zGood := zin2 (List.mem_of_getElem? (i := 221) rfl) (by decide +kernel)
theorem q_463 : Cond.instanceMethod y1_readChange ∈ zGood := zin2 (List.mem_of_getElem? (i := 223) rfl) (by decide +kernel)
theorem qs_1_readChange : Cond.selects RX1 y1_readChange y1_readChange ∈ zGood := zinS (q := (y1_readChange, 8)) (List.mem_of_getElem? (i := 11) rfl) (by decide +kernel)
theorem q_464 : Cond.code y1_readChange b1_readChange 3 (none) ∈ zGood := zin2 (List.mem_of_getElem? (i := 224) rfl) (by decide +kernel)
theorem q_437 : Cond.methodLink RX1 134 y2_addLiteral ∈ zGood := zin2 (List.mem_of_getElem? (i := 197) rfl) (by decide +kernel)
theorem q_438 : Cond.instanceMethod y2_addLiteral ∈ zGood := zin2 (List.mem_of_getElem? (i := 198) rfl) (by decide +kernel)
theorem q_439 : Cond.selects RX2 y2_addLiteral y2_addLiteral ∈ zGood := zin2 (List.mem_of_getElem? (i := 199) rfl) (by decide +kernel)
theorem q_440 : Cond.code y2_addLiteral b2_addLiteral 3 (none) ∈ zGood := zin2 (List.mem_of_getElem? (i := 200) rfl) (by decide +kernel)
theorem q_441 : Cond.methodLink RX1 137 y1_readField ∈ zGood := zin2 (List.mem_of_getElem? (i := 201) rfl) (by decide +kernel)
theorem q_443 : Cond.instanceMethod y1_readField ∈ zGood := zin2 (List.mem_of_getElem? (i := 203) rfl) (by decide +kernel)
theorem qs_1_readField : Cond.selects RX1 y1_readField y1_readField ∈ zGood := zinS (q := (y1_readField, 8)) (List.mem_of_getElem? (i := 9) rfl) (by decide +kernel)
theorem q_444 : Cond.code y1_readField b1_readField 3 (some .int) ∈ zGood := zin2 (List.mem_of_getElem? (i := 204) rfl) (by decide +kernel)
theorem q_457 : Cond.methodLink RX1 141 y1_readBehindField ∈ zGood := zin2 (List.mem_of_getElem? (i := 217) rfl) (by decide +kernel)
theorem q_459 : Cond.instanceMethod y1_readBehindField ∈ zGood := zin2 (List.mem_of_getElem? (i := 219) rfl) (by decide +kernel)
theorem qs_1_readBehindField : Cond.selects RX1 y1_readBehindField y1_readBehindField ∈ zGood := zinS (q := (y1_readBehindField, 8)) (List.mem_of_getElem? (i := 10) rfl) (by decide +kernel)
theorem q_460 : Cond.code y1_readBehindField b1_readBehindField 3 (none) ∈ zGood := zin2 (List.mem_of_getElem? (i := 220) rfl) (by decide +kernel)
theorem q_472 : Cond.methodLink RX1 125 y1_readLiteral ∈ zGood := zin2 (List.mem_of_getElem? (i := 232) rfl) (by decide +kernel)
theorem q_474 : Cond.instanceMethod y1_readLiteral ∈ zGood := zin2 (List.mem_of_getElem? (i := 234) rfl) (by decide +kernel)
theorem qs_1_readLiteral : Cond.selects RX1 y1_readLiteral y1_readLiteral ∈ zGood := zinS (q := (y1_readLiteral, 8)) (List.mem_of_getElem? (i := 13) rfl) (by decide +kernel)
theorem q_475 : Cond.code y1_readLiteral b1_readLiteral 2 (none) ∈ zGood := zin2 (List.mem_of_getElem? (i := 235) rfl) (by decide +kernel)
theorem q_433 : Cond.methodLink RX1 122 y1_readDollar ∈ zGood := zin2 (List.mem_of_getElem? (i := 193) rfl) (by decide +kernel)
theorem q_435 : Cond.instanceMethod y1_readDollar ∈ zGood := zin2 (List.mem_of_getElem? (i := 195) rfl) (by decide +kernel)
theorem qs_1_readDollar : Cond.selects RX1 y1_readDollar y1_readDollar ∈ zGood := zinS (q := (y1_readDollar, 8)) (List.mem_of_getElem? (i := 8) rfl) (by decide +kernel)
theorem q_436 : Cond.code y1_readDollar b1_readDollar 4 (none) ∈ zGood := zin2 (List.mem_of_getElem? (i := 196) rfl) (by decide +kernel)
theorem q_429 : Cond.methodLink RX1 119 y1_closePart ∈ zGood := zin2 (List.mem_of_getElem? (i := 189) rfl) (by decide +kernel)
theorem q_431 : Cond.instanceMethod y1_closePart ∈ zGood := zin2 (List.mem_of_getElem? (i := 191) rfl) (by decide +kernel)
theorem qs_1_closePart : Cond.selects RX1 y1_closePart y1_closePart ∈ zGood := zinS (q := (y1_closePart, 8)) (List.mem_of_getElem? (i := 7) rfl) (by decide +kernel)
theorem q_432 : Cond.code y1_closePart b1_closePart 1 (none) ∈ zGood := zin2 (List.mem_of_getElem? (i := 192) rfl) (by decide +kernel)
theorem q_344 : Cond.methodLink RX1 64 y1_isWord ∈ zGood := zin2 (List.mem_of_getElem? (i := 104) rfl) (by decide +kernel)
theorem q_346 : Cond.instanceMethod y1_isWord ∈ zGood := zin2 (List.mem_of_getElem? (i := 106) rfl) (by decide +kernel)
theorem qs_1_isWord : Cond.selects RX1 y1_isWord y1_isWord ∈ zGood := zinS (q := (y1_isWord, 8)) (List.mem_of_getElem? (i := 2) rfl) (by decide +kernel)
theorem q_347 : Cond.code y1_isWord b1_isWord 4 (some .boolean) ∈ zGood := zin2 (List.mem_of_getElem? (i := 107) rfl) (by decide +kernel)
theorem q_134 : Cond.fieldLink RX1 43 (TX0 2).1 (TX0 2).2.1 (TX0 2).2.2.1 ∈ zGood := zin1 (List.mem_of_getElem? (i := 134) rfl) (by decide +kernel)
theorem q_332 : Cond.methodLink RX1 30 Lib.Math.min.name ∈ zGood := zin2 (List.mem_of_getElem? (i := 92) rfl) (by decide +kernel)
theorem q_477 : Cond.methodLink RX1 77 y1_readOrder ∈ zGood := zin2 (List.mem_of_getElem? (i := 237) rfl) (by decide +kernel)
theorem q_479 : Cond.instanceMethod y1_readOrder ∈ zGood := zin2 (List.mem_of_getElem? (i := 239) rfl) (by decide +kernel)
theorem qs_1_readOrder : Cond.selects RX1 y1_readOrder y1_readOrder ∈ zGood := zinS (q := (y1_readOrder, 8)) (List.mem_of_getElem? (i := 14) rfl) (by decide +kernel)
theorem q_480 : Cond.code y1_readOrder b1_readOrder 4 (none) ∈ zGood := zin3 (List.mem_of_getElem? (i := 0) rfl) (by decide +kernel)
theorem q_396 : Cond.methodLink RX1 68 y1_readHead ∈ zGood := zin2 (List.mem_of_getElem? (i := 156) rfl) (by decide +kernel)
theorem q_398 : Cond.instanceMethod y1_readHead ∈ zGood := zin2 (List.mem_of_getElem? (i := 158) rfl) (by decide +kernel)
theorem qs_1_readHead : Cond.selects RX1 y1_readHead y1_readHead ∈ zGood := zinS (q := (y1_readHead, 8)) (List.mem_of_getElem? (i := 3) rfl) (by decide +kernel)
theorem q_399 : Cond.code y1_readHead b1_readHead 4 (none) ∈ zGood := zin2 (List.mem_of_getElem? (i := 159) rfl) (by decide +kernel)
theorem q_425 : Cond.methodLink RX1 72 y1_readBody ∈ zGood := zin2 (List.mem_of_getElem? (i := 185) rfl) (by decide +kernel)
theorem q_427 : Cond.instanceMethod y1_readBody ∈ zGood := zin2 (List.mem_of_getElem? (i := 187) rfl) (by decide +kernel)
theorem qs_1_readBody : Cond.selects RX1 y1_readBody y1_readBody ∈ zGood := zinS (q := (y1_readBody, 8)) (List.mem_of_getElem? (i := 6) rfl) (by decide +kernel)
theorem q_428 : Cond.code y1_readBody b1_readBody 3 (none) ∈ zGood := zin2 (List.mem_of_getElem? (i := 188) rfl) (by decide +kernel)
theorem q_282 : Cond.fieldLink RX5 63 (TX5 1).1 (TX5 1).2.1 (TX5 1).2.2.1 ∈ zGood := zin2 (List.mem_of_getElem? (i := 42) rfl) (by decide +kernel)
theorem q_281 : Cond.fieldLink RX5 9 (TX5 0).1 (TX5 0).2.1 (TX5 0).2.2.1 ∈ zGood := zin2 (List.mem_of_getElem? (i := 41) rfl) (by decide +kernel)
theorem q_707 : Cond.methodLink RX5 59 y5_countBytes ∈ zGood := zin3 (List.mem_of_getElem? (i := 227) rfl) (by decide +kernel)
theorem q_708 : Cond.static y5_countBytes ∈ zGood := zin3 (List.mem_of_getElem? (i := 228) rfl) (by decide +kernel)
theorem q_1 : Cond.initialized RX5 ∈ zGood := zin1 (List.mem_of_getElem? (i := 1) rfl) (by decide +kernel)
theorem q_709 : Cond.code y5_countBytes b5_countBytes 3 (some .int) ∈ zGood := zin3 (List.mem_of_getElem? (i := 229) rfl) (by decide +kernel)
theorem q_778 : Cond.methodLink RX5 73 y5_bufferBytes ∈ zGood := zin4 (List.mem_of_getElem? (i := 58) rfl) (by decide +kernel)
theorem q_780 : Cond.instanceMethod y5_bufferBytes ∈ zGood := zin4 (List.mem_of_getElem? (i := 60) rfl) (by decide +kernel)
theorem qs_5_bufferBytes : Cond.selects RX5 y5_bufferBytes y5_bufferBytes ∈ zGood := zinS (q := (y5_bufferBytes, 14)) (List.mem_of_getElem? (i := 29) rfl) (by decide +kernel)
theorem q_781 : Cond.code y5_bufferBytes b5_bufferBytes 4 (none) ∈ zGood := zin4 (List.mem_of_getElem? (i := 61) rfl) (by decide +kernel)
theorem q_710 : Cond.classLink RX5 66 "java/lang/IllegalStateException" ∈ zGood := zin3 (List.mem_of_getElem? (i := 230) rfl) (by decide +kernel)
theorem q_12 : Cond.initialized "java/lang/IllegalStateException" ∈ zGood := zin1 (List.mem_of_getElem? (i := 12) rfl) (by decide +kernel)
theorem q_284 : Cond.fieldLink RX5 39 (TX5 3).1 (TX5 3).2.1 (TX5 3).2.2.1 ∈ zGood := zin2 (List.mem_of_getElem? (i := 44) rfl) (by decide +kernel)
theorem q_328 : Cond.methodLink RX5 77 y1_readLibrary ∈ zGood := zin2 (List.mem_of_getElem? (i := 88) rfl) (by decide +kernel)
theorem q_329 : Cond.instanceMethod y1_readLibrary ∈ zGood := zin2 (List.mem_of_getElem? (i := 89) rfl) (by decide +kernel)
theorem q_330 : Cond.selects RX1 y1_readLibrary y1_readLibrary ∈ zGood := zin2 (List.mem_of_getElem? (i := 90) rfl) (by decide +kernel)
theorem q_331 : Cond.code y1_readLibrary b1_readLibrary 5 (none) ∈ zGood := zin2 (List.mem_of_getElem? (i := 91) rfl) (by decide +kernel)
theorem q_157 : Cond.fieldLink RX5 81 (TX1 6).1 (TX1 6).2.1 (TX1 6).2.2.1 ∈ zGood := zin1 (List.mem_of_getElem? (i := 157) rfl) (by decide +kernel)
theorem q_285 : Cond.fieldLink RX5 84 (TX5 4).1 (TX5 4).2.1 (TX5 4).2.2.1 ∈ zGood := zin2 (List.mem_of_getElem? (i := 45) rfl) (by decide +kernel)
theorem q_159 : Cond.fieldLink RX5 87 (TX1 7).1 (TX1 7).2.1 (TX1 7).2.2.1 ∈ zGood := zin1 (List.mem_of_getElem? (i := 159) rfl) (by decide +kernel)
theorem q_286 : Cond.fieldLink RX5 55 (TX5 5).1 (TX5 5).2.1 (TX5 5).2.2.1 ∈ zGood := zin2 (List.mem_of_getElem? (i := 46) rfl) (by decide +kernel)
theorem q_283 : Cond.fieldLink RX5 32 (TX5 2).1 (TX5 2).2.1 (TX5 2).2.2.1 ∈ zGood := zin2 (List.mem_of_getElem? (i := 43) rfl) (by decide +kernel)
theorem q_483 : Cond.methodLink RX5 90 y1_exchange ∈ zGood := zin3 (List.mem_of_getElem? (i := 3) rfl) (by decide +kernel)
theorem q_484 : Cond.instanceMethod y1_exchange ∈ zGood := zin3 (List.mem_of_getElem? (i := 4) rfl) (by decide +kernel)
theorem q_485 : Cond.selects RX1 y1_exchange y1_exchange ∈ zGood := zin3 (List.mem_of_getElem? (i := 5) rfl) (by decide +kernel)
theorem q_486 : Cond.code y1_exchange b1_exchange 3 (some (.object RX0)) ∈ zGood := zin3 (List.mem_of_getElem? (i := 6) rfl) (by decide +kernel)
theorem q_288 : Cond.fieldLink RX5 44 (TX5 7).1 (TX5 7).2.1 (TX5 7).2.2.1 ∈ zGood := zin2 (List.mem_of_getElem? (i := 48) rfl) (by decide +kernel)
theorem q_135 : Cond.fieldLink RX5 94 (TX0 2).1 (TX0 2).2.1 (TX0 2).2.2.1 ∈ zGood := zin1 (List.mem_of_getElem? (i := 135) rfl) (by decide +kernel)
theorem q_487 : Cond.methodLink RX5 98 y3_clear ∈ zGood := zin3 (List.mem_of_getElem? (i := 7) rfl) (by decide +kernel)
theorem q_488 : Cond.instanceMethod y3_clear ∈ zGood := zin3 (List.mem_of_getElem? (i := 8) rfl) (by decide +kernel)
theorem q_489 : Cond.selects RX3 y3_clear y3_clear ∈ zGood := zin3 (List.mem_of_getElem? (i := 9) rfl) (by decide +kernel)
theorem q_490 : Cond.code y3_clear b3_clear 2 (none) ∈ zGood := zin3 (List.mem_of_getElem? (i := 10) rfl) (by decide +kernel)
theorem q_291 : Cond.fieldLink RX5 102 (TX5 10).1 (TX5 10).2.1 (TX5 10).2.2.1 ∈ zGood := zin2 (List.mem_of_getElem? (i := 51) rfl) (by decide +kernel)
theorem q_133 : Cond.fieldLink RX5 105 (TX0 1).1 (TX0 1).2.1 (TX0 1).2.2.1 ∈ zGood := zin1 (List.mem_of_getElem? (i := 133) rfl) (by decide +kernel)
theorem q_293 : Cond.fieldLink RX5 25 (TX5 12).1 (TX5 12).2.1 (TX5 12).2.2.1 ∈ zGood := zin2 (List.mem_of_getElem? (i := 53) rfl) (by decide +kernel)
theorem q_504 : Cond.methodLink RX5 108 y0_indexOf ∈ zGood := zin3 (List.mem_of_getElem? (i := 24) rfl) (by decide +kernel)
theorem q_186 : Cond.fieldLink RX5 112 (TX3 1).1 (TX3 1).2.1 (TX3 1).2.2.1 ∈ zGood := zin1 (List.mem_of_getElem? (i := 186) rfl) (by decide +kernel)
theorem q_200 : Cond.fieldLink RX5 115 (TX3 8).1 (TX3 8).2.1 (TX3 8).2.2.1 ∈ zGood := zin1 (List.mem_of_getElem? (i := 200) rfl) (by decide +kernel)
theorem q_184 : Cond.fieldLink RX5 118 (TX3 0).1 (TX3 0).2.1 (TX3 0).2.2.1 ∈ zGood := zin1 (List.mem_of_getElem? (i := 184) rfl) (by decide +kernel)
theorem q_790 : Cond.classLink RX5 119 "java/lang/IllegalArgumentException" ∈ zGood := zin4 (List.mem_of_getElem? (i := 70) rfl) (by decide +kernel)
theorem q_18 : Cond.initialized "java/lang/IllegalArgumentException" ∈ zGood := zin1 (List.mem_of_getElem? (i := 18) rfl) (by decide +kernel)
theorem q_130 : Cond.fieldLink RX5 389 (TX0 0).1 (TX0 0).2.1 (TX0 0).2.2.1 ∈ zGood := zin1 (List.mem_of_getElem? (i := 130) rfl) (by decide +kernel)
theorem q_818 : Cond.classLink RX5 158 "java/lang/IndexOutOfBoundsException" ∈ zGood := zin4 (List.mem_of_getElem? (i := 98) rfl) (by decide +kernel)
theorem q_19 : Cond.initialized "java/lang/IndexOutOfBoundsException" ∈ zGood := zin1 (List.mem_of_getElem? (i := 19) rfl) (by decide +kernel)
theorem q_814 : Cond.methodLink RX5 124 y5_requireSnippet ∈ zGood := zin4 (List.mem_of_getElem? (i := 94) rfl) (by decide +kernel)
theorem q_816 : Cond.instanceMethod y5_requireSnippet ∈ zGood := zin4 (List.mem_of_getElem? (i := 96) rfl) (by decide +kernel)
theorem qs_5_requireSnippet : Cond.selects RX5 y5_requireSnippet y5_requireSnippet ∈ zGood := zinS (q := (y5_requireSnippet, 14)) (List.mem_of_getElem? (i := 30) rfl) (by decide +kernel)
theorem q_817 : Cond.code y5_requireSnippet b5_requireSnippet 2 (some (.object RX2)) ∈ zGood := zin4 (List.mem_of_getElem? (i := 97) rfl) (by decide +kernel)
theorem q_49 : Cond.fieldLink RX5 128 (TX2 1).1 (TX2 1).2.1 (TX2 1).2.2.1 ∈ zGood := zin1 (List.mem_of_getElem? (i := 49) rfl) (by decide +kernel)
theorem q_51 : Cond.fieldLink RX5 133 (TX2 2).1 (TX2 2).2.1 (TX2 2).2.2.1 ∈ zGood := zin1 (List.mem_of_getElem? (i := 51) rfl) (by decide +kernel)
theorem q_55 : Cond.fieldLink RX5 136 (TX2 3).1 (TX2 3).2.1 (TX2 3).2.2.1 ∈ zGood := zin1 (List.mem_of_getElem? (i := 55) rfl) (by decide +kernel)
theorem q_834 : Cond.methodLink RX5 139 y2_deepest ∈ zGood := zin4 (List.mem_of_getElem? (i := 114) rfl) (by decide +kernel)
theorem q_835 : Cond.instanceMethod y2_deepest ∈ zGood := zin4 (List.mem_of_getElem? (i := 115) rfl) (by decide +kernel)
theorem q_836 : Cond.selects RX2 y2_deepest y2_deepest ∈ zGood := zin4 (List.mem_of_getElem? (i := 116) rfl) (by decide +kernel)
theorem q_837 : Cond.code y2_deepest b2_deepest 3 (some .int) ∈ zGood := zin4 (List.mem_of_getElem? (i := 117) rfl) (by decide +kernel)
theorem q_841 : Cond.methodLink RX5 143 y2_countDefaults ∈ zGood := zin4 (List.mem_of_getElem? (i := 121) rfl) (by decide +kernel)
theorem q_842 : Cond.instanceMethod y2_countDefaults ∈ zGood := zin4 (List.mem_of_getElem? (i := 122) rfl) (by decide +kernel)
theorem q_843 : Cond.selects RX2 y2_countDefaults y2_countDefaults ∈ zGood := zin4 (List.mem_of_getElem? (i := 123) rfl) (by decide +kernel)
theorem q_844 : Cond.code y2_countDefaults b2_countDefaults 3 (some .int) ∈ zGood := zin4 (List.mem_of_getElem? (i := 124) rfl) (by decide +kernel)
theorem q_845 : Cond.methodLink RX5 146 y2_countLiterals ∈ zGood := zin4 (List.mem_of_getElem? (i := 125) rfl) (by decide +kernel)
theorem q_846 : Cond.instanceMethod y2_countLiterals ∈ zGood := zin4 (List.mem_of_getElem? (i := 126) rfl) (by decide +kernel)
theorem q_847 : Cond.selects RX2 y2_countLiterals y2_countLiterals ∈ zGood := zin4 (List.mem_of_getElem? (i := 127) rfl) (by decide +kernel)
theorem q_848 : Cond.code y2_countLiterals b2_countLiterals 1 (some .int) ∈ zGood := zin4 (List.mem_of_getElem? (i := 128) rfl) (by decide +kernel)
theorem q_47 : Cond.fieldLink RX5 149 (TX2 0).1 (TX2 0).2.1 (TX2 0).2.2.1 ∈ zGood := zin1 (List.mem_of_getElem? (i := 47) rfl) (by decide +kernel)
theorem q_863 : Cond.methodLink RX5 152 y5_requireField ∈ zGood := zin4 (List.mem_of_getElem? (i := 143) rfl) (by decide +kernel)
theorem q_864 : Cond.static y5_requireField ∈ zGood := zin4 (List.mem_of_getElem? (i := 144) rfl) (by decide +kernel)
theorem q_865 : Cond.code y5_requireField b5_requireField 1 (none) ∈ zGood := zin4 (List.mem_of_getElem? (i := 145) rfl) (by decide +kernel)
theorem q_77 : Cond.fieldLink RX5 155 (TX2 9).1 (TX2 9).2.1 (TX2 9).2.2.1 ∈ zGood := zin1 (List.mem_of_getElem? (i := 77) rfl) (by decide +kernel)
theorem q_198 : Cond.fieldLink RX5 163 (TX3 7).1 (TX3 7).2.1 (TX3 7).2.2.1 ∈ zGood := zin1 (List.mem_of_getElem? (i := 198) rfl) (by decide +kernel)
theorem q_294 : Cond.fieldLink RX5 51 (TX5 13).1 (TX5 13).2.1 (TX5 13).2.2.1 ∈ zGood := zin2 (List.mem_of_getElem? (i := 54) rfl) (by decide +kernel)
theorem q_188 : Cond.fieldLink RX5 168 (TX3 2).1 (TX3 2).2.1 (TX3 2).2.2.1 ∈ zGood := zin1 (List.mem_of_getElem? (i := 188) rfl) (by decide +kernel)
theorem q_521 : Cond.methodLink RX5 402 y4_take ∈ zGood := zin3 (List.mem_of_getElem? (i := 41) rfl) (by decide +kernel)
theorem q_522 : Cond.instanceMethod y4_take ∈ zGood := zin3 (List.mem_of_getElem? (i := 42) rfl) (by decide +kernel)
theorem q_523 : Cond.selects RX4 y4_take y4_take ∈ zGood := zin3 (List.mem_of_getElem? (i := 43) rfl) (by decide +kernel)
theorem q_524 : Cond.code y4_take b4_take 7 (none) ∈ zGood := zin3 (List.mem_of_getElem? (i := 44) rfl) (by decide +kernel)
theorem q_517 : Cond.methodLink RX5 367 y5_takeSession ∈ zGood := zin3 (List.mem_of_getElem? (i := 37) rfl) (by decide +kernel)
theorem q_519 : Cond.instanceMethod y5_takeSession ∈ zGood := zin3 (List.mem_of_getElem? (i := 39) rfl) (by decide +kernel)
theorem qs_5_takeSession : Cond.selects RX5 y5_takeSession y5_takeSession ∈ zGood := zinS (q := (y5_takeSession, 14)) (List.mem_of_getElem? (i := 17) rfl) (by decide +kernel)
theorem q_520 : Cond.code y5_takeSession b5_takeSession 2 (none) ∈ zGood := zin3 (List.mem_of_getElem? (i := 40) rfl) (by decide +kernel)
theorem q_532 : Cond.methodLink RX5 309 y4_measure ∈ zGood := zin3 (List.mem_of_getElem? (i := 52) rfl) (by decide +kernel)
theorem q_533 : Cond.instanceMethod y4_measure ∈ zGood := zin3 (List.mem_of_getElem? (i := 53) rfl) (by decide +kernel)
theorem q_534 : Cond.selects RX4 y4_measure y4_measure ∈ zGood := zin3 (List.mem_of_getElem? (i := 54) rfl) (by decide +kernel)
theorem q_535 : Cond.code y4_measure b4_measure 5 (none) ∈ zGood := zin3 (List.mem_of_getElem? (i := 55) rfl) (by decide +kernel)
theorem q_244 : Cond.fieldLink RX5 247 (TX4 8).1 (TX4 8).2.1 (TX4 8).2.2.1 ∈ zGood := zin2 (List.mem_of_getElem? (i := 4) rfl) (by decide +kernel)
theorem q_234 : Cond.fieldLink RX5 275 (TX4 3).1 (TX4 3).2.1 (TX4 3).2.2.1 ∈ zGood := zin1 (List.mem_of_getElem? (i := 234) rfl) (by decide +kernel)
theorem q_190 : Cond.fieldLink RX5 171 (TX3 3).1 (TX3 3).2.1 (TX3 3).2.2.1 ∈ zGood := zin1 (List.mem_of_getElem? (i := 190) rfl) (by decide +kernel)
theorem q_193 : Cond.fieldLink RX5 174 (TX3 4).1 (TX3 4).2.1 (TX3 4).2.2.1 ∈ zGood := zin1 (List.mem_of_getElem? (i := 193) rfl) (by decide +kernel)
theorem q_670 : Cond.methodLink RX5 177 y5_measuredText ∈ zGood := zin3 (List.mem_of_getElem? (i := 190) rfl) (by decide +kernel)
theorem q_672 : Cond.instanceMethod y5_measuredText ∈ zGood := zin3 (List.mem_of_getElem? (i := 192) rfl) (by decide +kernel)
theorem qs_5_measuredText : Cond.selects RX5 y5_measuredText y5_measuredText ∈ zGood := zinS (q := (y5_measuredText, 14)) (List.mem_of_getElem? (i := 27) rfl) (by decide +kernel)
theorem q_673 : Cond.code y5_measuredText b5_measuredText 2 (some .long) ∈ zGood := zin3 (List.mem_of_getElem? (i := 193) rfl) (by decide +kernel)
theorem q_883 : Cond.methodLink RX5 181 y5_liveFields ∈ zGood := zin4 (List.mem_of_getElem? (i := 163) rfl) (by decide +kernel)
theorem q_885 : Cond.instanceMethod y5_liveFields ∈ zGood := zin4 (List.mem_of_getElem? (i := 165) rfl) (by decide +kernel)
theorem qs_5_liveFields : Cond.selects RX5 y5_liveFields y5_liveFields ∈ zGood := zinS (q := (y5_liveFields, 14)) (List.mem_of_getElem? (i := 31) rfl) (by decide +kernel)
theorem q_886 : Cond.code y5_liveFields b5_liveFields 2 (some .int) ∈ zGood := zin4 (List.mem_of_getElem? (i := 166) rfl) (by decide +kernel)
theorem q_287 : Cond.fieldLink RX5 13 (TX5 6).1 (TX5 6).2.1 (TX5 6).2.2.1 ∈ zGood := zin2 (List.mem_of_getElem? (i := 47) rfl) (by decide +kernel)
theorem q_569 : Cond.methodLink RX5 331 y4_arrangeOrder ∈ zGood := zin3 (List.mem_of_getElem? (i := 89) rfl) (by decide +kernel)
theorem q_570 : Cond.instanceMethod y4_arrangeOrder ∈ zGood := zin3 (List.mem_of_getElem? (i := 90) rfl) (by decide +kernel)
theorem q_571 : Cond.selects RX4 y4_arrangeOrder y4_arrangeOrder ∈ zGood := zin3 (List.mem_of_getElem? (i := 91) rfl) (by decide +kernel)
theorem q_572 : Cond.code y4_arrangeOrder b4_arrangeOrder 5 (none) ∈ zGood := zin3 (List.mem_of_getElem? (i := 92) rfl) (by decide +kernel)
theorem q_905 : Cond.methodLink RX5 293 y5_requireSession ∈ zGood := zin4 (List.mem_of_getElem? (i := 185) rfl) (by decide +kernel)
theorem q_907 : Cond.instanceMethod y5_requireSession ∈ zGood := zin4 (List.mem_of_getElem? (i := 187) rfl) (by decide +kernel)
theorem qs_5_requireSession : Cond.selects RX5 y5_requireSession y5_requireSession ∈ zGood := zinS (q := (y5_requireSession, 14)) (List.mem_of_getElem? (i := 33) rfl) (by decide +kernel)
theorem q_908 : Cond.code y5_requireSession b5_requireSession 1 (some .int) ∈ zGood := zin4 (List.mem_of_getElem? (i := 188) rfl) (by decide +kernel)
theorem q_513 : Cond.methodLink RX5 351 y5_lookAt ∈ zGood := zin3 (List.mem_of_getElem? (i := 33) rfl) (by decide +kernel)
theorem q_515 : Cond.instanceMethod y5_lookAt ∈ zGood := zin3 (List.mem_of_getElem? (i := 35) rfl) (by decide +kernel)
theorem qs_5_lookAt : Cond.selects RX5 y5_lookAt y5_lookAt ∈ zGood := zinS (q := (y5_lookAt, 14)) (List.mem_of_getElem? (i := 16) rfl) (by decide +kernel)
theorem q_516 : Cond.code y5_lookAt b5_lookAt 2 (none) ∈ zGood := zin3 (List.mem_of_getElem? (i := 36) rfl) (by decide +kernel)
theorem q_901 : Cond.methodLink RX5 184 y5_lookAtInnermost ∈ zGood := zin4 (List.mem_of_getElem? (i := 181) rfl) (by decide +kernel)
theorem q_903 : Cond.instanceMethod y5_lookAtInnermost ∈ zGood := zin4 (List.mem_of_getElem? (i := 183) rfl) (by decide +kernel)
theorem qs_5_lookAtInnermost : Cond.selects RX5 y5_lookAtInnermost y5_lookAtInnermost ∈ zGood := zinS (q := (y5_lookAtInnermost, 14)) (List.mem_of_getElem? (i := 32) rfl) (by decide +kernel)
theorem q_904 : Cond.code y5_lookAtInnermost b5_lookAtInnermost 1 (none) ∈ zGood := zin4 (List.mem_of_getElem? (i := 184) rfl) (by decide +kernel)
theorem q_910 : Cond.methodLink RX5 187 y4_isLive ∈ zGood := zin4 (List.mem_of_getElem? (i := 190) rfl) (by decide +kernel)
theorem q_911 : Cond.methodLink RX5 191 y4_isTyped ∈ zGood := zin4 (List.mem_of_getElem? (i := 191) rfl) (by decide +kernel)
theorem q_240 : Cond.fieldLink RX5 194 (TX4 6).1 (TX4 6).2.1 (TX4 6).2.2.1 ∈ zGood := zin2 (List.mem_of_getElem? (i := 0) rfl) (by decide +kernel)
theorem q_238 : Cond.fieldLink RX5 197 (TX4 5).1 (TX4 5).2.1 (TX4 5).2.2.1 ∈ zGood := zin1 (List.mem_of_getElem? (i := 238) rfl) (by decide +kernel)
theorem q_655 : Cond.methodLink RX5 200 y4_placeOf ∈ zGood := zin3 (List.mem_of_getElem? (i := 175) rfl) (by decide +kernel)
theorem q_656 : Cond.instanceMethod y4_placeOf ∈ zGood := zin3 (List.mem_of_getElem? (i := 176) rfl) (by decide +kernel)
theorem q_657 : Cond.selects RX4 y4_placeOf y4_placeOf ∈ zGood := zin3 (List.mem_of_getElem? (i := 177) rfl) (by decide +kernel)
theorem q_658 : Cond.code y4_placeOf b4_placeOf 3 (some .int) ∈ zGood := zin3 (List.mem_of_getElem? (i := 178) rfl) (by decide +kernel)
theorem q_242 : Cond.fieldLink RX5 203 (TX4 7).1 (TX4 7).2.1 (TX4 7).2.2.1 ∈ zGood := zin2 (List.mem_of_getElem? (i := 2) rfl) (by decide +kernel)
theorem q_229 : Cond.fieldLink RX5 207 (TX4 0).1 (TX4 0).2.1 (TX4 0).2.2.1 ∈ zGood := zin1 (List.mem_of_getElem? (i := 229) rfl) (by decide +kernel)
theorem q_912 : Cond.methodLink RX5 211 y2_countOf ∈ zGood := zin4 (List.mem_of_getElem? (i := 192) rfl) (by decide +kernel)
theorem q_913 : Cond.instanceMethod y2_countOf ∈ zGood := zin4 (List.mem_of_getElem? (i := 193) rfl) (by decide +kernel)
theorem q_914 : Cond.selects RX2 y2_countOf y2_countOf ∈ zGood := zin4 (List.mem_of_getElem? (i := 194) rfl) (by decide +kernel)
theorem q_915 : Cond.code y2_countOf b2_countOf 4 (some .int) ∈ zGood := zin4 (List.mem_of_getElem? (i := 195) rfl) (by decide +kernel)
theorem q_600 : Cond.methodLink RX5 214 y4_renderValues ∈ zGood := zin3 (List.mem_of_getElem? (i := 120) rfl) (by decide +kernel)
theorem q_923 : Cond.methodLink RX5 217 y4_valueByte ∈ zGood := zin4 (List.mem_of_getElem? (i := 203) rfl) (by decide +kernel)
theorem q_924 : Cond.instanceMethod y4_valueByte ∈ zGood := zin4 (List.mem_of_getElem? (i := 204) rfl) (by decide +kernel)
theorem q_925 : Cond.selects RX4 y4_valueByte y4_valueByte ∈ zGood := zin4 (List.mem_of_getElem? (i := 205) rfl) (by decide +kernel)
theorem q_926 : Cond.code y4_valueByte b4_valueByte 3 (some .int) ∈ zGood := zin4 (List.mem_of_getElem? (i := 206) rfl) (by decide +kernel)
theorem q_60 : Cond.fieldLink RX5 223 (TX2 4).1 (TX2 4).2.1 (TX2 4).2.2.1 ∈ zGood := zin1 (List.mem_of_getElem? (i := 60) rfl) (by decide +kernel)
theorem q_63 : Cond.fieldLink RX5 226 (TX2 5).1 (TX2 5).2.1 (TX2 5).2.2.1 ∈ zGood := zin1 (List.mem_of_getElem? (i := 63) rfl) (by decide +kernel)
theorem q_67 : Cond.fieldLink RX5 229 (TX2 6).1 (TX2 6).2.1 (TX2 6).2.2.1 ∈ zGood := zin1 (List.mem_of_getElem? (i := 67) rfl) (by decide +kernel)
theorem q_72 : Cond.fieldLink RX5 232 (TX2 7).1 (TX2 7).2.1 (TX2 7).2.2.1 ∈ zGood := zin1 (List.mem_of_getElem? (i := 72) rfl) (by decide +kernel)
theorem q_236 : Cond.fieldLink RX5 235 (TX4 4).1 (TX4 4).2.1 (TX4 4).2.2.1 ∈ zGood := zin1 (List.mem_of_getElem? (i := 236) rfl) (by decide +kernel)
theorem q_935 : Cond.methodLink RX5 238 y4_isDefaultShown ∈ zGood := zin4 (List.mem_of_getElem? (i := 215) rfl) (by decide +kernel)
theorem q_936 : Cond.methodLink RX5 241 y4_changedLength ∈ zGood := zin4 (List.mem_of_getElem? (i := 216) rfl) (by decide +kernel)
theorem q_937 : Cond.methodLink RX5 244 y4_startOf ∈ zGood := zin4 (List.mem_of_getElem? (i := 217) rfl) (by decide +kernel)
theorem q_938 : Cond.instanceMethod y4_startOf ∈ zGood := zin4 (List.mem_of_getElem? (i := 218) rfl) (by decide +kernel)
theorem q_939 : Cond.selects RX4 y4_startOf y4_startOf ∈ zGood := zin4 (List.mem_of_getElem? (i := 219) rfl) (by decide +kernel)
theorem q_940 : Cond.code y4_startOf b4_startOf 6 (some .int) ∈ zGood := zin4 (List.mem_of_getElem? (i := 220) rfl) (by decide +kernel)
theorem q_674 : Cond.methodLink RX5 251 y4_renderText ∈ zGood := zin3 (List.mem_of_getElem? (i := 194) rfl) (by decide +kernel)
theorem q_675 : Cond.instanceMethod y4_renderText ∈ zGood := zin3 (List.mem_of_getElem? (i := 195) rfl) (by decide +kernel)
theorem q_676 : Cond.selects RX4 y4_renderText y4_renderText ∈ zGood := zin3 (List.mem_of_getElem? (i := 196) rfl) (by decide +kernel)
theorem q_677 : Cond.code y4_renderText b4_renderText 1 (none) ∈ zGood := zin3 (List.mem_of_getElem? (i := 197) rfl) (by decide +kernel)
theorem q_252 : Cond.fieldLink RX5 254 (TX4 12).1 (TX4 12).2.1 (TX4 12).2.2.1 ∈ zGood := zin2 (List.mem_of_getElem? (i := 12) rfl) (by decide +kernel)
theorem q_248 : Cond.fieldLink RX5 257 (TX4 10).1 (TX4 10).2.1 (TX4 10).2.2.1 ∈ zGood := zin2 (List.mem_of_getElem? (i := 8) rfl) (by decide +kernel)
theorem q_246 : Cond.fieldLink RX5 260 (TX4 9).1 (TX4 9).2.1 (TX4 9).2.2.1 ∈ zGood := zin2 (List.mem_of_getElem? (i := 6) rfl) (by decide +kernel)
theorem q_966 : Cond.methodLink RX5 263 y4_reasonNotLive ∈ zGood := zin5 (List.mem_of_getElem? (i := 6) rfl) (by decide +kernel)
theorem q_967 : Cond.instanceMethod y4_reasonNotLive ∈ zGood := zin5 (List.mem_of_getElem? (i := 7) rfl) (by decide +kernel)
theorem q_968 : Cond.selects RX4 y4_reasonNotLive y4_reasonNotLive ∈ zGood := zin5 (List.mem_of_getElem? (i := 8) rfl) (by decide +kernel)
theorem q_969 : Cond.code y4_reasonNotLive b4_reasonNotLive 5 (some .int) ∈ zGood := zin5 (List.mem_of_getElem? (i := 9) rfl) (by decide +kernel)
theorem q_977 : Cond.methodLink RX5 266 y4_countYielded ∈ zGood := zin5 (List.mem_of_getElem? (i := 17) rfl) (by decide +kernel)
theorem q_978 : Cond.instanceMethod y4_countYielded ∈ zGood := zin5 (List.mem_of_getElem? (i := 18) rfl) (by decide +kernel)
theorem q_979 : Cond.selects RX4 y4_countYielded y4_countYielded ∈ zGood := zin5 (List.mem_of_getElem? (i := 19) rfl) (by decide +kernel)
theorem q_980 : Cond.code y4_countYielded b4_countYielded 3 (some .int) ∈ zGood := zin5 (List.mem_of_getElem? (i := 20) rfl) (by decide +kernel)
theorem q_988 : Cond.methodLink RX5 269 y4_countMirrored ∈ zGood := zin5 (List.mem_of_getElem? (i := 28) rfl) (by decide +kernel)
theorem q_989 : Cond.instanceMethod y4_countMirrored ∈ zGood := zin5 (List.mem_of_getElem? (i := 29) rfl) (by decide +kernel)
theorem q_990 : Cond.selects RX4 y4_countMirrored y4_countMirrored ∈ zGood := zin5 (List.mem_of_getElem? (i := 30) rfl) (by decide +kernel)
theorem q_991 : Cond.code y4_countMirrored b4_countMirrored 3 (some .int) ∈ zGood := zin5 (List.mem_of_getElem? (i := 31) rfl) (by decide +kernel)
theorem q_999 : Cond.methodLink RX5 272 y4_fieldOfLongestValue ∈ zGood := zin5 (List.mem_of_getElem? (i := 39) rfl) (by decide +kernel)
theorem q_1000 : Cond.instanceMethod y4_fieldOfLongestValue ∈ zGood := zin5 (List.mem_of_getElem? (i := 40) rfl) (by decide +kernel)
theorem q_1001 : Cond.selects RX4 y4_fieldOfLongestValue y4_fieldOfLongestValue ∈ zGood := zin5 (List.mem_of_getElem? (i := 41) rfl) (by decide +kernel)
theorem q_1002 : Cond.code y4_fieldOfLongestValue b4_fieldOfLongestValue 3 (some .int) ∈ zGood := zin5 (List.mem_of_getElem? (i := 42) rfl) (by decide +kernel)
theorem q_1010 : Cond.methodLink RX5 278 yJ_bitCount ∈ zGood := zin5 (List.mem_of_getElem? (i := 50) rfl) (by decide +kernel)
theorem q_231 : Cond.fieldLink RX5 283 (TX4 1).1 (TX4 1).2.1 (TX4 1).2.2.1 ∈ zGood := zin1 (List.mem_of_getElem? (i := 231) rfl) (by decide +kernel)
theorem q_1018 : Cond.methodLink RX5 286 y4_lengthOfLiveValues ∈ zGood := zin5 (List.mem_of_getElem? (i := 58) rfl) (by decide +kernel)
theorem q_1019 : Cond.instanceMethod y4_lengthOfLiveValues ∈ zGood := zin5 (List.mem_of_getElem? (i := 59) rfl) (by decide +kernel)
theorem q_1020 : Cond.selects RX4 y4_lengthOfLiveValues y4_lengthOfLiveValues ∈ zGood := zin5 (List.mem_of_getElem? (i := 60) rfl) (by decide +kernel)
theorem q_1021 : Cond.code y4_lengthOfLiveValues b4_lengthOfLiveValues 4 (some .long) ∈ zGood := zin5 (List.mem_of_getElem? (i := 61) rfl) (by decide +kernel)
theorem q_585 : Cond.methodLink RX5 305 y4_supposeTyped ∈ zGood := zin3 (List.mem_of_getElem? (i := 105) rfl) (by decide +kernel)
theorem q_586 : Cond.instanceMethod y4_supposeTyped ∈ zGood := zin3 (List.mem_of_getElem? (i := 106) rfl) (by decide +kernel)
theorem q_587 : Cond.selects RX4 y4_supposeTyped y4_supposeTyped ∈ zGood := zin3 (List.mem_of_getElem? (i := 107) rfl) (by decide +kernel)
theorem q_588 : Cond.code y4_supposeTyped b4_supposeTyped 3 (none) ∈ zGood := zin3 (List.mem_of_getElem? (i := 108) rfl) (by decide +kernel)
theorem q_1029 : Cond.methodLink RX5 290 y5_requireBytesAtOnce ∈ zGood := zin5 (List.mem_of_getElem? (i := 69) rfl) (by decide +kernel)
theorem q_1030 : Cond.static y5_requireBytesAtOnce ∈ zGood := zin5 (List.mem_of_getElem? (i := 70) rfl) (by decide +kernel)
theorem q_1031 : Cond.code y5_requireBytesAtOnce b5_requireBytesAtOnce 1 (none) ∈ zGood := zin5 (List.mem_of_getElem? (i := 71) rfl) (by decide +kernel)
theorem q_664 : Cond.methodLink RX5 296 y3_typedLength ∈ zGood := zin3 (List.mem_of_getElem? (i := 184) rfl) (by decide +kernel)
theorem q_581 : Cond.methodLink RX5 299 y5_textIfTyped ∈ zGood := zin3 (List.mem_of_getElem? (i := 101) rfl) (by decide +kernel)
theorem q_583 : Cond.instanceMethod y5_textIfTyped ∈ zGood := zin3 (List.mem_of_getElem? (i := 103) rfl) (by decide +kernel)
theorem qs_5_textIfTyped : Cond.selects RX5 y5_textIfTyped y5_textIfTyped ∈ zGood := zinS (q := (y5_textIfTyped, 14)) (List.mem_of_getElem? (i := 21) rfl) (by decide +kernel)
theorem q_584 : Cond.code y5_textIfTyped b5_textIfTyped 4 (some .long) ∈ zGood := zin3 (List.mem_of_getElem? (i := 104) rfl) (by decide +kernel)
theorem q_589 : Cond.constantLong RX5 303 (zl 400) ∈ zGood := zin3 (List.mem_of_getElem? (i := 109) rfl) (by decide +kernel)
theorem q_1047 : Cond.methodLink RX5 312 y4_takeUntouched ∈ zGood := zin5 (List.mem_of_getElem? (i := 87) rfl) (by decide +kernel)
theorem q_1048 : Cond.instanceMethod y4_takeUntouched ∈ zGood := zin5 (List.mem_of_getElem? (i := 88) rfl) (by decide +kernel)
theorem q_1049 : Cond.selects RX4 y4_takeUntouched y4_takeUntouched ∈ zGood := zin5 (List.mem_of_getElem? (i := 89) rfl) (by decide +kernel)
theorem q_1050 : Cond.code y4_takeUntouched b4_takeUntouched 2 (none) ∈ zGood := zin5 (List.mem_of_getElem? (i := 90) rfl) (by decide +kernel)
theorem q_1051 : Cond.constantLong RX5 316 (zl 100000) ∈ zGood := zin5 (List.mem_of_getElem? (i := 91) rfl) (by decide +kernel)
theorem q_1052 : Cond.methodLink RX5 318 Lib.MathLoose.min_long.x ∈ zGood := zin5 (List.mem_of_getElem? (i := 92) rfl) (by decide +kernel)
theorem q_665 : Cond.constantLong RX5 408 (zl 40) ∈ zGood := zin3 (List.mem_of_getElem? (i := 185) rfl) (by decide +kernel)
theorem q_663 : Cond.constantLong RX5 406 (zl 600) ∈ zGood := zin3 (List.mem_of_getElem? (i := 183) rfl) (by decide +kernel)
theorem q_289 : Cond.fieldLink RX5 18 (TX5 8).1 (TX5 8).2.1 (TX5 8).2.2.1 ∈ zGood := zin2 (List.mem_of_getElem? (i := 49) rfl) (by decide +kernel)
theorem q_290 : Cond.fieldLink RX5 375 (TX5 9).1 (TX5 9).2.1 (TX5 9).2.2.1 ∈ zGood := zin2 (List.mem_of_getElem? (i := 50) rfl) (by decide +kernel)
theorem q_594 : Cond.methodLink RX5 378 y3_copyFrom ∈ zGood := zin3 (List.mem_of_getElem? (i := 114) rfl) (by decide +kernel)
theorem q_595 : Cond.instanceMethod y3_copyFrom ∈ zGood := zin3 (List.mem_of_getElem? (i := 115) rfl) (by decide +kernel)
theorem q_596 : Cond.selects RX3 y3_copyFrom y3_copyFrom ∈ zGood := zin3 (List.mem_of_getElem? (i := 116) rfl) (by decide +kernel)
theorem q_597 : Cond.code y3_copyFrom b3_copyFrom 2 (none) ∈ zGood := zin3 (List.mem_of_getElem? (i := 117) rfl) (by decide +kernel)
theorem q_599 : Cond.methodLink RX5 400 Lib.Math.min.name ∈ zGood := zin3 (List.mem_of_getElem? (i := 119) rfl) (by decide +kernel)
theorem q_634 : Cond.methodLink RX5 360 y3_typeBehind ∈ zGood := zin3 (List.mem_of_getElem? (i := 154) rfl) (by decide +kernel)
theorem q_635 : Cond.instanceMethod y3_typeBehind ∈ zGood := zin3 (List.mem_of_getElem? (i := 155) rfl) (by decide +kernel)
theorem q_636 : Cond.selects RX3 y3_typeBehind y3_typeBehind ∈ zGood := zin3 (List.mem_of_getElem? (i := 156) rfl) (by decide +kernel)
theorem q_637 : Cond.code y3_typeBehind b3_typeBehind 9 (none) ∈ zGood := zin3 (List.mem_of_getElem? (i := 157) rfl) (by decide +kernel)
theorem q_679 : Cond.methodLink RX5 410 y3_appendToDocument ∈ zGood := zin3 (List.mem_of_getElem? (i := 199) rfl) (by decide +kernel)
theorem q_680 : Cond.instanceMethod y3_appendToDocument ∈ zGood := zin3 (List.mem_of_getElem? (i := 200) rfl) (by decide +kernel)
theorem q_681 : Cond.selects RX3 y3_appendToDocument y3_appendToDocument ∈ zGood := zin3 (List.mem_of_getElem? (i := 201) rfl) (by decide +kernel)
theorem q_682 : Cond.code y3_appendToDocument b3_appendToDocument 4 (none) ∈ zGood := zin3 (List.mem_of_getElem? (i := 202) rfl) (by decide +kernel)
theorem q_509 : Cond.methodLink RX5 324 y5_refuse ∈ zGood := zin3 (List.mem_of_getElem? (i := 29) rfl) (by decide +kernel)
theorem q_511 : Cond.instanceMethod y5_refuse ∈ zGood := zin3 (List.mem_of_getElem? (i := 31) rfl) (by decide +kernel)
theorem qs_5_refuse : Cond.selects RX5 y5_refuse y5_refuse ∈ zGood := zinS (q := (y5_refuse, 14)) (List.mem_of_getElem? (i := 15) rfl) (by decide +kernel)
theorem q_512 : Cond.code y5_refuse b5_refuse 2 (some .int) ∈ zGood := zin3 (List.mem_of_getElem? (i := 32) rfl) (by decide +kernel)
theorem q_659 : Cond.methodLink RX5 327 y5_reasonNotToEnd ∈ zGood := zin3 (List.mem_of_getElem? (i := 179) rfl) (by decide +kernel)
theorem q_661 : Cond.instanceMethod y5_reasonNotToEnd ∈ zGood := zin3 (List.mem_of_getElem? (i := 181) rfl) (by decide +kernel)
theorem qs_5_reasonNotToEnd : Cond.selects RX5 y5_reasonNotToEnd y5_reasonNotToEnd ∈ zGood := zinS (q := (y5_reasonNotToEnd, 14)) (List.mem_of_getElem? (i := 25) rfl) (by decide +kernel)
theorem q_662 : Cond.code y5_reasonNotToEnd b5_reasonNotToEnd 8 (some .int) ∈ zGood := zin3 (List.mem_of_getElem? (i := 182) rfl) (by decide +kernel)
theorem q_590 : Cond.methodLink RX5 334 y5_keepForUndo ∈ zGood := zin3 (List.mem_of_getElem? (i := 110) rfl) (by decide +kernel)
theorem q_592 : Cond.instanceMethod y5_keepForUndo ∈ zGood := zin3 (List.mem_of_getElem? (i := 112) rfl) (by decide +kernel)
theorem qs_5_keepForUndo : Cond.selects RX5 y5_keepForUndo y5_keepForUndo ∈ zGood := zinS (q := (y5_keepForUndo, 14)) (List.mem_of_getElem? (i := 22) rfl) (by decide +kernel)
theorem q_593 : Cond.code y5_keepForUndo b5_keepForUndo 1 (none) ∈ zGood := zin3 (List.mem_of_getElem? (i := 113) rfl) (by decide +kernel)
theorem q_1060 : Cond.methodLink RX5 337 y3_push ∈ zGood := zin5 (List.mem_of_getElem? (i := 100) rfl) (by decide +kernel)
theorem q_1061 : Cond.instanceMethod y3_push ∈ zGood := zin5 (List.mem_of_getElem? (i := 101) rfl) (by decide +kernel)
theorem q_1062 : Cond.selects RX3 y3_push y3_push ∈ zGood := zin5 (List.mem_of_getElem? (i := 102) rfl) (by decide +kernel)
theorem q_1063 : Cond.code y3_push b3_push 4 (none) ∈ zGood := zin5 (List.mem_of_getElem? (i := 103) rfl) (by decide +kernel)
theorem q_666 : Cond.methodLink RX5 340 y5_endSession ∈ zGood := zin3 (List.mem_of_getElem? (i := 186) rfl) (by decide +kernel)
theorem q_668 : Cond.instanceMethod y5_endSession ∈ zGood := zin3 (List.mem_of_getElem? (i := 188) rfl) (by decide +kernel)
theorem qs_5_endSession : Cond.selects RX5 y5_endSession y5_endSession ∈ zGood := zinS (q := (y5_endSession, 14)) (List.mem_of_getElem? (i := 26) rfl) (by decide +kernel)
theorem q_669 : Cond.code y5_endSession b5_endSession 3 (none) ∈ zGood := zin3 (List.mem_of_getElem? (i := 189) rfl) (by decide +kernel)
theorem q_1088 : Cond.methodLink RX5 348 y5_typeFromBuffer ∈ zGood := zin5 (List.mem_of_getElem? (i := 128) rfl) (by decide +kernel)
theorem q_1090 : Cond.instanceMethod y5_typeFromBuffer ∈ zGood := zin5 (List.mem_of_getElem? (i := 130) rfl) (by decide +kernel)
theorem qs_5_typeFromBuffer : Cond.selects RX5 y5_typeFromBuffer y5_typeFromBuffer ∈ zGood := zinS (q := (y5_typeFromBuffer, 14)) (List.mem_of_getElem? (i := 35) rfl) (by decide +kernel)
theorem q_1091 : Cond.code y5_typeFromBuffer b5_typeFromBuffer 5 (some .int) ∈ zGood := zin5 (List.mem_of_getElem? (i := 131) rfl) (by decide +kernel)
theorem q_1072 : Cond.classLink RX5 343 "java/util/NoSuchElementException" ∈ zGood := zin5 (List.mem_of_getElem? (i := 112) rfl) (by decide +kernel)
theorem q_22 : Cond.initialized "java/util/NoSuchElementException" ∈ zGood := zin1 (List.mem_of_getElem? (i := 22) rfl) (by decide +kernel)
theorem q_630 : Cond.methodLink RX5 354 y3_makeNotTyped ∈ zGood := zin3 (List.mem_of_getElem? (i := 150) rfl) (by decide +kernel)
theorem q_631 : Cond.instanceMethod y3_makeNotTyped ∈ zGood := zin3 (List.mem_of_getElem? (i := 151) rfl) (by decide +kernel)
theorem q_632 : Cond.selects RX3 y3_makeNotTyped y3_makeNotTyped ∈ zGood := zin3 (List.mem_of_getElem? (i := 152) rfl) (by decide +kernel)
theorem q_633 : Cond.code y3_makeNotTyped b3_makeNotTyped 3 (none) ∈ zGood := zin3 (List.mem_of_getElem? (i := 153) rfl) (by decide +kernel)
theorem q_250 : Cond.fieldLink RX5 357 (TX4 11).1 (TX4 11).2.1 (TX4 11).2.2.1 ∈ zGood := zin2 (List.mem_of_getElem? (i := 10) rfl) (by decide +kernel)
theorem q_643 : Cond.methodLink RX5 364 y3_isTyped ∈ zGood := zin3 (List.mem_of_getElem? (i := 163) rfl) (by decide +kernel)
theorem q_644 : Cond.instanceMethod y3_isTyped ∈ zGood := zin3 (List.mem_of_getElem? (i := 164) rfl) (by decide +kernel)
theorem q_645 : Cond.selects RX3 y3_isTyped y3_isTyped ∈ zGood := zin3 (List.mem_of_getElem? (i := 165) rfl) (by decide +kernel)
theorem q_646 : Cond.code y3_isTyped b3_isTyped 3 (some .boolean) ∈ zGood := zin3 (List.mem_of_getElem? (i := 166) rfl) (by decide +kernel)
theorem q_647 : Cond.methodLink RX5 370 y4_supposeNotTyped ∈ zGood := zin3 (List.mem_of_getElem? (i := 167) rfl) (by decide +kernel)
theorem q_648 : Cond.instanceMethod y4_supposeNotTyped ∈ zGood := zin3 (List.mem_of_getElem? (i := 168) rfl) (by decide +kernel)
theorem q_649 : Cond.selects RX4 y4_supposeNotTyped y4_supposeNotTyped ∈ zGood := zin3 (List.mem_of_getElem? (i := 169) rfl) (by decide +kernel)
theorem q_650 : Cond.code y4_supposeNotTyped b4_supposeNotTyped 2 (none) ∈ zGood := zin3 (List.mem_of_getElem? (i := 170) rfl) (by decide +kernel)
theorem q_1114 : Cond.methodLink RX5 382 y5_requireSlot ∈ zGood := zin5 (List.mem_of_getElem? (i := 154) rfl) (by decide +kernel)
theorem q_1115 : Cond.static y5_requireSlot ∈ zGood := zin5 (List.mem_of_getElem? (i := 155) rfl) (by decide +kernel)
theorem q_1116 : Cond.code y5_requireSlot b5_requireSlot 1 (none) ∈ zGood := zin5 (List.mem_of_getElem? (i := 156) rfl) (by decide +kernel)
theorem q_292 : Cond.fieldLink RX5 22 (TX5 11).1 (TX5 11).2.1 (TX5 11).2.2.1 ∈ zGood := zin2 (List.mem_of_getElem? (i := 52) rfl) (by decide +kernel)
theorem q_1197 : Cond.fieldLink RX7 79 (TX7 0).1 (TX7 0).2.1 (TX7 0).2.2.1 ∈ zGood := zin5 (List.mem_of_getElem? (i := 237) rfl) (by decide +kernel)
theorem q_1205 : Cond.fieldLink RX7 32 (TX7 8).1 (TX7 8).2.1 (TX7 8).2.2.1 ∈ zGood := zin6 (List.mem_of_getElem? (i := 5) rfl) (by decide +kernel)
theorem qn_1138 : Cond.fieldLinkNest RX7 82 (TX6 0).1 (TX6 0).2.1 (TX6 0).2.2.1 "SnippetExpanderModel" ∈ zNw := List.mem_of_getElem? (i := 12) rfl
theorem q_1344 : Cond.methodLink RX7 85 y7_within ∈ zGood := zin6 (List.mem_of_getElem? (i := 144) rfl) (by decide +kernel)
theorem q_1345 : Cond.static y7_within ∈ zGood := zin6 (List.mem_of_getElem? (i := 145) rfl) (by decide +kernel)
theorem q_7 : Cond.initialized RX7 ∈ zGood := zin1 (List.mem_of_getElem? (i := 7) rfl) (by decide +kernel)
theorem q_1346 : Cond.code y7_within b7_within 3 (some .boolean) ∈ zGood := zin6 (List.mem_of_getElem? (i := 146) rfl) (by decide +kernel)
theorem q_1317 : Cond.methodLink RX7 89 y7_throwsIf ∈ zGood := zin6 (List.mem_of_getElem? (i := 117) rfl) (by decide +kernel)
theorem q_1319 : Cond.instanceMethod y7_throwsIf ∈ zGood := zin6 (List.mem_of_getElem? (i := 119) rfl) (by decide +kernel)
theorem qs_7_throwsIf : Cond.selects RX7 y7_throwsIf y7_throwsIf ∈ zGood := zinS (q := (y7_throwsIf, 36)) (List.mem_of_getElem? (i := 36) rfl) (by decide +kernel)
theorem q_1320 : Cond.code y7_throwsIf b7_throwsIf 3 (some .boolean) ∈ zGood := zin6 (List.mem_of_getElem? (i := 120) rfl) (by decide +kernel)
theorem q_1206 : Cond.fieldLink RX7 36 (TX7 9).1 (TX7 9).2.1 (TX7 9).2.2.1 ∈ zGood := zin6 (List.mem_of_getElem? (i := 6) rfl) (by decide +kernel)
theorem q_1207 : Cond.fieldLink RX7 93 (TX7 10).1 (TX7 10).2.1 (TX7 10).2.2.1 ∈ zGood := zin6 (List.mem_of_getElem? (i := 7) rfl) (by decide +kernel)
theorem q_1314 : Cond.methodLink RX7 96 y7_bytesIn ∈ zGood := zin6 (List.mem_of_getElem? (i := 114) rfl) (by decide +kernel)
theorem q_1315 : Cond.static y7_bytesIn ∈ zGood := zin6 (List.mem_of_getElem? (i := 115) rfl) (by decide +kernel)
theorem q_1316 : Cond.code y7_bytesIn b7_bytesIn 3 (some .int) ∈ zGood := zin6 (List.mem_of_getElem? (i := 116) rfl) (by decide +kernel)
theorem q_1321 : Cond.methodLink RX7 100 y7_puts ∈ zGood := zin6 (List.mem_of_getElem? (i := 121) rfl) (by decide +kernel)
theorem q_1323 : Cond.instanceMethod y7_puts ∈ zGood := zin6 (List.mem_of_getElem? (i := 123) rfl) (by decide +kernel)
theorem qs_7_puts : Cond.selects RX7 y7_puts y7_puts ∈ zGood := zinS (q := (y7_puts, 36)) (List.mem_of_getElem? (i := 37) rfl) (by decide +kernel)
theorem q_1324 : Cond.code y7_puts b7_puts 3 (none) ∈ zGood := zin6 (List.mem_of_getElem? (i := 124) rfl) (by decide +kernel)
theorem q_1208 : Cond.fieldLink RX7 104 (TX7 11).1 (TX7 11).2.1 (TX7 11).2.2.1 ∈ zGood := zin6 (List.mem_of_getElem? (i := 8) rfl) (by decide +kernel)
theorem q_1209 : Cond.fieldLink RX7 39 (TX7 12).1 (TX7 12).2.1 (TX7 12).2.2.1 ∈ zGood := zin6 (List.mem_of_getElem? (i := 9) rfl) (by decide +kernel)
theorem q_1211 : Cond.fieldLink RX7 107 (TX7 14).1 (TX7 14).2.1 (TX7 14).2.2.1 ∈ zGood := zin6 (List.mem_of_getElem? (i := 11) rfl) (by decide +kernel)
theorem q_1337 : Cond.methodLink RX7 110 y7_byteAt ∈ zGood := zin6 (List.mem_of_getElem? (i := 137) rfl) (by decide +kernel)
theorem q_1339 : Cond.instanceMethod y7_byteAt ∈ zGood := zin6 (List.mem_of_getElem? (i := 139) rfl) (by decide +kernel)
theorem qs_7_byteAt : Cond.selects RX7 y7_byteAt y7_byteAt ∈ zGood := zinS (q := (y7_byteAt, 36)) (List.mem_of_getElem? (i := 40) rfl) (by decide +kernel)
theorem q_1340 : Cond.code y7_byteAt b7_byteAt 2 (some .int) ∈ zGood := zin6 (List.mem_of_getElem? (i := 140) rfl) (by decide +kernel)
theorem q_1212 : Cond.fieldLink RX7 113 (TX7 15).1 (TX7 15).2.1 (TX7 15).2.2.1 ∈ zGood := zin6 (List.mem_of_getElem? (i := 12) rfl) (by decide +kernel)
theorem q_1341 : Cond.methodLink RX7 116 y7_isLetter ∈ zGood := zin6 (List.mem_of_getElem? (i := 141) rfl) (by decide +kernel)
theorem q_1342 : Cond.static y7_isLetter ∈ zGood := zin6 (List.mem_of_getElem? (i := 142) rfl) (by decide +kernel)
theorem q_1343 : Cond.code y7_isLetter b7_isLetter 1 (some .boolean) ∈ zGood := zin6 (List.mem_of_getElem? (i := 143) rfl) (by decide +kernel)
theorem q_1214 : Cond.fieldLink RX7 120 (TX7 17).1 (TX7 17).2.1 (TX7 17).2.2.1 ∈ zGood := zin6 (List.mem_of_getElem? (i := 14) rfl) (by decide +kernel)
theorem q_1213 : Cond.fieldLink RX7 124 (TX7 16).1 (TX7 16).2.1 (TX7 16).2.2.1 ∈ zGood := zin6 (List.mem_of_getElem? (i := 13) rfl) (by decide +kernel)
theorem qn_1143 : Cond.fieldLinkNest RX7 136 (TX6 3).1 (TX6 3).2.1 (TX6 3).2.2.1 "SnippetExpanderModel" ∈ zNw := List.mem_of_getElem? (i := 15) rfl
theorem qn_1141 : Cond.fieldLinkNest RX7 139 (TX6 2).1 (TX6 2).2.1 (TX6 2).2.2.1 "SnippetExpanderModel" ∈ zNw := List.mem_of_getElem? (i := 14) rfl
theorem q_1333 : Cond.methodLink RX7 142 y7_token ∈ zGood := zin6 (List.mem_of_getElem? (i := 133) rfl) (by decide +kernel)
theorem q_1335 : Cond.instanceMethod y7_token ∈ zGood := zin6 (List.mem_of_getElem? (i := 135) rfl) (by decide +kernel)
theorem qs_7_token : Cond.selects RX7 y7_token y7_token ∈ zGood := zinS (q := (y7_token, 36)) (List.mem_of_getElem? (i := 39) rfl) (by decide +kernel)
theorem q_1336 : Cond.code y7_token b7_token 1 (none) ∈ zGood := zin6 (List.mem_of_getElem? (i := 136) rfl) (by decide +kernel)
theorem q_1358 : Cond.methodLink RX7 145 y7_fails ∈ zGood := zin6 (List.mem_of_getElem? (i := 158) rfl) (by decide +kernel)
theorem q_1360 : Cond.instanceMethod y7_fails ∈ zGood := zin6 (List.mem_of_getElem? (i := 160) rfl) (by decide +kernel)
theorem qs_7_fails : Cond.selects RX7 y7_fails y7_fails ∈ zGood := zinS (q := (y7_fails, 36)) (List.mem_of_getElem? (i := 43) rfl) (by decide +kernel)
theorem q_1361 : Cond.code y7_fails b7_fails 3 (some .boolean) ∈ zGood := zin6 (List.mem_of_getElem? (i := 161) rfl) (by decide +kernel)
theorem q_1210 : Cond.fieldLink RX7 43 (TX7 13).1 (TX7 13).2.1 (TX7 13).2.2.1 ∈ zGood := zin6 (List.mem_of_getElem? (i := 10) rfl) (by decide +kernel)
theorem q_1366 : Cond.methodLink RX7 149 y7_isName ∈ zGood := zin6 (List.mem_of_getElem? (i := 166) rfl) (by decide +kernel)
theorem q_1368 : Cond.instanceMethod y7_isName ∈ zGood := zin6 (List.mem_of_getElem? (i := 168) rfl) (by decide +kernel)
theorem qs_7_isName : Cond.selects RX7 y7_isName y7_isName ∈ zGood := zinS (q := (y7_isName, 36)) (List.mem_of_getElem? (i := 45) rfl) (by decide +kernel)
theorem q_1369 : Cond.code y7_isName b7_isName 7 (some .boolean) ∈ zGood := zin6 (List.mem_of_getElem? (i := 169) rfl) (by decide +kernel)
theorem qn_1147 : Cond.fieldLinkNest RX7 153 (TX6 5).1 (TX6 5).2.1 (TX6 5).2.2.1 "SnippetExpanderModel" ∈ zNw := List.mem_of_getElem? (i := 17) rfl
theorem q_1217 : Cond.fieldLink RX7 156 (TX7 20).1 (TX7 20).2.1 (TX7 20).2.2.1 ∈ zGood := zin6 (List.mem_of_getElem? (i := 17) rfl) (by decide +kernel)
theorem q_1216 : Cond.fieldLink RX7 159 (TX7 19).1 (TX7 19).2.1 (TX7 19).2.2.1 ∈ zGood := zin6 (List.mem_of_getElem? (i := 16) rfl) (by decide +kernel)
theorem qn_1151 : Cond.fieldLinkNest RX7 162 (TX6 7).1 (TX6 7).2.1 (TX6 7).2.2.1 "SnippetExpanderModel" ∈ zNw := List.mem_of_getElem? (i := 19) rfl
theorem q_1215 : Cond.fieldLink RX7 46 (TX7 18).1 (TX7 18).2.1 (TX7 18).2.2.1 ∈ zGood := zin6 (List.mem_of_getElem? (i := 15) rfl) (by decide +kernel)
theorem qn_1165 : Cond.fieldLinkNest RX7 165 (TX6 14).1 (TX6 14).2.1 (TX6 14).2.2.1 "SnippetExpanderModel" ∈ zNw := List.mem_of_getElem? (i := 26) rfl
theorem q_1390 : Cond.methodLink RX7 168 y7_has ∈ zGood := zin6 (List.mem_of_getElem? (i := 190) rfl) (by decide +kernel)
theorem q_1391 : Cond.static y7_has ∈ zGood := zin6 (List.mem_of_getElem? (i := 191) rfl) (by decide +kernel)
theorem q_1392 : Cond.code y7_has b7_has 2 (some .boolean) ∈ zGood := zin6 (List.mem_of_getElem? (i := 192) rfl) (by decide +kernel)
theorem qn_1153 : Cond.fieldLinkNest RX7 177 (TX6 8).1 (TX6 8).2.1 (TX6 8).2.2.1 "SnippetExpanderModel" ∈ zNw := List.mem_of_getElem? (i := 20) rfl
theorem q_1401 : Cond.methodLink RX7 204 y7_changeOf ∈ zGood := zin6 (List.mem_of_getElem? (i := 201) rfl) (by decide +kernel)
theorem q_1402 : Cond.static y7_changeOf ∈ zGood := zin6 (List.mem_of_getElem? (i := 202) rfl) (by decide +kernel)
theorem q_1403 : Cond.code y7_changeOf b7_changeOf 1 (some .int) ∈ zGood := zin6 (List.mem_of_getElem? (i := 203) rfl) (by decide +kernel)
theorem qn_1155 : Cond.fieldLinkNest RX7 180 (TX6 9).1 (TX6 9).2.1 (TX6 9).2.2.1 "SnippetExpanderModel" ∈ zNw := List.mem_of_getElem? (i := 21) rfl
theorem qn_1149 : Cond.fieldLinkNest RX7 171 (TX6 6).1 (TX6 6).2.1 (TX6 6).2.2.1 "SnippetExpanderModel" ∈ zNw := List.mem_of_getElem? (i := 18) rfl
theorem q_1386 : Cond.methodLink RX7 174 y7_turnsBack ∈ zGood := zin6 (List.mem_of_getElem? (i := 186) rfl) (by decide +kernel)
theorem q_1388 : Cond.instanceMethod y7_turnsBack ∈ zGood := zin6 (List.mem_of_getElem? (i := 188) rfl) (by decide +kernel)
theorem qs_7_turnsBack : Cond.selects RX7 y7_turnsBack y7_turnsBack ∈ zGood := zinS (q := (y7_turnsBack, 36)) (List.mem_of_getElem? (i := 50) rfl) (by decide +kernel)
theorem q_1389 : Cond.code y7_turnsBack b7_turnsBack 6 (some .boolean) ∈ zGood := zin6 (List.mem_of_getElem? (i := 189) rfl) (by decide +kernel)
theorem qn_1157 : Cond.fieldLinkNest RX7 183 (TX6 10).1 (TX6 10).2.1 (TX6 10).2.2.1 "SnippetExpanderModel" ∈ zNw := List.mem_of_getElem? (i := 22) rfl
theorem qn_1159 : Cond.fieldLinkNest RX7 186 (TX6 11).1 (TX6 11).2.1 (TX6 11).2.2.1 "SnippetExpanderModel" ∈ zNw := List.mem_of_getElem? (i := 23) rfl
theorem qn_1161 : Cond.fieldLinkNest RX7 189 (TX6 12).1 (TX6 12).2.1 (TX6 12).2.2.1 "SnippetExpanderModel" ∈ zNw := List.mem_of_getElem? (i := 24) rfl
theorem qn_1163 : Cond.fieldLinkNest RX7 192 (TX6 13).1 (TX6 13).2.1 (TX6 13).2.2.1 "SnippetExpanderModel" ∈ zNw := List.mem_of_getElem? (i := 25) rfl
theorem q_1393 : Cond.methodLink RX7 195 y7_dependsOn ∈ zGood := zin6 (List.mem_of_getElem? (i := 193) rfl) (by decide +kernel)
theorem q_1395 : Cond.instanceMethod y7_dependsOn ∈ zGood := zin6 (List.mem_of_getElem? (i := 195) rfl) (by decide +kernel)
theorem qs_7_dependsOn : Cond.selects RX7 y7_dependsOn y7_dependsOn ∈ zGood := zinS (q := (y7_dependsOn, 36)) (List.mem_of_getElem? (i := 51) rfl) (by decide +kernel)
theorem q_1396 : Cond.code y7_dependsOn b7_dependsOn 7 (none) ∈ zGood := zin6 (List.mem_of_getElem? (i := 196) rfl) (by decide +kernel)
theorem q_1378 : Cond.methodLink RX7 198 y7_item ∈ zGood := zin6 (List.mem_of_getElem? (i := 178) rfl) (by decide +kernel)
theorem q_1380 : Cond.instanceMethod y7_item ∈ zGood := zin6 (List.mem_of_getElem? (i := 180) rfl) (by decide +kernel)
theorem qs_7_item : Cond.selects RX7 y7_item y7_item ∈ zGood := zinS (q := (y7_item, 36)) (List.mem_of_getElem? (i := 48) rfl) (by decide +kernel)
theorem q_1381 : Cond.code y7_item b7_item 2 (none) ∈ zGood := zin6 (List.mem_of_getElem? (i := 181) rfl) (by decide +kernel)
theorem q_1397 : Cond.methodLink RX7 201 y7_readRest ∈ zGood := zin6 (List.mem_of_getElem? (i := 197) rfl) (by decide +kernel)
theorem q_1399 : Cond.instanceMethod y7_readRest ∈ zGood := zin6 (List.mem_of_getElem? (i := 199) rfl) (by decide +kernel)
theorem qs_7_readRest : Cond.selects RX7 y7_readRest y7_readRest ∈ zGood := zinS (q := (y7_readRest, 36)) (List.mem_of_getElem? (i := 52) rfl) (by decide +kernel)
theorem q_1400 : Cond.code y7_readRest b7_readRest 5 (some .boolean) ∈ zGood := zin6 (List.mem_of_getElem? (i := 200) rfl) (by decide +kernel)
theorem q_1382 : Cond.methodLink RX7 207 y7_readOccurrence ∈ zGood := zin6 (List.mem_of_getElem? (i := 182) rfl) (by decide +kernel)
theorem q_1384 : Cond.instanceMethod y7_readOccurrence ∈ zGood := zin6 (List.mem_of_getElem? (i := 184) rfl) (by decide +kernel)
theorem qs_7_readOccurrence : Cond.selects RX7 y7_readOccurrence y7_readOccurrence ∈ zGood := zinS (q := (y7_readOccurrence, 36)) (List.mem_of_getElem? (i := 49) rfl) (by decide +kernel)
theorem q_1385 : Cond.code y7_readOccurrence b7_readOccurrence 7 (some .boolean) ∈ zGood := zin6 (List.mem_of_getElem? (i := 185) rfl) (by decide +kernel)
theorem q_1362 : Cond.methodLink RX7 210 y7_readName ∈ zGood := zin6 (List.mem_of_getElem? (i := 162) rfl) (by decide +kernel)
theorem q_1364 : Cond.instanceMethod y7_readName ∈ zGood := zin6 (List.mem_of_getElem? (i := 164) rfl) (by decide +kernel)
theorem qs_7_readName : Cond.selects RX7 y7_readName y7_readName ∈ zGood := zinS (q := (y7_readName, 36)) (List.mem_of_getElem? (i := 44) rfl) (by decide +kernel)
theorem q_1365 : Cond.code y7_readName b7_readName 3 (some .boolean) ∈ zGood := zin6 (List.mem_of_getElem? (i := 165) rfl) (by decide +kernel)
theorem q_1370 : Cond.methodLink RX7 214 y7_isSign ∈ zGood := zin6 (List.mem_of_getElem? (i := 170) rfl) (by decide +kernel)
theorem q_1372 : Cond.instanceMethod y7_isSign ∈ zGood := zin6 (List.mem_of_getElem? (i := 172) rfl) (by decide +kernel)
theorem qs_7_isSign : Cond.selects RX7 y7_isSign y7_isSign ∈ zGood := zinS (q := (y7_isSign, 36)) (List.mem_of_getElem? (i := 46) rfl) (by decide +kernel)
theorem q_1373 : Cond.code y7_isSign b7_isSign 2 (some .boolean) ∈ zGood := zin6 (List.mem_of_getElem? (i := 173) rfl) (by decide +kernel)
theorem qn_1145 : Cond.fieldLinkNest RX7 217 (TX6 4).1 (TX6 4).2.1 (TX6 4).2.2.1 "SnippetExpanderModel" ∈ zNw := List.mem_of_getElem? (i := 16) rfl
theorem q_1374 : Cond.methodLink RX7 220 y7_readBody ∈ zGood := zin6 (List.mem_of_getElem? (i := 174) rfl) (by decide +kernel)
theorem q_1376 : Cond.instanceMethod y7_readBody ∈ zGood := zin6 (List.mem_of_getElem? (i := 176) rfl) (by decide +kernel)
theorem qs_7_readBody : Cond.selects RX7 y7_readBody y7_readBody ∈ zGood := zinS (q := (y7_readBody, 36)) (List.mem_of_getElem? (i := 47) rfl) (by decide +kernel)
theorem q_1377 : Cond.code y7_readBody b7_readBody 4 (some .boolean) ∈ zGood := zin6 (List.mem_of_getElem? (i := 177) rfl) (by decide +kernel)
theorem q_1348 : Cond.methodLink RX7 225 y7_is ∈ zGood := zin6 (List.mem_of_getElem? (i := 148) rfl) (by decide +kernel)
theorem q_1350 : Cond.instanceMethod y7_is ∈ zGood := zin6 (List.mem_of_getElem? (i := 150) rfl) (by decide +kernel)
theorem qs_7_is : Cond.selects RX7 y7_is y7_is ∈ zGood := zinS (q := (y7_is, 36)) (List.mem_of_getElem? (i := 41) rfl) (by decide +kernel)
theorem q_1351 : Cond.code y7_is b7_is 4 (some .boolean) ∈ zGood := zin6 (List.mem_of_getElem? (i := 151) rfl) (by decide +kernel)
theorem qn_1139 : Cond.fieldLinkNest RX7 231 (TX6 1).1 (TX6 1).2.1 (TX6 1).2.2.1 "SnippetExpanderModel" ∈ zNw := List.mem_of_getElem? (i := 13) rfl
theorem q_1405 : Cond.methodLink RX7 240 y7_readOrder ∈ zGood := zin6 (List.mem_of_getElem? (i := 205) rfl) (by decide +kernel)
theorem q_1407 : Cond.instanceMethod y7_readOrder ∈ zGood := zin6 (List.mem_of_getElem? (i := 207) rfl) (by decide +kernel)
theorem qs_7_readOrder : Cond.selects RX7 y7_readOrder y7_readOrder ∈ zGood := zinS (q := (y7_readOrder, 36)) (List.mem_of_getElem? (i := 53) rfl) (by decide +kernel)
theorem q_1408 : Cond.code y7_readOrder b7_readOrder 1 (some .boolean) ∈ zGood := zin6 (List.mem_of_getElem? (i := 208) rfl) (by decide +kernel)
theorem q_1354 : Cond.methodLink RX7 236 y7_readSnippet ∈ zGood := zin6 (List.mem_of_getElem? (i := 154) rfl) (by decide +kernel)
theorem q_1356 : Cond.instanceMethod y7_readSnippet ∈ zGood := zin6 (List.mem_of_getElem? (i := 156) rfl) (by decide +kernel)
theorem qs_7_readSnippet : Cond.selects RX7 y7_readSnippet y7_readSnippet ∈ zGood := zinS (q := (y7_readSnippet, 36)) (List.mem_of_getElem? (i := 42) rfl) (by decide +kernel)
theorem q_1357 : Cond.code y7_readSnippet b7_readSnippet 2 (some .boolean) ∈ zGood := zin6 (List.mem_of_getElem? (i := 157) rfl) (by decide +kernel)
theorem q_1329 : Cond.methodLink RX7 243 y7_readAll ∈ zGood := zin6 (List.mem_of_getElem? (i := 129) rfl) (by decide +kernel)
theorem q_1331 : Cond.instanceMethod y7_readAll ∈ zGood := zin6 (List.mem_of_getElem? (i := 131) rfl) (by decide +kernel)
theorem qs_7_readAll : Cond.selects RX7 y7_readAll y7_readAll ∈ zGood := zinS (q := (y7_readAll, 36)) (List.mem_of_getElem? (i := 38) rfl) (by decide +kernel)
theorem q_1332 : Cond.code y7_readAll b7_readAll 2 (some .boolean) ∈ zGood := zin6 (List.mem_of_getElem? (i := 132) rfl) (by decide +kernel)
theorem q_1198 : Cond.fieldLink RX7 7 (TX7 1).1 (TX7 1).2.1 (TX7 1).2.2.1 ∈ zGood := zin5 (List.mem_of_getElem? (i := 238) rfl) (by decide +kernel)
theorem q_1204 : Cond.fieldLink RX7 246 (TX7 7).1 (TX7 7).2.1 (TX7 7).2.2.1 ∈ zGood := zin6 (List.mem_of_getElem? (i := 4) rfl) (by decide +kernel)
theorem q_1202 : Cond.fieldLink RX7 22 (TX7 5).1 (TX7 5).2.1 (TX7 5).2.2.1 ∈ zGood := zin6 (List.mem_of_getElem? (i := 2) rfl) (by decide +kernel)
theorem q_1218 : Cond.fieldLink RX7 249 (TX7 21).1 (TX7 21).2.1 (TX7 21).2.2.1 ∈ zGood := zin6 (List.mem_of_getElem? (i := 18) rfl) (by decide +kernel)
theorem q_1219 : Cond.fieldLink RX7 251 (TX7 22).1 (TX7 22).2.1 (TX7 22).2.2.1 ∈ zGood := zin6 (List.mem_of_getElem? (i := 19) rfl) (by decide +kernel)
theorem q_1224 : Cond.fieldLink RX7 257 (TX7 27).1 (TX7 27).2.1 (TX7 27).2.2.1 ∈ zGood := zin6 (List.mem_of_getElem? (i := 24) rfl) (by decide +kernel)
theorem q_1222 : Cond.fieldLink RX7 55 (TX7 25).1 (TX7 25).2.1 (TX7 25).2.2.1 ∈ zGood := zin6 (List.mem_of_getElem? (i := 22) rfl) (by decide +kernel)
theorem q_1223 : Cond.fieldLink RX7 58 (TX7 26).1 (TX7 26).2.1 (TX7 26).2.2.1 ∈ zGood := zin6 (List.mem_of_getElem? (i := 23) rfl) (by decide +kernel)
theorem q_1228 : Cond.fieldLink RX7 67 (TX7 31).1 (TX7 31).2.1 (TX7 31).2.2.1 ∈ zGood := zin6 (List.mem_of_getElem? (i := 28) rfl) (by decide +kernel)
theorem q_1475 : Cond.methodLink RX7 260 y7_many ∈ zGood := zin7 (List.mem_of_getElem? (i := 35) rfl) (by decide +kernel)
theorem q_1477 : Cond.instanceMethod y7_many ∈ zGood := zin7 (List.mem_of_getElem? (i := 37) rfl) (by decide +kernel)
theorem qs_7_many : Cond.selects RX7 y7_many y7_many ∈ zGood := zinS (q := (y7_many, 36)) (List.mem_of_getElem? (i := 60) rfl) (by decide +kernel)
theorem q_1478 : Cond.code y7_many b7_many 1 (some .int) ∈ zGood := zin7 (List.mem_of_getElem? (i := 38) rfl) (by decide +kernel)
theorem q_1479 : Cond.methodLink RX7 262 y7_of ∈ zGood := zin7 (List.mem_of_getElem? (i := 39) rfl) (by decide +kernel)
theorem q_1481 : Cond.instanceMethod y7_of ∈ zGood := zin7 (List.mem_of_getElem? (i := 41) rfl) (by decide +kernel)
theorem qs_7_of : Cond.selects RX7 y7_of y7_of ∈ zGood := zinS (q := (y7_of, 36)) (List.mem_of_getElem? (i := 61) rfl) (by decide +kernel)
theorem q_1482 : Cond.code y7_of b7_of 2 (some .int) ∈ zGood := zin7 (List.mem_of_getElem? (i := 42) rfl) (by decide +kernel)
theorem q_1220 : Cond.fieldLink RX7 49 (TX7 23).1 (TX7 23).2.1 (TX7 23).2.2.1 ∈ zGood := zin6 (List.mem_of_getElem? (i := 20) rfl) (by decide +kernel)
theorem q_1221 : Cond.fieldLink RX7 52 (TX7 24).1 (TX7 24).2.1 (TX7 24).2.2.1 ∈ zGood := zin6 (List.mem_of_getElem? (i := 21) rfl) (by decide +kernel)
theorem q_1483 : Cond.methodLink RX7 265 y7_isTyped ∈ zGood := zin7 (List.mem_of_getElem? (i := 43) rfl) (by decide +kernel)
theorem q_1485 : Cond.instanceMethod y7_isTyped ∈ zGood := zin7 (List.mem_of_getElem? (i := 45) rfl) (by decide +kernel)
theorem qs_7_isTyped : Cond.selects RX7 y7_isTyped y7_isTyped ∈ zGood := zinS (q := (y7_isTyped, 36)) (List.mem_of_getElem? (i := 62) rfl) (by decide +kernel)
theorem q_1486 : Cond.code y7_isTyped b7_isTyped 2 (some .boolean) ∈ zGood := zin7 (List.mem_of_getElem? (i := 46) rfl) (by decide +kernel)
theorem q_1471 : Cond.methodLink RX7 254 y7_shows ∈ zGood := zin7 (List.mem_of_getElem? (i := 31) rfl) (by decide +kernel)
theorem q_1473 : Cond.instanceMethod y7_shows ∈ zGood := zin7 (List.mem_of_getElem? (i := 33) rfl) (by decide +kernel)
theorem qs_7_shows : Cond.selects RX7 y7_shows y7_shows ∈ zGood := zinS (q := (y7_shows, 36)) (List.mem_of_getElem? (i := 59) rfl) (by decide +kernel)
theorem q_1474 : Cond.code y7_shows b7_shows 4 (none) ∈ zGood := zin7 (List.mem_of_getElem? (i := 34) rfl) (by decide +kernel)
theorem q_1509 : Cond.constant RX7 268 (zi 100000) ∈ zGood := zin7 (List.mem_of_getElem? (i := 69) rfl) (by decide +kernel)
theorem q_1491 : Cond.methodLink RX7 269 y7_bodyLength ∈ zGood := zin7 (List.mem_of_getElem? (i := 51) rfl) (by decide +kernel)
theorem q_1493 : Cond.instanceMethod y7_bodyLength ∈ zGood := zin7 (List.mem_of_getElem? (i := 53) rfl) (by decide +kernel)
theorem qs_7_bodyLength : Cond.selects RX7 y7_bodyLength y7_bodyLength ∈ zGood := zinS (q := (y7_bodyLength, 36)) (List.mem_of_getElem? (i := 64) rfl) (by decide +kernel)
theorem q_1494 : Cond.code y7_bodyLength b7_bodyLength 7 (some .int) ∈ zGood := zin7 (List.mem_of_getElem? (i := 54) rfl) (by decide +kernel)
theorem q_1499 : Cond.methodLink RX7 273 y7_valueLength ∈ zGood := zin7 (List.mem_of_getElem? (i := 59) rfl) (by decide +kernel)
theorem q_1501 : Cond.instanceMethod y7_valueLength ∈ zGood := zin7 (List.mem_of_getElem? (i := 61) rfl) (by decide +kernel)
theorem qs_7_valueLength : Cond.selects RX7 y7_valueLength y7_valueLength ∈ zGood := zinS (q := (y7_valueLength, 36)) (List.mem_of_getElem? (i := 66) rfl) (by decide +kernel)
theorem q_1502 : Cond.code y7_valueLength b7_valueLength 3 (some .int) ∈ zGood := zin7 (List.mem_of_getElem? (i := 62) rfl) (by decide +kernel)
theorem q_1503 : Cond.methodLink RX7 276 y7_changed ∈ zGood := zin7 (List.mem_of_getElem? (i := 63) rfl) (by decide +kernel)
theorem q_1504 : Cond.static y7_changed ∈ zGood := zin7 (List.mem_of_getElem? (i := 64) rfl) (by decide +kernel)
theorem q_1505 : Cond.code y7_changed b7_changed 4 (some .int) ∈ zGood := zin7 (List.mem_of_getElem? (i := 65) rfl) (by decide +kernel)
theorem q_1506 : Cond.methodLink RX7 282 y7_sum ∈ zGood := zin7 (List.mem_of_getElem? (i := 66) rfl) (by decide +kernel)
theorem q_1507 : Cond.static y7_sum ∈ zGood := zin7 (List.mem_of_getElem? (i := 67) rfl) (by decide +kernel)
theorem q_1508 : Cond.code y7_sum b7_sum 2 (some .int) ∈ zGood := zin7 (List.mem_of_getElem? (i := 68) rfl) (by decide +kernel)
theorem q_1495 : Cond.methodLink RX7 279 y7_lengthAt ∈ zGood := zin7 (List.mem_of_getElem? (i := 55) rfl) (by decide +kernel)
theorem q_1497 : Cond.instanceMethod y7_lengthAt ∈ zGood := zin7 (List.mem_of_getElem? (i := 57) rfl) (by decide +kernel)
theorem qs_7_lengthAt : Cond.selects RX7 y7_lengthAt y7_lengthAt ∈ zGood := zinS (q := (y7_lengthAt, 36)) (List.mem_of_getElem? (i := 65) rfl) (by decide +kernel)
theorem q_1498 : Cond.code y7_lengthAt b7_lengthAt 2 (some .int) ∈ zGood := zin7 (List.mem_of_getElem? (i := 58) rfl) (by decide +kernel)
theorem q_1225 : Cond.fieldLink RX7 61 (TX7 28).1 (TX7 28).2.1 (TX7 28).2.2.1 ∈ zGood := zin6 (List.mem_of_getElem? (i := 25) rfl) (by decide +kernel)
theorem q_1226 : Cond.fieldLink RX7 285 (TX7 29).1 (TX7 29).2.1 (TX7 29).2.2.1 ∈ zGood := zin6 (List.mem_of_getElem? (i := 26) rfl) (by decide +kernel)
theorem q_1566 : Cond.methodLink RX7 295 y7_writesNumber ∈ zGood := zin7 (List.mem_of_getElem? (i := 126) rfl) (by decide +kernel)
theorem q_1568 : Cond.instanceMethod y7_writesNumber ∈ zGood := zin7 (List.mem_of_getElem? (i := 128) rfl) (by decide +kernel)
theorem qs_7_writesNumber : Cond.selects RX7 y7_writesNumber y7_writesNumber ∈ zGood := zinS (q := (y7_writesNumber, 36)) (List.mem_of_getElem? (i := 78) rfl) (by decide +kernel)
theorem q_1569 : Cond.code y7_writesNumber b7_writesNumber 3 (none) ∈ zGood := zin7 (List.mem_of_getElem? (i := 129) rfl) (by decide +kernel)
theorem q_1570 : Cond.methodLink RX7 298 y7_turned ∈ zGood := zin7 (List.mem_of_getElem? (i := 130) rfl) (by decide +kernel)
theorem q_1571 : Cond.static y7_turned ∈ zGood := zin7 (List.mem_of_getElem? (i := 131) rfl) (by decide +kernel)
theorem q_1572 : Cond.code y7_turned b7_turned 2 (some .int) ∈ zGood := zin7 (List.mem_of_getElem? (i := 132) rfl) (by decide +kernel)
theorem q_1558 : Cond.methodLink RX7 288 y7_writesBody ∈ zGood := zin7 (List.mem_of_getElem? (i := 118) rfl) (by decide +kernel)
theorem q_1560 : Cond.instanceMethod y7_writesBody ∈ zGood := zin7 (List.mem_of_getElem? (i := 120) rfl) (by decide +kernel)
theorem qs_7_writesBody : Cond.selects RX7 y7_writesBody y7_writesBody ∈ zGood := zinS (q := (y7_writesBody, 36)) (List.mem_of_getElem? (i := 76) rfl) (by decide +kernel)
theorem q_1561 : Cond.code y7_writesBody b7_writesBody 7 (none) ∈ zGood := zin7 (List.mem_of_getElem? (i := 121) rfl) (by decide +kernel)
theorem q_1227 : Cond.fieldLink RX7 64 (TX7 30).1 (TX7 30).2.1 (TX7 30).2.2.1 ∈ zGood := zin6 (List.mem_of_getElem? (i := 27) rfl) (by decide +kernel)
theorem q_1554 : Cond.methodLink RX7 292 y7_laysValue ∈ zGood := zin7 (List.mem_of_getElem? (i := 114) rfl) (by decide +kernel)
theorem q_1556 : Cond.instanceMethod y7_laysValue ∈ zGood := zin7 (List.mem_of_getElem? (i := 116) rfl) (by decide +kernel)
theorem qs_7_laysValue : Cond.selects RX7 y7_laysValue y7_laysValue ∈ zGood := zinS (q := (y7_laysValue, 36)) (List.mem_of_getElem? (i := 75) rfl) (by decide +kernel)
theorem q_1557 : Cond.code y7_laysValue b7_laysValue 4 (none) ∈ zGood := zin7 (List.mem_of_getElem? (i := 117) rfl) (by decide +kernel)
theorem q_1550 : Cond.methodLink RX7 301 y7_writesValue ∈ zGood := zin7 (List.mem_of_getElem? (i := 110) rfl) (by decide +kernel)
theorem q_1552 : Cond.instanceMethod y7_writesValue ∈ zGood := zin7 (List.mem_of_getElem? (i := 112) rfl) (by decide +kernel)
theorem qs_7_writesValue : Cond.selects RX7 y7_writesValue y7_writesValue ∈ zGood := zinS (q := (y7_writesValue, 36)) (List.mem_of_getElem? (i := 74) rfl) (by decide +kernel)
theorem q_1553 : Cond.code y7_writesValue b7_writesValue 4 (none) ∈ zGood := zin7 (List.mem_of_getElem? (i := 113) rfl) (by decide +kernel)
theorem q_1562 : Cond.methodLink RX7 304 y7_changes ∈ zGood := zin7 (List.mem_of_getElem? (i := 122) rfl) (by decide +kernel)
theorem q_1564 : Cond.instanceMethod y7_changes ∈ zGood := zin7 (List.mem_of_getElem? (i := 124) rfl) (by decide +kernel)
theorem qs_7_changes : Cond.selects RX7 y7_changes y7_changes ∈ zGood := zinS (q := (y7_changes, 36)) (List.mem_of_getElem? (i := 77) rfl) (by decide +kernel)
theorem q_1565 : Cond.code y7_changes b7_changes 6 (none) ∈ zGood := zin7 (List.mem_of_getElem? (i := 125) rfl) (by decide +kernel)
theorem q_1530 : Cond.methodLink RX7 307 y7_firstShown ∈ zGood := zin7 (List.mem_of_getElem? (i := 90) rfl) (by decide +kernel)
theorem q_1532 : Cond.instanceMethod y7_firstShown ∈ zGood := zin7 (List.mem_of_getElem? (i := 92) rfl) (by decide +kernel)
theorem qs_7_firstShown : Cond.selects RX7 y7_firstShown y7_firstShown ∈ zGood := zinS (q := (y7_firstShown, 36)) (List.mem_of_getElem? (i := 70) rfl) (by decide +kernel)
theorem q_1533 : Cond.code y7_firstShown b7_firstShown 3 (some .int) ∈ zGood := zin7 (List.mem_of_getElem? (i := 93) rfl) (by decide +kernel)
theorem q_1230 : Cond.fieldLink RX7 310 (TX7 33).1 (TX7 33).2.1 (TX7 33).2.2.1 ∈ zGood := zin6 (List.mem_of_getElem? (i := 30) rfl) (by decide +kernel)
theorem q_1229 : Cond.fieldLink RX7 70 (TX7 32).1 (TX7 32).2.1 (TX7 32).2.2.1 ∈ zGood := zin6 (List.mem_of_getElem? (i := 29) rfl) (by decide +kernel)
theorem q_1526 : Cond.methodLink RX7 313 y7_keyOf ∈ zGood := zin7 (List.mem_of_getElem? (i := 86) rfl) (by decide +kernel)
theorem q_1528 : Cond.instanceMethod y7_keyOf ∈ zGood := zin7 (List.mem_of_getElem? (i := 88) rfl) (by decide +kernel)
theorem qs_7_keyOf : Cond.selects RX7 y7_keyOf y7_keyOf ∈ zGood := zinS (q := (y7_keyOf, 36)) (List.mem_of_getElem? (i := 69) rfl) (by decide +kernel)
theorem q_1529 : Cond.code y7_keyOf b7_keyOf 2 (some .int) ∈ zGood := zin7 (List.mem_of_getElem? (i := 89) rfl) (by decide +kernel)
theorem q_1443 : Cond.methodLink RX7 316 Lib.Math.max.name ∈ zGood := zin7 (List.mem_of_getElem? (i := 3) rfl) (by decide +kernel)
theorem q_1431 : Cond.methodLink RX7 321 y7_noSnippet ∈ zGood := zin6 (List.mem_of_getElem? (i := 231) rfl) (by decide +kernel)
theorem q_1433 : Cond.instanceMethod y7_noSnippet ∈ zGood := zin6 (List.mem_of_getElem? (i := 233) rfl) (by decide +kernel)
theorem qs_7_noSnippet : Cond.selects RX7 y7_noSnippet y7_noSnippet ∈ zGood := zinS (q := (y7_noSnippet, 36)) (List.mem_of_getElem? (i := 54) rfl) (by decide +kernel)
theorem q_1434 : Cond.code y7_noSnippet b7_noSnippet 2 (some .boolean) ∈ zGood := zin6 (List.mem_of_getElem? (i := 234) rfl) (by decide +kernel)
theorem q_1435 : Cond.methodLink RX7 324 y7_fieldsOf ∈ zGood := zin6 (List.mem_of_getElem? (i := 235) rfl) (by decide +kernel)
theorem q_1437 : Cond.instanceMethod y7_fieldsOf ∈ zGood := zin6 (List.mem_of_getElem? (i := 237) rfl) (by decide +kernel)
theorem qs_7_fieldsOf : Cond.selects RX7 y7_fieldsOf y7_fieldsOf ∈ zGood := zinS (q := (y7_fieldsOf, 36)) (List.mem_of_getElem? (i := 55) rfl) (by decide +kernel)
theorem q_1438 : Cond.code y7_fieldsOf b7_fieldsOf 4 (some .int) ∈ zGood := zin6 (List.mem_of_getElem? (i := 238) rfl) (by decide +kernel)
theorem q_1439 : Cond.methodLink RX7 327 y7_deepest ∈ zGood := zin6 (List.mem_of_getElem? (i := 239) rfl) (by decide +kernel)
theorem q_1441 : Cond.instanceMethod y7_deepest ∈ zGood := zin7 (List.mem_of_getElem? (i := 1) rfl) (by decide +kernel)
theorem qs_7_deepest : Cond.selects RX7 y7_deepest y7_deepest ∈ zGood := zinS (q := (y7_deepest, 36)) (List.mem_of_getElem? (i := 56) rfl) (by decide +kernel)
theorem q_1442 : Cond.code y7_deepest b7_deepest 4 (some .int) ∈ zGood := zin7 (List.mem_of_getElem? (i := 2) rfl) (by decide +kernel)
theorem q_1444 : Cond.methodLink RX7 330 y7_defaults ∈ zGood := zin7 (List.mem_of_getElem? (i := 4) rfl) (by decide +kernel)
theorem q_1446 : Cond.instanceMethod y7_defaults ∈ zGood := zin7 (List.mem_of_getElem? (i := 6) rfl) (by decide +kernel)
theorem qs_7_defaults : Cond.selects RX7 y7_defaults y7_defaults ∈ zGood := zinS (q := (y7_defaults, 36)) (List.mem_of_getElem? (i := 57) rfl) (by decide +kernel)
theorem q_1447 : Cond.code y7_defaults b7_defaults 4 (some .int) ∈ zGood := zin7 (List.mem_of_getElem? (i := 7) rfl) (by decide +kernel)
theorem q_1456 : Cond.methodLink RX7 333 y7_isField ∈ zGood := zin7 (List.mem_of_getElem? (i := 16) rfl) (by decide +kernel)
theorem q_1457 : Cond.static y7_isField ∈ zGood := zin7 (List.mem_of_getElem? (i := 17) rfl) (by decide +kernel)
theorem q_1458 : Cond.code y7_isField b7_isField 1 (some .boolean) ∈ zGood := zin7 (List.mem_of_getElem? (i := 18) rfl) (by decide +kernel)
theorem q_1467 : Cond.methodLink RX7 336 y7_lays ∈ zGood := zin7 (List.mem_of_getElem? (i := 27) rfl) (by decide +kernel)
theorem q_1469 : Cond.instanceMethod y7_lays ∈ zGood := zin7 (List.mem_of_getElem? (i := 29) rfl) (by decide +kernel)
theorem qs_7_lays : Cond.selects RX7 y7_lays y7_lays ∈ zGood := zinS (q := (y7_lays, 36)) (List.mem_of_getElem? (i := 58) rfl) (by decide +kernel)
theorem q_1470 : Cond.code y7_lays b7_lays 2 (none) ∈ zGood := zin7 (List.mem_of_getElem? (i := 30) rfl) (by decide +kernel)
theorem q_1487 : Cond.methodLink RX7 339 y7_textLength ∈ zGood := zin7 (List.mem_of_getElem? (i := 47) rfl) (by decide +kernel)
theorem q_1489 : Cond.instanceMethod y7_textLength ∈ zGood := zin7 (List.mem_of_getElem? (i := 49) rfl) (by decide +kernel)
theorem qs_7_textLength : Cond.selects RX7 y7_textLength y7_textLength ∈ zGood := zinS (q := (y7_textLength, 36)) (List.mem_of_getElem? (i := 63) rfl) (by decide +kernel)
theorem q_1490 : Cond.code y7_textLength b7_textLength 1 (some .int) ∈ zGood := zin7 (List.mem_of_getElem? (i := 50) rfl) (by decide +kernel)
theorem q_1203 : Cond.fieldLink RX7 26 (TX7 6).1 (TX7 6).2.1 (TX7 6).2.2.1 ∈ zGood := zin6 (List.mem_of_getElem? (i := 3) rfl) (by decide +kernel)
theorem q_1518 : Cond.methodLink RX7 342 y7_noSession ∈ zGood := zin7 (List.mem_of_getElem? (i := 78) rfl) (by decide +kernel)
theorem q_1520 : Cond.instanceMethod y7_noSession ∈ zGood := zin7 (List.mem_of_getElem? (i := 80) rfl) (by decide +kernel)
theorem qs_7_noSession : Cond.selects RX7 y7_noSession y7_noSession ∈ zGood := zinS (q := (y7_noSession, 36)) (List.mem_of_getElem? (i := 67) rfl) (by decide +kernel)
theorem q_1521 : Cond.code y7_noSession b7_noSession 2 (some .boolean) ∈ zGood := zin7 (List.mem_of_getElem? (i := 81) rfl) (by decide +kernel)
theorem q_1522 : Cond.methodLink RX7 345 y7_laysLeaving ∈ zGood := zin7 (List.mem_of_getElem? (i := 82) rfl) (by decide +kernel)
theorem q_1524 : Cond.instanceMethod y7_laysLeaving ∈ zGood := zin7 (List.mem_of_getElem? (i := 84) rfl) (by decide +kernel)
theorem qs_7_laysLeaving : Cond.selects RX7 y7_laysLeaving y7_laysLeaving ∈ zGood := zinS (q := (y7_laysLeaving, 36)) (List.mem_of_getElem? (i := 68) rfl) (by decide +kernel)
theorem q_1525 : Cond.code y7_laysLeaving b7_laysLeaving 3 (none) ∈ zGood := zin7 (List.mem_of_getElem? (i := 85) rfl) (by decide +kernel)
theorem q_1534 : Cond.methodLink RX7 348 y7_shownOf ∈ zGood := zin7 (List.mem_of_getElem? (i := 94) rfl) (by decide +kernel)
theorem q_1536 : Cond.instanceMethod y7_shownOf ∈ zGood := zin7 (List.mem_of_getElem? (i := 96) rfl) (by decide +kernel)
theorem qs_7_shownOf : Cond.selects RX7 y7_shownOf y7_shownOf ∈ zGood := zinS (q := (y7_shownOf, 36)) (List.mem_of_getElem? (i := 71) rfl) (by decide +kernel)
theorem q_1537 : Cond.code y7_shownOf b7_shownOf 4 (some .int) ∈ zGood := zin7 (List.mem_of_getElem? (i := 97) rfl) (by decide +kernel)
theorem q_1538 : Cond.methodLink RX7 351 y7_placeOf ∈ zGood := zin7 (List.mem_of_getElem? (i := 98) rfl) (by decide +kernel)
theorem q_1540 : Cond.instanceMethod y7_placeOf ∈ zGood := zin7 (List.mem_of_getElem? (i := 100) rfl) (by decide +kernel)
theorem qs_7_placeOf : Cond.selects RX7 y7_placeOf y7_placeOf ∈ zGood := zinS (q := (y7_placeOf, 36)) (List.mem_of_getElem? (i := 72) rfl) (by decide +kernel)
theorem q_1541 : Cond.code y7_placeOf b7_placeOf 3 (some .int) ∈ zGood := zin7 (List.mem_of_getElem? (i := 101) rfl) (by decide +kernel)
theorem q_1542 : Cond.methodLink RX7 354 y7_allOf ∈ zGood := zin7 (List.mem_of_getElem? (i := 102) rfl) (by decide +kernel)
theorem q_1544 : Cond.instanceMethod y7_allOf ∈ zGood := zin7 (List.mem_of_getElem? (i := 104) rfl) (by decide +kernel)
theorem qs_7_allOf : Cond.selects RX7 y7_allOf y7_allOf ∈ zGood := zinS (q := (y7_allOf, 36)) (List.mem_of_getElem? (i := 73) rfl) (by decide +kernel)
theorem q_1545 : Cond.code y7_allOf b7_allOf 4 (some .int) ∈ zGood := zin7 (List.mem_of_getElem? (i := 105) rfl) (by decide +kernel)
theorem q_1231 : Cond.fieldLink RX7 73 (TX7 34).1 (TX7 34).2.1 (TX7 34).2.2.1 ∈ zGood := zin6 (List.mem_of_getElem? (i := 31) rfl) (by decide +kernel)
theorem q_1581 : Cond.methodLink RX7 357 y7_laysBegins ∈ zGood := zin7 (List.mem_of_getElem? (i := 141) rfl) (by decide +kernel)
theorem q_1583 : Cond.instanceMethod y7_laysBegins ∈ zGood := zin7 (List.mem_of_getElem? (i := 143) rfl) (by decide +kernel)
theorem qs_7_laysBegins : Cond.selects RX7 y7_laysBegins y7_laysBegins ∈ zGood := zinS (q := (y7_laysBegins, 36)) (List.mem_of_getElem? (i := 80) rfl) (by decide +kernel)
theorem q_1584 : Cond.code y7_laysBegins b7_laysBegins 9 (some .int) ∈ zGood := zin7 (List.mem_of_getElem? (i := 144) rfl) (by decide +kernel)
theorem q_1577 : Cond.methodLink RX7 361 y7_beginOf ∈ zGood := zin7 (List.mem_of_getElem? (i := 137) rfl) (by decide +kernel)
theorem q_1579 : Cond.instanceMethod y7_beginOf ∈ zGood := zin7 (List.mem_of_getElem? (i := 139) rfl) (by decide +kernel)
theorem qs_7_beginOf : Cond.selects RX7 y7_beginOf y7_beginOf ∈ zGood := zinS (q := (y7_beginOf, 36)) (List.mem_of_getElem? (i := 79) rfl) (by decide +kernel)
theorem q_1580 : Cond.code y7_beginOf b7_beginOf 3 (some .int) ∈ zGood := zin7 (List.mem_of_getElem? (i := 140) rfl) (by decide +kernel)
theorem q_1589 : Cond.methodLink RX7 364 y7_writesText ∈ zGood := zin7 (List.mem_of_getElem? (i := 149) rfl) (by decide +kernel)
theorem q_1591 : Cond.instanceMethod y7_writesText ∈ zGood := zin7 (List.mem_of_getElem? (i := 151) rfl) (by decide +kernel)
theorem qs_7_writesText : Cond.selects RX7 y7_writesText y7_writesText ∈ zGood := zinS (q := (y7_writesText, 36)) (List.mem_of_getElem? (i := 81) rfl) (by decide +kernel)
theorem q_1592 : Cond.code y7_writesText b7_writesText 1 (none) ∈ zGood := zin7 (List.mem_of_getElem? (i := 152) rfl) (by decide +kernel)
theorem q_1605 : Cond.methodLink RX7 367 Lib.Math.min.name ∈ zGood := zin7 (List.mem_of_getElem? (i := 165) rfl) (by decide +kernel)
theorem q_1601 : Cond.methodLink RX7 370 y7_whyOf ∈ zGood := zin7 (List.mem_of_getElem? (i := 161) rfl) (by decide +kernel)
theorem q_1603 : Cond.instanceMethod y7_whyOf ∈ zGood := zin7 (List.mem_of_getElem? (i := 163) rfl) (by decide +kernel)
theorem qs_7_whyOf : Cond.selects RX7 y7_whyOf y7_whyOf ∈ zGood := zinS (q := (y7_whyOf, 36)) (List.mem_of_getElem? (i := 82) rfl) (by decide +kernel)
theorem q_1604 : Cond.code y7_whyOf b7_whyOf 5 (some .int) ∈ zGood := zin7 (List.mem_of_getElem? (i := 164) rfl) (by decide +kernel)
theorem q_1622 : Cond.methodLink RX7 373 y7_bits ∈ zGood := zin7 (List.mem_of_getElem? (i := 182) rfl) (by decide +kernel)
theorem q_1623 : Cond.static y7_bits ∈ zGood := zin7 (List.mem_of_getElem? (i := 183) rfl) (by decide +kernel)
theorem q_1624 : Cond.code y7_bits b7_bits 3 (some .int) ∈ zGood := zin7 (List.mem_of_getElem? (i := 184) rfl) (by decide +kernel)
theorem q_1199 : Cond.fieldLink RX7 13 (TX7 2).1 (TX7 2).2.1 (TX7 2).2.2.1 ∈ zGood := zin5 (List.mem_of_getElem? (i := 239) rfl) (by decide +kernel)
theorem q_1633 : Cond.methodLink RX7 376 y7_copies ∈ zGood := zin7 (List.mem_of_getElem? (i := 193) rfl) (by decide +kernel)
theorem q_1634 : Cond.static y7_copies ∈ zGood := zin7 (List.mem_of_getElem? (i := 194) rfl) (by decide +kernel)
theorem q_1635 : Cond.code y7_copies b7_copies 5 (none) ∈ zGood := zin7 (List.mem_of_getElem? (i := 195) rfl) (by decide +kernel)
theorem q_1636 : Cond.methodLink RX7 380 y7_back ∈ zGood := zin7 (List.mem_of_getElem? (i := 196) rfl) (by decide +kernel)
theorem q_1638 : Cond.instanceMethod y7_back ∈ zGood := zin7 (List.mem_of_getElem? (i := 198) rfl) (by decide +kernel)
theorem qs_7_back : Cond.selects RX7 y7_back y7_back ∈ zGood := zinS (q := (y7_back, 36)) (List.mem_of_getElem? (i := 83) rfl) (by decide +kernel)
theorem q_1639 : Cond.code y7_back b7_back 2 (some .int) ∈ zGood := zin7 (List.mem_of_getElem? (i := 199) rfl) (by decide +kernel)
theorem q_1648 : Cond.methodLink RX7 383 y7_laysBare ∈ zGood := zin7 (List.mem_of_getElem? (i := 208) rfl) (by decide +kernel)
theorem q_1650 : Cond.instanceMethod y7_laysBare ∈ zGood := zin7 (List.mem_of_getElem? (i := 210) rfl) (by decide +kernel)
theorem qs_7_laysBare : Cond.selects RX7 y7_laysBare y7_laysBare ∈ zGood := zinS (q := (y7_laysBare, 36)) (List.mem_of_getElem? (i := 84) rfl) (by decide +kernel)
theorem q_1651 : Cond.code y7_laysBare b7_laysBare 2 (none) ∈ zGood := zin7 (List.mem_of_getElem? (i := 211) rfl) (by decide +kernel)
theorem q_1200 : Cond.fieldLink RX7 16 (TX7 3).1 (TX7 3).2.1 (TX7 3).2.2.1 ∈ zGood := zin6 (List.mem_of_getElem? (i := 0) rfl) (by decide +kernel)
theorem q_1672 : Cond.methodLink RX7 386 y7_types ∈ zGood := zin7 (List.mem_of_getElem? (i := 232) rfl) (by decide +kernel)
theorem q_1674 : Cond.instanceMethod y7_types ∈ zGood := zin7 (List.mem_of_getElem? (i := 234) rfl) (by decide +kernel)
theorem qs_7_types : Cond.selects RX7 y7_types y7_types ∈ zGood := zinS (q := (y7_types, 36)) (List.mem_of_getElem? (i := 89) rfl) (by decide +kernel)
theorem q_1675 : Cond.code y7_types b7_types 8 (some .boolean) ∈ zGood := zin7 (List.mem_of_getElem? (i := 235) rfl) (by decide +kernel)
theorem q_1664 : Cond.methodLink RX7 390 y7_isTooLong ∈ zGood := zin7 (List.mem_of_getElem? (i := 224) rfl) (by decide +kernel)
theorem q_1666 : Cond.instanceMethod y7_isTooLong ∈ zGood := zin7 (List.mem_of_getElem? (i := 226) rfl) (by decide +kernel)
theorem qs_7_isTooLong : Cond.selects RX7 y7_isTooLong y7_isTooLong ∈ zGood := zinS (q := (y7_isTooLong, 36)) (List.mem_of_getElem? (i := 87) rfl) (by decide +kernel)
theorem q_1667 : Cond.code y7_isTooLong b7_isTooLong 2 (some .boolean) ∈ zGood := zin7 (List.mem_of_getElem? (i := 227) rfl) (by decide +kernel)
theorem q_1680 : Cond.methodLink RX7 396 y7_done ∈ zGood := zin8 (List.mem_of_getElem? (i := 0) rfl) (by decide +kernel)
theorem q_1682 : Cond.instanceMethod y7_done ∈ zGood := zin8 (List.mem_of_getElem? (i := 2) rfl) (by decide +kernel)
theorem qs_7_done : Cond.selects RX7 y7_done y7_done ∈ zGood := zinS (q := (y7_done, 36)) (List.mem_of_getElem? (i := 91) rfl) (by decide +kernel)
theorem q_1683 : Cond.code y7_done b7_done 3 (some .int) ∈ zGood := zin8 (List.mem_of_getElem? (i := 3) rfl) (by decide +kernel)
theorem q_1660 : Cond.methodLink RX7 393 y7_refused ∈ zGood := zin7 (List.mem_of_getElem? (i := 220) rfl) (by decide +kernel)
theorem q_1662 : Cond.instanceMethod y7_refused ∈ zGood := zin7 (List.mem_of_getElem? (i := 222) rfl) (by decide +kernel)
theorem qs_7_refused : Cond.selects RX7 y7_refused y7_refused ∈ zGood := zinS (q := (y7_refused, 36)) (List.mem_of_getElem? (i := 86) rfl) (by decide +kernel)
theorem q_1663 : Cond.code y7_refused b7_refused 2 (some .int) ∈ zGood := zin7 (List.mem_of_getElem? (i := 223) rfl) (by decide +kernel)
theorem q_1656 : Cond.methodLink RX7 399 y7_begins ∈ zGood := zin7 (List.mem_of_getElem? (i := 216) rfl) (by decide +kernel)
theorem q_1658 : Cond.instanceMethod y7_begins ∈ zGood := zin7 (List.mem_of_getElem? (i := 218) rfl) (by decide +kernel)
theorem qs_7_begins : Cond.selects RX7 y7_begins y7_begins ∈ zGood := zinS (q := (y7_begins, 36)) (List.mem_of_getElem? (i := 85) rfl) (by decide +kernel)
theorem q_1659 : Cond.code y7_begins b7_begins 1 (none) ∈ zGood := zin7 (List.mem_of_getElem? (i := 219) rfl) (by decide +kernel)
theorem q_1668 : Cond.methodLink RX7 402 y7_ends ∈ zGood := zin7 (List.mem_of_getElem? (i := 228) rfl) (by decide +kernel)
theorem q_1670 : Cond.instanceMethod y7_ends ∈ zGood := zin7 (List.mem_of_getElem? (i := 230) rfl) (by decide +kernel)
theorem qs_7_ends : Cond.selects RX7 y7_ends y7_ends ∈ zGood := zinS (q := (y7_ends, 36)) (List.mem_of_getElem? (i := 88) rfl) (by decide +kernel)
theorem q_1671 : Cond.code y7_ends b7_ends 3 (some .int) ∈ zGood := zin7 (List.mem_of_getElem? (i := 231) rfl) (by decide +kernel)
theorem q_1676 : Cond.methodLink RX7 405 y7_tells ∈ zGood := zin7 (List.mem_of_getElem? (i := 236) rfl) (by decide +kernel)
theorem q_1678 : Cond.instanceMethod y7_tells ∈ zGood := zin7 (List.mem_of_getElem? (i := 238) rfl) (by decide +kernel)
theorem qs_7_tells : Cond.selects RX7 y7_tells y7_tells ∈ zGood := zinS (q := (y7_tells, 36)) (List.mem_of_getElem? (i := 90) rfl) (by decide +kernel)
theorem q_1679 : Cond.code y7_tells b7_tells 3 (some .int) ∈ zGood := zin7 (List.mem_of_getElem? (i := 239) rfl) (by decide +kernel)
theorem q_1232 : Cond.fieldLink RX7 76 (TX7 35).1 (TX7 35).2.1 (TX7 35).2.2.1 ∈ zGood := zin6 (List.mem_of_getElem? (i := 32) rfl) (by decide +kernel)
theorem q_1700 : Cond.methodLink RX7 408 y7_currentNow ∈ zGood := zin8 (List.mem_of_getElem? (i := 20) rfl) (by decide +kernel)
theorem q_1702 : Cond.instanceMethod y7_currentNow ∈ zGood := zin8 (List.mem_of_getElem? (i := 22) rfl) (by decide +kernel)
theorem qs_7_currentNow : Cond.selects RX7 y7_currentNow y7_currentNow ∈ zGood := zinS (q := (y7_currentNow, 36)) (List.mem_of_getElem? (i := 92) rfl) (by decide +kernel)
theorem q_1703 : Cond.code y7_currentNow b7_currentNow 1 (some .int) ∈ zGood := zin8 (List.mem_of_getElem? (i := 23) rfl) (by decide +kernel)
theorem q_1732 : Cond.methodLink RX7 411 y7_noSlot ∈ zGood := zin8 (List.mem_of_getElem? (i := 52) rfl) (by decide +kernel)
theorem q_1734 : Cond.instanceMethod y7_noSlot ∈ zGood := zin8 (List.mem_of_getElem? (i := 54) rfl) (by decide +kernel)
theorem qs_7_noSlot : Cond.selects RX7 y7_noSlot y7_noSlot ∈ zGood := zinS (q := (y7_noSlot, 36)) (List.mem_of_getElem? (i := 93) rfl) (by decide +kernel)
theorem q_1735 : Cond.code y7_noSlot b7_noSlot 2 (some .boolean) ∈ zGood := zin8 (List.mem_of_getElem? (i := 55) rfl) (by decide +kernel)
theorem q_1201 : Cond.fieldLink RX7 19 (TX7 4).1 (TX7 4).2.1 (TX7 4).2.2.1 ∈ zGood := zin6 (List.mem_of_getElem? (i := 1) rfl) (by decide +kernel)
theorem q_9 : Cond.initialized Bundle.tN ∈ zGood := zin1 (List.mem_of_getElem? (i := 9) rfl) (by decide +kernel)
theorem q_732 : Cond.superclass Bundle.tN "java/lang/Object" ∈ zGood := zin4 (List.mem_of_getElem? (i := 12) rfl) (by decide +kernel)
theorem q_741 : Cond.instanceMethod Bundle.tFill ∈ zGood := zin4 (List.mem_of_getElem? (i := 21) rfl) (by decide +kernel)
theorem q_746 : Cond.codeSync Bundle.tFill LibCode.Throwable.Fill.code 1 (some (.object Bundle.tN)) ∈ zGood := zin4 (List.mem_of_getElem? (i := 26) rfl) (by decide +kernel)
theorem q_749 : Cond.instanceMethod Bundle.tFill0 ∈ zGood := zin4 (List.mem_of_getElem? (i := 29) rfl) (by decide +kernel)
theorem q_751 : Cond.native Bundle.tFill0 ∈ zGood := zin4 (List.mem_of_getElem? (i := 31) rfl) (by decide +kernel)
theorem q_733 : Cond.instanceMethod Bundle.tInit0 ∈ zGood := zin4 (List.mem_of_getElem? (i := 13) rfl) (by decide +kernel)
theorem q_734 : Cond.code Bundle.tInit0 LibCode.Throwable.Init0.code 1 none ∈ zGood := zin4 (List.mem_of_getElem? (i := 14) rfl) (by decide +kernel)
theorem q_29 : Cond.instanceMethod Bundle.oInit ∈ zGood := zin1 (List.mem_of_getElem? (i := 29) rfl) (by decide +kernel)
theorem q_30 : Cond.code Bundle.oInit ⟨#[0xb1]⟩ 1 none ∈ zGood := zin1 (List.mem_of_getElem? (i := 30) rfl) (by decide +kernel)
theorem q_735 : Cond.methodLink Bundle.tN 1 Bundle.oInit ∈ zGood := zin4 (List.mem_of_getElem? (i := 15) rfl) (by decide +kernel)
theorem q_740 : Cond.methodLink Bundle.tN 27 Bundle.tFill ∈ zGood := zin4 (List.mem_of_getElem? (i := 20) rfl) (by decide +kernel)
theorem q_747 : Cond.methodLink Bundle.tN 202 Bundle.tFill0 ∈ zGood := zin4 (List.mem_of_getElem? (i := 27) rfl) (by decide +kernel)
theorem q_767 : Cond.fieldLink Bundle.tN 7 Bundle.tN "cause" "Ljava/lang/Throwable;" ∈ zGood := zin4 (List.mem_of_getElem? (i := 47) rfl) (by decide +kernel)
theorem q_722 : Cond.lays Bundle.tN Bundle.tN "cause" "Ljava/lang/Throwable;" ∈ zGood := zin4 (List.mem_of_getElem? (i := 2) rfl) (by decide +kernel)
theorem q_768 : Cond.fieldLink Bundle.tN 17 Bundle.tN "stackTrace" Bundle.steD ∈ zGood := zin4 (List.mem_of_getElem? (i := 48) rfl) (by decide +kernel)
theorem q_724 : Cond.lays Bundle.tN Bundle.tN "stackTrace" Bundle.steD ∈ zGood := zin4 (List.mem_of_getElem? (i := 4) rfl) (by decide +kernel)
theorem q_769 : Cond.fieldLink Bundle.tN 24 Bundle.tN "suppressedExceptions" Bundle.listD ∈ zGood := zin4 (List.mem_of_getElem? (i := 49) rfl) (by decide +kernel)
theorem q_726 : Cond.lays Bundle.tN Bundle.tN "suppressedExceptions" Bundle.listD ∈ zGood := zin4 (List.mem_of_getElem? (i := 6) rfl) (by decide +kernel)
theorem q_736 : Cond.fieldLink Bundle.tN 13 Bundle.tN "UNASSIGNED_STACK" Bundle.steD ∈ zGood := zin4 (List.mem_of_getElem? (i := 16) rfl) (by decide +kernel)
theorem q_738 : Cond.fieldLink Bundle.tN 20 Bundle.tN "SUPPRESSED_SENTINEL" Bundle.listD ∈ zGood := zin4 (List.mem_of_getElem? (i := 18) rfl) (by decide +kernel)
theorem q_728 : Cond.lays Bundle.tN Bundle.tN "detailMessage" "Ljava/lang/String;" ∈ zGood := zin4 (List.mem_of_getElem? (i := 8) rfl) (by decide +kernel)
theorem q_763 : Cond.instanceMethod (Bundle.initS Bundle.tN) ∈ zGood := zin4 (List.mem_of_getElem? (i := 43) rfl) (by decide +kernel)
theorem q_764 : Cond.code (Bundle.initS Bundle.tN) LibCode.Throwable.InitS.code 2 none ∈ zGood := zin4 (List.mem_of_getElem? (i := 44) rfl) (by decide +kernel)
theorem q_766 : Cond.fieldLink Bundle.tN 31 Bundle.tN "detailMessage" "Ljava/lang/String;" ∈ zGood := zin4 (List.mem_of_getElem? (i := 46) rfl) (by decide +kernel)
theorem q_754 : Cond.instanceMethod (Bundle.initS "java/lang/IllegalStateException") ∈ zGood := zin4 (List.mem_of_getElem? (i := 34) rfl) (by decide +kernel)
theorem q_755 : Cond.code (Bundle.initS "java/lang/IllegalStateException") Bundle.six 2 none ∈ zGood := zin4 (List.mem_of_getElem? (i := 35) rfl) (by decide +kernel)
theorem q_756 : Cond.methodLink "java/lang/IllegalStateException" 7 (Bundle.initS "java/lang/RuntimeException") ∈ zGood := zin4 (List.mem_of_getElem? (i := 36) rfl) (by decide +kernel)
theorem q_757 : Cond.instanceMethod (Bundle.initS "java/lang/RuntimeException") ∈ zGood := zin4 (List.mem_of_getElem? (i := 37) rfl) (by decide +kernel)
theorem qn_714 : Cond.declares (Bundle.initS "java/lang/RuntimeException") ∈ zNw := List.mem_of_getElem? (i := 3) rfl
theorem q_758 : Cond.code (Bundle.initS "java/lang/RuntimeException") Bundle.six 2 none ∈ zGood := zin4 (List.mem_of_getElem? (i := 38) rfl) (by decide +kernel)
theorem q_759 : Cond.methodLink "java/lang/RuntimeException" 7 (Bundle.initS "java/lang/Exception") ∈ zGood := zin4 (List.mem_of_getElem? (i := 39) rfl) (by decide +kernel)
theorem q_760 : Cond.instanceMethod (Bundle.initS "java/lang/Exception") ∈ zGood := zin4 (List.mem_of_getElem? (i := 40) rfl) (by decide +kernel)
theorem qn_716 : Cond.declares (Bundle.initS "java/lang/Exception") ∈ zNw := List.mem_of_getElem? (i := 5) rfl
theorem q_761 : Cond.code (Bundle.initS "java/lang/Exception") Bundle.six 2 none ∈ zGood := zin4 (List.mem_of_getElem? (i := 41) rfl) (by decide +kernel)
theorem q_762 : Cond.methodLink "java/lang/Exception" 7 (Bundle.initS Bundle.tN) ∈ zGood := zin4 (List.mem_of_getElem? (i := 42) rfl) (by decide +kernel)
theorem qn_718 : Cond.declares (Bundle.initS Bundle.tN) ∈ zNw := List.mem_of_getElem? (i := 7) rfl
theorem q_753 : Cond.methodLink RX5 70 (Bundle.initS "java/lang/IllegalStateException") ∈ zGood := zin4 (List.mem_of_getElem? (i := 33) rfl) (by decide +kernel)
theorem q_711 : Cond.instantiable "java/lang/IllegalStateException" 6 ∈ zGood := zin3 (List.mem_of_getElem? (i := 231) rfl) (by decide +kernel)
theorem qn_712 : Cond.castable "java/lang/IllegalStateException" "java/lang/IllegalStateException" ∈ zNw := List.mem_of_getElem? (i := 1) rfl
theorem q_719 : Cond.selects "java/lang/IllegalStateException" Bundle.tFill0 Bundle.tFill0 ∈ zGood := zin3 (List.mem_of_getElem? (i := 239) rfl) (by decide +kernel)
theorem q_720 : Cond.selects "java/lang/IllegalStateException" Bundle.tFill Bundle.tFill ∈ zGood := zin4 (List.mem_of_getElem? (i := 0) rfl) (by decide +kernel)
theorem q_721 : Cond.lays "java/lang/IllegalStateException" Bundle.tN "cause" "Ljava/lang/Throwable;" ∈ zGood := zin4 (List.mem_of_getElem? (i := 1) rfl) (by decide +kernel)
theorem q_723 : Cond.lays "java/lang/IllegalStateException" Bundle.tN "stackTrace" Bundle.steD ∈ zGood := zin4 (List.mem_of_getElem? (i := 3) rfl) (by decide +kernel)
theorem q_725 : Cond.lays "java/lang/IllegalStateException" Bundle.tN "suppressedExceptions" Bundle.listD ∈ zGood := zin4 (List.mem_of_getElem? (i := 5) rfl) (by decide +kernel)
theorem q_727 : Cond.lays "java/lang/IllegalStateException" Bundle.tN "detailMessage" "Ljava/lang/String;" ∈ zGood := zin4 (List.mem_of_getElem? (i := 7) rfl) (by decide +kernel)
theorem q_731 : Cond.fieldLink Bundle.tN 198 Bundle.tN "backtrace" "Ljava/lang/Object;" ∈ zGood := zin4 (List.mem_of_getElem? (i := 11) rfl) (by decide +kernel)
theorem q_730 : Cond.lays Bundle.tN Bundle.tN "backtrace" "Ljava/lang/Object;" ∈ zGood := zin4 (List.mem_of_getElem? (i := 10) rfl) (by decide +kernel)
theorem q_729 : Cond.lays "java/lang/IllegalStateException" Bundle.tN "backtrace" "Ljava/lang/Object;" ∈ zGood := zin4 (List.mem_of_getElem? (i := 9) rfl) (by decide +kernel)
theorem q_801 : Cond.instanceMethod (Bundle.initS "java/lang/IllegalArgumentException") ∈ zGood := zin4 (List.mem_of_getElem? (i := 81) rfl) (by decide +kernel)
theorem q_802 : Cond.code (Bundle.initS "java/lang/IllegalArgumentException") Bundle.six 2 none ∈ zGood := zin4 (List.mem_of_getElem? (i := 82) rfl) (by decide +kernel)
theorem q_803 : Cond.methodLink "java/lang/IllegalArgumentException" 7 (Bundle.initS "java/lang/RuntimeException") ∈ zGood := zin4 (List.mem_of_getElem? (i := 83) rfl) (by decide +kernel)
theorem q_800 : Cond.methodLink RX5 123 (Bundle.initS "java/lang/IllegalArgumentException") ∈ zGood := zin4 (List.mem_of_getElem? (i := 80) rfl) (by decide +kernel)
theorem q_791 : Cond.instantiable "java/lang/IllegalArgumentException" 6 ∈ zGood := zin4 (List.mem_of_getElem? (i := 71) rfl) (by decide +kernel)
theorem qn_792 : Cond.castable "java/lang/IllegalArgumentException" "java/lang/IllegalArgumentException" ∈ zNw := List.mem_of_getElem? (i := 8) rfl
theorem q_793 : Cond.selects "java/lang/IllegalArgumentException" Bundle.tFill0 Bundle.tFill0 ∈ zGood := zin4 (List.mem_of_getElem? (i := 73) rfl) (by decide +kernel)
theorem q_743 : Cond.selects "java/lang/IllegalArgumentException" Bundle.tFill Bundle.tFill ∈ zGood := zin4 (List.mem_of_getElem? (i := 23) rfl) (by decide +kernel)
theorem q_794 : Cond.lays "java/lang/IllegalArgumentException" Bundle.tN "cause" "Ljava/lang/Throwable;" ∈ zGood := zin4 (List.mem_of_getElem? (i := 74) rfl) (by decide +kernel)
theorem q_795 : Cond.lays "java/lang/IllegalArgumentException" Bundle.tN "stackTrace" Bundle.steD ∈ zGood := zin4 (List.mem_of_getElem? (i := 75) rfl) (by decide +kernel)
theorem q_796 : Cond.lays "java/lang/IllegalArgumentException" Bundle.tN "suppressedExceptions" Bundle.listD ∈ zGood := zin4 (List.mem_of_getElem? (i := 76) rfl) (by decide +kernel)
theorem q_797 : Cond.lays "java/lang/IllegalArgumentException" Bundle.tN "detailMessage" "Ljava/lang/String;" ∈ zGood := zin4 (List.mem_of_getElem? (i := 77) rfl) (by decide +kernel)
theorem q_798 : Cond.lays "java/lang/IllegalArgumentException" Bundle.tN "backtrace" "Ljava/lang/Object;" ∈ zGood := zin4 (List.mem_of_getElem? (i := 78) rfl) (by decide +kernel)
theorem q_829 : Cond.instanceMethod (Bundle.initS "java/lang/IndexOutOfBoundsException") ∈ zGood := zin4 (List.mem_of_getElem? (i := 109) rfl) (by decide +kernel)
theorem q_830 : Cond.code (Bundle.initS "java/lang/IndexOutOfBoundsException") Bundle.six 2 none ∈ zGood := zin4 (List.mem_of_getElem? (i := 110) rfl) (by decide +kernel)
theorem q_831 : Cond.methodLink "java/lang/IndexOutOfBoundsException" 7 (Bundle.initS "java/lang/RuntimeException") ∈ zGood := zin4 (List.mem_of_getElem? (i := 111) rfl) (by decide +kernel)
theorem q_828 : Cond.methodLink RX5 162 (Bundle.initS "java/lang/IndexOutOfBoundsException") ∈ zGood := zin4 (List.mem_of_getElem? (i := 108) rfl) (by decide +kernel)
theorem q_819 : Cond.instantiable "java/lang/IndexOutOfBoundsException" 6 ∈ zGood := zin4 (List.mem_of_getElem? (i := 99) rfl) (by decide +kernel)
theorem qn_820 : Cond.castable "java/lang/IndexOutOfBoundsException" "java/lang/IndexOutOfBoundsException" ∈ zNw := List.mem_of_getElem? (i := 9) rfl
theorem q_821 : Cond.selects "java/lang/IndexOutOfBoundsException" Bundle.tFill0 Bundle.tFill0 ∈ zGood := zin4 (List.mem_of_getElem? (i := 101) rfl) (by decide +kernel)
theorem q_744 : Cond.selects "java/lang/IndexOutOfBoundsException" Bundle.tFill Bundle.tFill ∈ zGood := zin4 (List.mem_of_getElem? (i := 24) rfl) (by decide +kernel)
theorem q_822 : Cond.lays "java/lang/IndexOutOfBoundsException" Bundle.tN "cause" "Ljava/lang/Throwable;" ∈ zGood := zin4 (List.mem_of_getElem? (i := 102) rfl) (by decide +kernel)
theorem q_823 : Cond.lays "java/lang/IndexOutOfBoundsException" Bundle.tN "stackTrace" Bundle.steD ∈ zGood := zin4 (List.mem_of_getElem? (i := 103) rfl) (by decide +kernel)
theorem q_824 : Cond.lays "java/lang/IndexOutOfBoundsException" Bundle.tN "suppressedExceptions" Bundle.listD ∈ zGood := zin4 (List.mem_of_getElem? (i := 104) rfl) (by decide +kernel)
theorem q_825 : Cond.lays "java/lang/IndexOutOfBoundsException" Bundle.tN "detailMessage" "Ljava/lang/String;" ∈ zGood := zin4 (List.mem_of_getElem? (i := 105) rfl) (by decide +kernel)
theorem q_826 : Cond.lays "java/lang/IndexOutOfBoundsException" Bundle.tN "backtrace" "Ljava/lang/Object;" ∈ zGood := zin4 (List.mem_of_getElem? (i := 106) rfl) (by decide +kernel)
