/-! THE MAKERS: words and places -/
def y3_init : MethodName := ⟨RX3, "<init>", "()V"⟩
abbrev b3_init : ByteArray := prog_5_method_1_code
def y2_init : MethodName := ⟨RX2, "<init>", "([I[I)V"⟩
abbrev b2_init : ByteArray := prog_4_method_1_code
def y6_init : MethodName := ⟨RX6, "<init>", "()V"⟩
abbrev b6_init : ByteArray := prog_9_method_1_code
def y0_init : MethodName := ⟨RX0, "<init>", "()V"⟩
abbrev b0_init : ByteArray := prog_2_method_1_code
def y1_init : MethodName := ⟨RX1, "<init>", "()V"⟩
abbrev b1_init : ByteArray := prog_3_method_1_code
def y4_init : MethodName := ⟨RX4, "<init>", "()V"⟩
abbrev b4_init : ByteArray := prog_6_method_1_code
def y5_init : MethodName := ⟨RX5, "<init>", "()V"⟩
abbrev b5_init : ByteArray := prog_1_method_1_code
def y7_init : MethodName := ⟨RX7, "<init>", "()V"⟩
abbrev b7_init : ByteArray := prog_8_method_1_code
theorem q_182 : Cond.methodLink RX3 3 Lib.objectInit ∈ zGood := zin1 (List.mem_of_getElem? (i := 182) rfl) (by decide +kernel)
theorem q_126 : Cond.arrayClass .int ∈ zGood := zin1 (List.mem_of_getElem? (i := 126) rfl) (by decide +kernel)
theorem q_45 : Cond.methodLink RX2 3 Lib.objectInit ∈ zGood := zin1 (List.mem_of_getElem? (i := 45) rfl) (by decide +kernel)
theorem q_127 : Cond.arrayClass .boolean ∈ zGood := zin1 (List.mem_of_getElem? (i := 127) rfl) (by decide +kernel)
theorem q_1137 : Cond.methodLink RX6 1 Lib.objectInit ∈ zGood := zin5 (List.mem_of_getElem? (i := 177) rfl) (by decide +kernel)
theorem q_1140 : Cond.fieldLink RX6 7 (TX6 2).1 (TX6 2).2.1 (TX6 2).2.2.1 ∈ zGood := zin5 (List.mem_of_getElem? (i := 180) rfl) (by decide +kernel)
theorem q_1142 : Cond.fieldLink RX6 13 (TX6 3).1 (TX6 3).2.1 (TX6 3).2.2.1 ∈ zGood := zin5 (List.mem_of_getElem? (i := 182) rfl) (by decide +kernel)
theorem q_1144 : Cond.fieldLink RX6 16 (TX6 4).1 (TX6 4).2.1 (TX6 4).2.2.1 ∈ zGood := zin5 (List.mem_of_getElem? (i := 184) rfl) (by decide +kernel)
theorem q_1146 : Cond.fieldLink RX6 19 (TX6 5).1 (TX6 5).2.1 (TX6 5).2.2.1 ∈ zGood := zin5 (List.mem_of_getElem? (i := 186) rfl) (by decide +kernel)
theorem q_1148 : Cond.fieldLink RX6 22 (TX6 6).1 (TX6 6).2.1 (TX6 6).2.2.1 ∈ zGood := zin5 (List.mem_of_getElem? (i := 188) rfl) (by decide +kernel)
theorem q_1150 : Cond.fieldLink RX6 25 (TX6 7).1 (TX6 7).2.1 (TX6 7).2.2.1 ∈ zGood := zin5 (List.mem_of_getElem? (i := 190) rfl) (by decide +kernel)
theorem q_1152 : Cond.fieldLink RX6 28 (TX6 8).1 (TX6 8).2.1 (TX6 8).2.2.1 ∈ zGood := zin5 (List.mem_of_getElem? (i := 192) rfl) (by decide +kernel)
theorem q_1154 : Cond.fieldLink RX6 31 (TX6 9).1 (TX6 9).2.1 (TX6 9).2.2.1 ∈ zGood := zin5 (List.mem_of_getElem? (i := 194) rfl) (by decide +kernel)
theorem q_1156 : Cond.fieldLink RX6 35 (TX6 10).1 (TX6 10).2.1 (TX6 10).2.2.1 ∈ zGood := zin5 (List.mem_of_getElem? (i := 196) rfl) (by decide +kernel)
theorem q_1158 : Cond.fieldLink RX6 38 (TX6 11).1 (TX6 11).2.1 (TX6 11).2.2.1 ∈ zGood := zin5 (List.mem_of_getElem? (i := 198) rfl) (by decide +kernel)
theorem q_1160 : Cond.fieldLink RX6 41 (TX6 12).1 (TX6 12).2.1 (TX6 12).2.2.1 ∈ zGood := zin5 (List.mem_of_getElem? (i := 200) rfl) (by decide +kernel)
theorem q_1162 : Cond.fieldLink RX6 44 (TX6 13).1 (TX6 13).2.1 (TX6 13).2.2.1 ∈ zGood := zin5 (List.mem_of_getElem? (i := 202) rfl) (by decide +kernel)
theorem q_1164 : Cond.fieldLink RX6 47 (TX6 14).1 (TX6 14).2.1 (TX6 14).2.2.1 ∈ zGood := zin5 (List.mem_of_getElem? (i := 204) rfl) (by decide +kernel)
theorem q_38 : Cond.methodLink RX0 3 Lib.objectInit ∈ zGood := zin1 (List.mem_of_getElem? (i := 38) rfl) (by decide +kernel)
theorem q_39 : Cond.classLink RX0 9 "SnippetExpander$Snippet" ∈ zGood := zin1 (List.mem_of_getElem? (i := 39) rfl) (by decide +kernel)
theorem q_41 : Cond.instantiable RX2 17 ∈ zGood := zin1 (List.mem_of_getElem? (i := 41) rfl) (by decide +kernel)
theorem q_42 : Cond.methodLink RX0 17 y2_init ∈ zGood := zin1 (List.mem_of_getElem? (i := 42) rfl) (by decide +kernel)
theorem q_43 : Cond.instanceMethod y2_init ∈ zGood := zin1 (List.mem_of_getElem? (i := 43) rfl) (by decide +kernel)
theorem q_44 : Cond.code y2_init b2_init 3 (none) ∈ zGood := zin1 (List.mem_of_getElem? (i := 44) rfl) (by decide +kernel)
theorem q_148 : Cond.methodLink RX1 3 Lib.objectInit ∈ zGood := zin1 (List.mem_of_getElem? (i := 148) rfl) (by decide +kernel)
theorem q_149 : Cond.classLink RX1 15 "SnippetExpander$Library" ∈ zGood := zin1 (List.mem_of_getElem? (i := 149) rfl) (by decide +kernel)
theorem q_34 : Cond.instantiable RX0 3 ∈ zGood := zin1 (List.mem_of_getElem? (i := 34) rfl) (by decide +kernel)
theorem q_150 : Cond.methodLink RX1 17 y0_init ∈ zGood := zin1 (List.mem_of_getElem? (i := 150) rfl) (by decide +kernel)
theorem q_36 : Cond.instanceMethod y0_init ∈ zGood := zin1 (List.mem_of_getElem? (i := 36) rfl) (by decide +kernel)
theorem q_37 : Cond.code y0_init b0_init 4 (none) ∈ zGood := zin1 (List.mem_of_getElem? (i := 37) rfl) (by decide +kernel)
theorem q_225 : Cond.methodLink RX4 3 Lib.objectInit ∈ zGood := zin1 (List.mem_of_getElem? (i := 225) rfl) (by decide +kernel)
theorem q_280 : Cond.arrayClass .long ∈ zGood := zin2 (List.mem_of_getElem? (i := 40) rfl) (by decide +kernel)
theorem q_226 : Cond.classLink RX4 38 "SnippetExpander$Snippet" ∈ zGood := zin1 (List.mem_of_getElem? (i := 226) rfl) (by decide +kernel)
theorem q_227 : Cond.methodLink RX4 40 y2_init ∈ zGood := zin1 (List.mem_of_getElem? (i := 227) rfl) (by decide +kernel)
theorem q_28 : Cond.methodLink RX5 1 Lib.objectInit ∈ zGood := zin1 (List.mem_of_getElem? (i := 28) rfl) (by decide +kernel)
theorem q_31 : Cond.classLink RX5 16 "SnippetExpander$State" ∈ zGood := zin1 (List.mem_of_getElem? (i := 31) rfl) (by decide +kernel)
theorem q_33 : Cond.classLink RX5 29 "SnippetExpander$Library" ∈ zGood := zin1 (List.mem_of_getElem? (i := 33) rfl) (by decide +kernel)
theorem q_35 : Cond.methodLink RX5 31 y0_init ∈ zGood := zin1 (List.mem_of_getElem? (i := 35) rfl) (by decide +kernel)
theorem q_143 : Cond.classLink RX5 36 "SnippetExpander$LibraryReader" ∈ zGood := zin1 (List.mem_of_getElem? (i := 143) rfl) (by decide +kernel)
theorem q_144 : Cond.instantiable RX1 8 ∈ zGood := zin1 (List.mem_of_getElem? (i := 144) rfl) (by decide +kernel)
theorem q_145 : Cond.methodLink RX5 38 y1_init ∈ zGood := zin1 (List.mem_of_getElem? (i := 145) rfl) (by decide +kernel)
theorem q_146 : Cond.instanceMethod y1_init ∈ zGood := zin1 (List.mem_of_getElem? (i := 146) rfl) (by decide +kernel)
theorem q_147 : Cond.code y1_init b1_init 1 (none) ∈ zGood := zin1 (List.mem_of_getElem? (i := 147) rfl) (by decide +kernel)
theorem q_178 : Cond.instantiable RX3 9 ∈ zGood := zin1 (List.mem_of_getElem? (i := 178) rfl) (by decide +kernel)
theorem qn_179 : Cond.methodLinkNest RX5 43 y3_init "SnippetExpander" ∈ zNw := List.mem_of_getElem? (i := 0) rfl
theorem q_180 : Cond.instanceMethod y3_init ∈ zGood := zin1 (List.mem_of_getElem? (i := 180) rfl) (by decide +kernel)
theorem q_181 : Cond.code y3_init b3_init 1 (none) ∈ zGood := zin1 (List.mem_of_getElem? (i := 181) rfl) (by decide +kernel)
theorem q_220 : Cond.classLink RX5 48 "SnippetExpander$View" ∈ zGood := zin1 (List.mem_of_getElem? (i := 220) rfl) (by decide +kernel)
theorem q_221 : Cond.instantiable RX4 13 ∈ zGood := zin1 (List.mem_of_getElem? (i := 221) rfl) (by decide +kernel)
theorem q_222 : Cond.methodLink RX5 50 y4_init ∈ zGood := zin1 (List.mem_of_getElem? (i := 222) rfl) (by decide +kernel)
theorem q_223 : Cond.instanceMethod y4_init ∈ zGood := zin1 (List.mem_of_getElem? (i := 223) rfl) (by decide +kernel)
theorem q_224 : Cond.code y4_init b4_init 1 (none) ∈ zGood := zin1 (List.mem_of_getElem? (i := 224) rfl) (by decide +kernel)
theorem q_1131 : Cond.methodLink RX7 1 Lib.objectInit ∈ zGood := zin5 (List.mem_of_getElem? (i := 171) rfl) (by decide +kernel)
theorem q_1132 : Cond.classLink RX7 29 "SnippetExpanderModel$Library" ∈ zGood := zin5 (List.mem_of_getElem? (i := 172) rfl) (by decide +kernel)
theorem q_1133 : Cond.instantiable RX6 15 ∈ zGood := zin5 (List.mem_of_getElem? (i := 173) rfl) (by decide +kernel)
theorem q_8 : Cond.initialized RX6 ∈ zGood := zin1 (List.mem_of_getElem? (i := 8) rfl) (by decide +kernel)
theorem qn_1134 : Cond.methodLinkNest RX7 31 y6_init "SnippetExpanderModel" ∈ zNw := List.mem_of_getElem? (i := 11) rfl
theorem q_1135 : Cond.instanceMethod y6_init ∈ zGood := zin5 (List.mem_of_getElem? (i := 175) rfl) (by decide +kernel)
theorem q_1136 : Cond.code y6_init b6_init 1 (none) ∈ zGood := zin5 (List.mem_of_getElem? (i := 176) rfl) (by decide +kernel)
theorem zks1600 : (Int16.ofInt 1600).toInt32 = zi 1600 := by decide +kernel
theorem zkb61 : (Int8.ofInt 61).toInt32 = zi 61 := by decide +kernel
theorem zkb64 : (Int8.ofInt 64).toInt32 = zi 64 := by decide +kernel
theorem zks480 : (Int16.ofInt 480).toInt32 = zi 480 := by decide +kernel
theorem zkb80 : (Int8.ofInt 80).toInt32 = zi 80 := by decide +kernel
theorem zks4000 : (Int16.ofInt 4000).toInt32 = zi 4000 := by decide +kernel
theorem zks18048 : (Int16.ofInt 18048).toInt32 = zi 18048 := by decide +kernel
theorem zks4512 : (Int16.ofInt 4512).toInt32 = zi 4512 := by decide +kernel
theorem zks6000 : (Int16.ofInt 6000).toInt32 = zi 6000 := by decide +kernel
theorem zks4100 : (Int16.ofInt 4100).toInt32 = zi 4100 := by decide +kernel
theorem d3_init_0 : decode b3_init 0 = .ok (.aload_n 0, 1) := by decide +kernel
theorem d3_init_1 : decode b3_init 1 = .ok (.invokespecial 3, 3) := by decide +kernel
theorem d3_init_4 : decode b3_init 4 = .ok (.aload_n 0, 1) := by decide +kernel
theorem d3_init_5 : decode b3_init 5 = .ok (.iconst 4, 1) := by decide +kernel
theorem d3_init_6 : decode b3_init 6 = .ok (.newarray .int, 2) := by decide +kernel
theorem d3_init_8 : decode b3_init 8 = .ok (.putfield 9, 3) := by decide +kernel
theorem d3_init_11 : decode b3_init 11 = .ok (.aload_n 0, 1) := by decide +kernel
theorem d3_init_12 : decode b3_init 12 = .ok (.iconst 4, 1) := by decide +kernel
theorem d3_init_13 : decode b3_init 13 = .ok (.newarray .int, 2) := by decide +kernel
theorem d3_init_15 : decode b3_init 15 = .ok (.putfield 15, 3) := by decide +kernel
theorem d3_init_18 : decode b3_init 18 = .ok (.aload_n 0, 1) := by decide +kernel
theorem d3_init_19 : decode b3_init 19 = .ok (.iconst 4, 1) := by decide +kernel
theorem d3_init_20 : decode b3_init 20 = .ok (.newarray .int, 2) := by decide +kernel
theorem d3_init_22 : decode b3_init 22 = .ok (.putfield 18, 3) := by decide +kernel
theorem d3_init_25 : decode b3_init 25 = .ok (.aload_n 0, 1) := by decide +kernel
theorem d3_init_26 : decode b3_init 26 = .ok (.bipush 40, 2) := by decide +kernel
theorem d3_init_28 : decode b3_init 28 = .ok (.newarray .int, 2) := by decide +kernel
theorem d3_init_30 : decode b3_init 30 = .ok (.putfield 21, 3) := by decide +kernel
theorem d3_init_33 : decode b3_init 33 = .ok (.aload_n 0, 1) := by decide +kernel
theorem d3_init_34 : decode b3_init 34 = .ok (.sipush 1600, 3) := by decide +kernel
theorem d3_init_37 : decode b3_init 37 = .ok (.newarray .int, 2) := by decide +kernel
theorem d3_init_39 : decode b3_init 39 = .ok (.putfield 24, 3) := by decide +kernel
theorem d3_init_42 : decode b3_init 42 = .ok (.aload_n 0, 1) := by decide +kernel
theorem d3_init_43 : decode b3_init 43 = .ok (.sipush 600, 3) := by decide +kernel
theorem d3_init_46 : decode b3_init 46 = .ok (.newarray .int, 2) := by decide +kernel
theorem d3_init_48 : decode b3_init 48 = .ok (.putfield 27, 3) := by decide +kernel
theorem d3_init_51 : decode b3_init 51 = .ok (.return_, 1) := by decide +kernel
theorem d2_init_0 : decode b2_init 0 = .ok (.aload_n 0, 1) := by decide +kernel
theorem d2_init_1 : decode b2_init 1 = .ok (.invokespecial 3, 3) := by decide +kernel
theorem d2_init_4 : decode b2_init 4 = .ok (.aload_n 0, 1) := by decide +kernel
theorem d2_init_5 : decode b2_init 5 = .ok (.bipush 8, 2) := by decide +kernel
theorem d2_init_7 : decode b2_init 7 = .ok (.newarray .int, 2) := by decide +kernel
theorem d2_init_9 : decode b2_init 9 = .ok (.putfield 9, 3) := by decide +kernel
theorem d2_init_12 : decode b2_init 12 = .ok (.aload_n 0, 1) := by decide +kernel
theorem d2_init_13 : decode b2_init 13 = .ok (.bipush 60, 2) := by decide +kernel
theorem d2_init_15 : decode b2_init 15 = .ok (.newarray .int, 2) := by decide +kernel
theorem d2_init_17 : decode b2_init 17 = .ok (.putfield 15, 3) := by decide +kernel
theorem d2_init_20 : decode b2_init 20 = .ok (.aload_n 0, 1) := by decide +kernel
theorem d2_init_21 : decode b2_init 21 = .ok (.bipush 60, 2) := by decide +kernel
theorem d2_init_23 : decode b2_init 23 = .ok (.newarray .int, 2) := by decide +kernel
theorem d2_init_25 : decode b2_init 25 = .ok (.putfield 18, 3) := by decide +kernel
theorem d2_init_28 : decode b2_init 28 = .ok (.aload_n 0, 1) := by decide +kernel
theorem d2_init_29 : decode b2_init 29 = .ok (.bipush 60, 2) := by decide +kernel
theorem d2_init_31 : decode b2_init 31 = .ok (.newarray .boolean, 2) := by decide +kernel
theorem d2_init_33 : decode b2_init 33 = .ok (.putfield 21, 3) := by decide +kernel
theorem d2_init_36 : decode b2_init 36 = .ok (.aload_n 0, 1) := by decide +kernel
theorem d2_init_37 : decode b2_init 37 = .ok (.bipush 60, 2) := by decide +kernel
theorem d2_init_39 : decode b2_init 39 = .ok (.newarray .int, 2) := by decide +kernel
theorem d2_init_41 : decode b2_init 41 = .ok (.putfield 25, 3) := by decide +kernel
theorem d2_init_44 : decode b2_init 44 = .ok (.aload_n 0, 1) := by decide +kernel
theorem d2_init_45 : decode b2_init 45 = .ok (.bipush 60, 2) := by decide +kernel
theorem d2_init_47 : decode b2_init 47 = .ok (.newarray .int, 2) := by decide +kernel
theorem d2_init_49 : decode b2_init 49 = .ok (.putfield 28, 3) := by decide +kernel
theorem d2_init_52 : decode b2_init 52 = .ok (.aload_n 0, 1) := by decide +kernel
theorem d2_init_53 : decode b2_init 53 = .ok (.bipush 10, 2) := by decide +kernel
theorem d2_init_55 : decode b2_init 55 = .ok (.newarray .int, 2) := by decide +kernel
theorem d2_init_57 : decode b2_init 57 = .ok (.putfield 31, 3) := by decide +kernel
theorem d2_init_60 : decode b2_init 60 = .ok (.aload_n 0, 1) := by decide +kernel
theorem d2_init_61 : decode b2_init 61 = .ok (.bipush 61, 2) := by decide +kernel
theorem d2_init_63 : decode b2_init 63 = .ok (.newarray .int, 2) := by decide +kernel
theorem d2_init_65 : decode b2_init 65 = .ok (.putfield 34, 3) := by decide +kernel
theorem d2_init_68 : decode b2_init 68 = .ok (.aload_n 0, 1) := by decide +kernel
theorem d2_init_69 : decode b2_init 69 = .ok (.bipush 60, 2) := by decide +kernel
theorem d2_init_71 : decode b2_init 71 = .ok (.newarray .int, 2) := by decide +kernel
theorem d2_init_73 : decode b2_init 73 = .ok (.putfield 37, 3) := by decide +kernel
theorem d2_init_76 : decode b2_init 76 = .ok (.aload_n 0, 1) := by decide +kernel
theorem d2_init_77 : decode b2_init 77 = .ok (.bipush 60, 2) := by decide +kernel
theorem d2_init_79 : decode b2_init 79 = .ok (.newarray .int, 2) := by decide +kernel
theorem d2_init_81 : decode b2_init 81 = .ok (.putfield 40, 3) := by decide +kernel
theorem d2_init_84 : decode b2_init 84 = .ok (.aload_n 0, 1) := by decide +kernel
theorem d2_init_85 : decode b2_init 85 = .ok (.aload_n 1, 1) := by decide +kernel
theorem d2_init_86 : decode b2_init 86 = .ok (.putfield 43, 3) := by decide +kernel
theorem d2_init_89 : decode b2_init 89 = .ok (.aload_n 0, 1) := by decide +kernel
theorem d2_init_90 : decode b2_init 90 = .ok (.aload_n 2, 1) := by decide +kernel
theorem d2_init_91 : decode b2_init 91 = .ok (.putfield 46, 3) := by decide +kernel
theorem d2_init_94 : decode b2_init 94 = .ok (.return_, 1) := by decide +kernel
theorem d6_init_0 : decode b6_init 0 = .ok (.aload_n 0, 1) := by decide +kernel
theorem d6_init_1 : decode b6_init 1 = .ok (.invokespecial 1, 3) := by decide +kernel
theorem d6_init_4 : decode b6_init 4 = .ok (.aload_n 0, 1) := by decide +kernel
theorem d6_init_5 : decode b6_init 5 = .ok (.bipush 64, 2) := by decide +kernel
theorem d6_init_7 : decode b6_init 7 = .ok (.newarray .int, 2) := by decide +kernel
theorem d6_init_9 : decode b6_init 9 = .ok (.putfield 7, 3) := by decide +kernel
theorem d6_init_12 : decode b6_init 12 = .ok (.aload_n 0, 1) := by decide +kernel
theorem d6_init_13 : decode b6_init 13 = .ok (.bipush 8, 2) := by decide +kernel
theorem d6_init_15 : decode b6_init 15 = .ok (.newarray .int, 2) := by decide +kernel
theorem d6_init_17 : decode b6_init 17 = .ok (.putfield 13, 3) := by decide +kernel
theorem d6_init_20 : decode b6_init 20 = .ok (.aload_n 0, 1) := by decide +kernel
theorem d6_init_21 : decode b6_init 21 = .ok (.bipush 9, 2) := by decide +kernel
theorem d6_init_23 : decode b6_init 23 = .ok (.newarray .int, 2) := by decide +kernel
theorem d6_init_25 : decode b6_init 25 = .ok (.putfield 16, 3) := by decide +kernel
theorem d6_init_28 : decode b6_init 28 = .ok (.aload_n 0, 1) := by decide +kernel
theorem d6_init_29 : decode b6_init 29 = .ok (.sipush 700, 3) := by decide +kernel
theorem d6_init_32 : decode b6_init 32 = .ok (.newarray .int, 2) := by decide +kernel
theorem d6_init_34 : decode b6_init 34 = .ok (.putfield 19, 3) := by decide +kernel
theorem d6_init_37 : decode b6_init 37 = .ok (.aload_n 0, 1) := by decide +kernel
theorem d6_init_38 : decode b6_init 38 = .ok (.bipush 8, 2) := by decide +kernel
theorem d6_init_40 : decode b6_init 40 = .ok (.newarray .int, 2) := by decide +kernel
theorem d6_init_42 : decode b6_init 42 = .ok (.putfield 22, 3) := by decide +kernel
theorem d6_init_45 : decode b6_init 45 = .ok (.aload_n 0, 1) := by decide +kernel
theorem d6_init_46 : decode b6_init 46 = .ok (.sipush 480, 3) := by decide +kernel
theorem d6_init_49 : decode b6_init 49 = .ok (.newarray .int, 2) := by decide +kernel
theorem d6_init_51 : decode b6_init 51 = .ok (.putfield 25, 3) := by decide +kernel
theorem d6_init_54 : decode b6_init 54 = .ok (.aload_n 0, 1) := by decide +kernel
theorem d6_init_55 : decode b6_init 55 = .ok (.sipush 480, 3) := by decide +kernel
theorem d6_init_58 : decode b6_init 58 = .ok (.newarray .int, 2) := by decide +kernel
theorem d6_init_60 : decode b6_init 60 = .ok (.putfield 28, 3) := by decide +kernel
theorem d6_init_63 : decode b6_init 63 = .ok (.aload_n 0, 1) := by decide +kernel
theorem d6_init_64 : decode b6_init 64 = .ok (.sipush 480, 3) := by decide +kernel
theorem d6_init_67 : decode b6_init 67 = .ok (.newarray .boolean, 2) := by decide +kernel
theorem d6_init_69 : decode b6_init 69 = .ok (.putfield 31, 3) := by decide +kernel
theorem d6_init_72 : decode b6_init 72 = .ok (.aload_n 0, 1) := by decide +kernel
theorem d6_init_73 : decode b6_init 73 = .ok (.sipush 480, 3) := by decide +kernel
theorem d6_init_76 : decode b6_init 76 = .ok (.newarray .int, 2) := by decide +kernel
theorem d6_init_78 : decode b6_init 78 = .ok (.putfield 35, 3) := by decide +kernel
theorem d6_init_81 : decode b6_init 81 = .ok (.aload_n 0, 1) := by decide +kernel
theorem d6_init_82 : decode b6_init 82 = .ok (.sipush 480, 3) := by decide +kernel
theorem d6_init_85 : decode b6_init 85 = .ok (.newarray .int, 2) := by decide +kernel
theorem d6_init_87 : decode b6_init 87 = .ok (.putfield 38, 3) := by decide +kernel
theorem d6_init_90 : decode b6_init 90 = .ok (.aload_n 0, 1) := by decide +kernel
theorem d6_init_91 : decode b6_init 91 = .ok (.sipush 480, 3) := by decide +kernel
theorem d6_init_94 : decode b6_init 94 = .ok (.newarray .int, 2) := by decide +kernel
theorem d6_init_96 : decode b6_init 96 = .ok (.putfield 41, 3) := by decide +kernel
theorem d6_init_99 : decode b6_init 99 = .ok (.aload_n 0, 1) := by decide +kernel
theorem d6_init_100 : decode b6_init 100 = .ok (.sipush 480, 3) := by decide +kernel
theorem d6_init_103 : decode b6_init 103 = .ok (.newarray .int, 2) := by decide +kernel
theorem d6_init_105 : decode b6_init 105 = .ok (.putfield 44, 3) := by decide +kernel
theorem d6_init_108 : decode b6_init 108 = .ok (.aload_n 0, 1) := by decide +kernel
theorem d6_init_109 : decode b6_init 109 = .ok (.bipush 80, 2) := by decide +kernel
theorem d6_init_111 : decode b6_init 111 = .ok (.newarray .int, 2) := by decide +kernel
theorem d6_init_113 : decode b6_init 113 = .ok (.putfield 47, 3) := by decide +kernel
theorem d6_init_116 : decode b6_init 116 = .ok (.return_, 1) := by decide +kernel
theorem d0_init_0 : decode b0_init 0 = .ok (.aload_n 0, 1) := by decide +kernel
theorem d0_init_1 : decode b0_init 1 = .ok (.invokespecial 3, 3) := by decide +kernel
theorem d0_init_4 : decode b0_init 4 = .ok (.aload_n 0, 1) := by decide +kernel
theorem d0_init_5 : decode b0_init 5 = .ok (.bipush 8, 2) := by decide +kernel
theorem d0_init_7 : decode b0_init 7 = .ok (.anewarray 9, 3) := by decide +kernel
theorem d0_init_10 : decode b0_init 10 = .ok (.putfield 11, 3) := by decide +kernel
theorem d0_init_13 : decode b0_init 13 = .ok (.sipush 700, 3) := by decide +kernel
theorem d0_init_16 : decode b0_init 16 = .ok (.newarray .int, 2) := by decide +kernel
theorem d0_init_18 : decode b0_init 18 = .ok (.astore_n 1, 1) := by decide +kernel
theorem d0_init_19 : decode b0_init 19 = .ok (.sipush 700, 3) := by decide +kernel
theorem d0_init_22 : decode b0_init 22 = .ok (.newarray .int, 2) := by decide +kernel
theorem d0_init_24 : decode b0_init 24 = .ok (.astore_n 2, 1) := by decide +kernel
theorem d0_init_25 : decode b0_init 25 = .ok (.iconst 0, 1) := by decide +kernel
theorem d0_init_26 : decode b0_init 26 = .ok (.istore_n 3, 1) := by decide +kernel
theorem d0_init_27 : decode b0_init 27 = .ok (.iload_n 3, 1) := by decide +kernel
theorem d0_init_28 : decode b0_init 28 = .ok (.bipush 8, 2) := by decide +kernel
theorem d0_init_30 : decode b0_init 30 = .ok (.if_icmp .ge 24, 3) := by decide +kernel
theorem d0_init_33 : decode b0_init 33 = .ok (.aload_n 0, 1) := by decide +kernel
theorem d0_init_34 : decode b0_init 34 = .ok (.getfield 11, 3) := by decide +kernel
theorem d0_init_37 : decode b0_init 37 = .ok (.iload_n 3, 1) := by decide +kernel
theorem d0_init_38 : decode b0_init 38 = .ok (.new 9, 3) := by decide +kernel
theorem d0_init_41 : decode b0_init 41 = .ok (.dup, 1) := by decide +kernel
theorem d0_init_42 : decode b0_init 42 = .ok (.aload_n 1, 1) := by decide +kernel
theorem d0_init_43 : decode b0_init 43 = .ok (.aload_n 2, 1) := by decide +kernel
theorem d0_init_44 : decode b0_init 44 = .ok (.invokespecial 17, 3) := by decide +kernel
theorem d0_init_47 : decode b0_init 47 = .ok (.aastore, 1) := by decide +kernel
theorem d0_init_48 : decode b0_init 48 = .ok (.iinc 3 1, 3) := by decide +kernel
theorem d0_init_51 : decode b0_init 51 = .ok (.goto (-24), 3) := by decide +kernel
theorem d0_init_54 : decode b0_init 54 = .ok (.return_, 1) := by decide +kernel
theorem d1_init_0 : decode b1_init 0 = .ok (.aload_n 0, 1) := by decide +kernel
theorem d1_init_1 : decode b1_init 1 = .ok (.invokespecial 3, 3) := by decide +kernel
theorem d1_init_4 : decode b1_init 4 = .ok (.aload_n 0, 1) := by decide +kernel
theorem d1_init_5 : decode b1_init 5 = .ok (.iconst 0, 1) := by decide +kernel
theorem d1_init_6 : decode b1_init 6 = .ok (.newarray .int, 2) := by decide +kernel
theorem d1_init_8 : decode b1_init 8 = .ok (.putfield 9, 3) := by decide +kernel
theorem d1_init_11 : decode b1_init 11 = .ok (.aload_n 0, 1) := by decide +kernel
theorem d1_init_12 : decode b1_init 12 = .ok (.new 15, 3) := by decide +kernel
theorem d1_init_15 : decode b1_init 15 = .ok (.dup, 1) := by decide +kernel
theorem d1_init_16 : decode b1_init 16 = .ok (.invokespecial 17, 3) := by decide +kernel
theorem d1_init_19 : decode b1_init 19 = .ok (.putfield 18, 3) := by decide +kernel
theorem d1_init_22 : decode b1_init 22 = .ok (.aload_n 0, 1) := by decide +kernel
theorem d1_init_23 : decode b1_init 23 = .ok (.aload_n 0, 1) := by decide +kernel
theorem d1_init_24 : decode b1_init 24 = .ok (.getfield 18, 3) := by decide +kernel
theorem d1_init_27 : decode b1_init 27 = .ok (.getfield 22, 3) := by decide +kernel
theorem d1_init_30 : decode b1_init 30 = .ok (.iconst 0, 1) := by decide +kernel
theorem d1_init_31 : decode b1_init 31 = .ok (.aaload, 1) := by decide +kernel
theorem d1_init_32 : decode b1_init 32 = .ok (.putfield 26, 3) := by decide +kernel
theorem d1_init_35 : decode b1_init 35 = .ok (.return_, 1) := by decide +kernel
theorem d4_init_0 : decode b4_init 0 = .ok (.aload_n 0, 1) := by decide +kernel
theorem d4_init_1 : decode b4_init 1 = .ok (.invokespecial 3, 3) := by decide +kernel
theorem d4_init_4 : decode b4_init 4 = .ok (.aload_n 0, 1) := by decide +kernel
theorem d4_init_5 : decode b4_init 5 = .ok (.bipush 10, 2) := by decide +kernel
theorem d4_init_7 : decode b4_init 7 = .ok (.newarray .int, 2) := by decide +kernel
theorem d4_init_9 : decode b4_init 9 = .ok (.putfield 9, 3) := by decide +kernel
theorem d4_init_12 : decode b4_init 12 = .ok (.aload_n 0, 1) := by decide +kernel
theorem d4_init_13 : decode b4_init 13 = .ok (.bipush 60, 2) := by decide +kernel
theorem d4_init_15 : decode b4_init 15 = .ok (.newarray .boolean, 2) := by decide +kernel
theorem d4_init_17 : decode b4_init 17 = .ok (.putfield 15, 3) := by decide +kernel
theorem d4_init_20 : decode b4_init 20 = .ok (.aload_n 0, 1) := by decide +kernel
theorem d4_init_21 : decode b4_init 21 = .ok (.bipush 10, 2) := by decide +kernel
theorem d4_init_23 : decode b4_init 23 = .ok (.newarray .int, 2) := by decide +kernel
theorem d4_init_25 : decode b4_init 25 = .ok (.putfield 19, 3) := by decide +kernel
theorem d4_init_28 : decode b4_init 28 = .ok (.aload_n 0, 1) := by decide +kernel
theorem d4_init_29 : decode b4_init 29 = .ok (.bipush 10, 2) := by decide +kernel
theorem d4_init_31 : decode b4_init 31 = .ok (.newarray .int, 2) := by decide +kernel
theorem d4_init_33 : decode b4_init 33 = .ok (.putfield 22, 3) := by decide +kernel
theorem d4_init_36 : decode b4_init 36 = .ok (.aload_n 0, 1) := by decide +kernel
theorem d4_init_37 : decode b4_init 37 = .ok (.bipush 10, 2) := by decide +kernel
theorem d4_init_39 : decode b4_init 39 = .ok (.newarray .long, 2) := by decide +kernel
theorem d4_init_41 : decode b4_init 41 = .ok (.putfield 25, 3) := by decide +kernel
theorem d4_init_44 : decode b4_init 44 = .ok (.aload_n 0, 1) := by decide +kernel
theorem d4_init_45 : decode b4_init 45 = .ok (.bipush 10, 2) := by decide +kernel
theorem d4_init_47 : decode b4_init 47 = .ok (.newarray .int, 2) := by decide +kernel
theorem d4_init_49 : decode b4_init 49 = .ok (.putfield 29, 3) := by decide +kernel
theorem d4_init_52 : decode b4_init 52 = .ok (.aload_n 0, 1) := by decide +kernel
theorem d4_init_53 : decode b4_init 53 = .ok (.sipush 4000, 3) := by decide +kernel
theorem d4_init_56 : decode b4_init 56 = .ok (.newarray .int, 2) := by decide +kernel
theorem d4_init_58 : decode b4_init 58 = .ok (.putfield 32, 3) := by decide +kernel
theorem d4_init_61 : decode b4_init 61 = .ok (.aload_n 0, 1) := by decide +kernel
theorem d4_init_62 : decode b4_init 62 = .ok (.sipush 400, 3) := by decide +kernel
theorem d4_init_65 : decode b4_init 65 = .ok (.newarray .int, 2) := by decide +kernel
theorem d4_init_67 : decode b4_init 67 = .ok (.putfield 35, 3) := by decide +kernel
theorem d4_init_70 : decode b4_init 70 = .ok (.aload_n 0, 1) := by decide +kernel
theorem d4_init_71 : decode b4_init 71 = .ok (.new 38, 3) := by decide +kernel
theorem d4_init_74 : decode b4_init 74 = .ok (.dup, 1) := by decide +kernel
theorem d4_init_75 : decode b4_init 75 = .ok (.iconst 0, 1) := by decide +kernel
theorem d4_init_76 : decode b4_init 76 = .ok (.newarray .int, 2) := by decide +kernel
theorem d4_init_78 : decode b4_init 78 = .ok (.iconst 0, 1) := by decide +kernel
theorem d4_init_79 : decode b4_init 79 = .ok (.newarray .int, 2) := by decide +kernel
theorem d4_init_81 : decode b4_init 81 = .ok (.invokespecial 40, 3) := by decide +kernel
theorem d4_init_84 : decode b4_init 84 = .ok (.putfield 43, 3) := by decide +kernel
theorem d4_init_87 : decode b4_init 87 = .ok (.return_, 1) := by decide +kernel
theorem d5_init_0 : decode b5_init 0 = .ok (.aload_n 0, 1) := by decide +kernel
theorem d5_init_1 : decode b5_init 1 = .ok (.invokespecial 1, 3) := by decide +kernel
theorem d5_init_4 : decode b5_init 4 = .ok (.aload_n 0, 1) := by decide +kernel
theorem d5_init_5 : decode b5_init 5 = .ok (.sipush 700, 3) := by decide +kernel
theorem d5_init_8 : decode b5_init 8 = .ok (.newarray .int, 2) := by decide +kernel
theorem d5_init_10 : decode b5_init 10 = .ok (.putfield 9, 3) := by decide +kernel
theorem d5_init_13 : decode b5_init 13 = .ok (.aload_n 0, 1) := by decide +kernel
theorem d5_init_14 : decode b5_init 14 = .ok (.bipush 10, 2) := by decide +kernel
theorem d5_init_16 : decode b5_init 16 = .ok (.newarray .int, 2) := by decide +kernel
theorem d5_init_18 : decode b5_init 18 = .ok (.putfield 13, 3) := by decide +kernel
theorem d5_init_21 : decode b5_init 21 = .ok (.aload_n 0, 1) := by decide +kernel
theorem d5_init_22 : decode b5_init 22 = .ok (.bipush 8, 2) := by decide +kernel
theorem d5_init_24 : decode b5_init 24 = .ok (.anewarray 16, 3) := by decide +kernel
theorem d5_init_27 : decode b5_init 27 = .ok (.putfield 18, 3) := by decide +kernel
theorem d5_init_30 : decode b5_init 30 = .ok (.aload_n 0, 1) := by decide +kernel
theorem d5_init_31 : decode b5_init 31 = .ok (.iconst 2, 1) := by decide +kernel
theorem d5_init_32 : decode b5_init 32 = .ok (.anewarray 16, 3) := by decide +kernel
theorem d5_init_35 : decode b5_init 35 = .ok (.putfield 22, 3) := by decide +kernel
theorem d5_init_38 : decode b5_init 38 = .ok (.aload_n 0, 1) := by decide +kernel
theorem d5_init_39 : decode b5_init 39 = .ok (.iconst 2, 1) := by decide +kernel
theorem d5_init_40 : decode b5_init 40 = .ok (.newarray .boolean, 2) := by decide +kernel
theorem d5_init_42 : decode b5_init 42 = .ok (.putfield 25, 3) := by decide +kernel
theorem d5_init_45 : decode b5_init 45 = .ok (.aload_n 0, 1) := by decide +kernel
theorem d5_init_46 : decode b5_init 46 = .ok (.new 29, 3) := by decide +kernel
theorem d5_init_49 : decode b5_init 49 = .ok (.dup, 1) := by decide +kernel
theorem d5_init_50 : decode b5_init 50 = .ok (.invokespecial 31, 3) := by decide +kernel
theorem d5_init_53 : decode b5_init 53 = .ok (.putfield 32, 3) := by decide +kernel
theorem d5_init_56 : decode b5_init 56 = .ok (.aload_n 0, 1) := by decide +kernel
theorem d5_init_57 : decode b5_init 57 = .ok (.new 36, 3) := by decide +kernel
theorem d5_init_60 : decode b5_init 60 = .ok (.dup, 1) := by decide +kernel
theorem d5_init_61 : decode b5_init 61 = .ok (.invokespecial 38, 3) := by decide +kernel
theorem d5_init_64 : decode b5_init 64 = .ok (.putfield 39, 3) := by decide +kernel
theorem d5_init_67 : decode b5_init 67 = .ok (.aload_n 0, 1) := by decide +kernel
theorem d5_init_68 : decode b5_init 68 = .ok (.new 16, 3) := by decide +kernel
theorem d5_init_71 : decode b5_init 71 = .ok (.dup, 1) := by decide +kernel
theorem d5_init_72 : decode b5_init 72 = .ok (.invokespecial 43, 3) := by decide +kernel
theorem d5_init_75 : decode b5_init 75 = .ok (.putfield 44, 3) := by decide +kernel
theorem d5_init_78 : decode b5_init 78 = .ok (.aload_n 0, 1) := by decide +kernel
theorem d5_init_79 : decode b5_init 79 = .ok (.new 48, 3) := by decide +kernel
theorem d5_init_82 : decode b5_init 82 = .ok (.dup, 1) := by decide +kernel
theorem d5_init_83 : decode b5_init 83 = .ok (.invokespecial 50, 3) := by decide +kernel
theorem d5_init_86 : decode b5_init 86 = .ok (.putfield 51, 3) := by decide +kernel
theorem d5_init_89 : decode b5_init 89 = .ok (.iconst 0, 1) := by decide +kernel
theorem d5_init_90 : decode b5_init 90 = .ok (.istore_n 1, 1) := by decide +kernel
theorem d5_init_91 : decode b5_init 91 = .ok (.iload_n 1, 1) := by decide +kernel
theorem d5_init_92 : decode b5_init 92 = .ok (.bipush 8, 2) := by decide +kernel
theorem d5_init_94 : decode b5_init 94 = .ok (.if_icmp .ge 22, 3) := by decide +kernel
theorem d5_init_97 : decode b5_init 97 = .ok (.aload_n 0, 1) := by decide +kernel
theorem d5_init_98 : decode b5_init 98 = .ok (.getfield 18, 3) := by decide +kernel
theorem d5_init_101 : decode b5_init 101 = .ok (.iload_n 1, 1) := by decide +kernel
theorem d5_init_102 : decode b5_init 102 = .ok (.new 16, 3) := by decide +kernel
theorem d5_init_105 : decode b5_init 105 = .ok (.dup, 1) := by decide +kernel
theorem d5_init_106 : decode b5_init 106 = .ok (.invokespecial 43, 3) := by decide +kernel
theorem d5_init_109 : decode b5_init 109 = .ok (.aastore, 1) := by decide +kernel
theorem d5_init_110 : decode b5_init 110 = .ok (.iinc 1 1, 3) := by decide +kernel
theorem d5_init_113 : decode b5_init 113 = .ok (.goto (-22), 3) := by decide +kernel
theorem d5_init_116 : decode b5_init 116 = .ok (.iconst 0, 1) := by decide +kernel
theorem d5_init_117 : decode b5_init 117 = .ok (.istore_n 1, 1) := by decide +kernel
theorem d5_init_118 : decode b5_init 118 = .ok (.iload_n 1, 1) := by decide +kernel
theorem d5_init_119 : decode b5_init 119 = .ok (.iconst 2, 1) := by decide +kernel
theorem d5_init_120 : decode b5_init 120 = .ok (.if_icmp .ge 22, 3) := by decide +kernel
theorem d5_init_123 : decode b5_init 123 = .ok (.aload_n 0, 1) := by decide +kernel
theorem d5_init_124 : decode b5_init 124 = .ok (.getfield 22, 3) := by decide +kernel
theorem d5_init_127 : decode b5_init 127 = .ok (.iload_n 1, 1) := by decide +kernel
theorem d5_init_128 : decode b5_init 128 = .ok (.new 16, 3) := by decide +kernel
theorem d5_init_131 : decode b5_init 131 = .ok (.dup, 1) := by decide +kernel
theorem d5_init_132 : decode b5_init 132 = .ok (.invokespecial 43, 3) := by decide +kernel
theorem d5_init_135 : decode b5_init 135 = .ok (.aastore, 1) := by decide +kernel
theorem d5_init_136 : decode b5_init 136 = .ok (.iinc 1 1, 3) := by decide +kernel
theorem d5_init_139 : decode b5_init 139 = .ok (.goto (-21), 3) := by decide +kernel
theorem d5_init_142 : decode b5_init 142 = .ok (.aload_n 0, 1) := by decide +kernel
theorem d5_init_143 : decode b5_init 143 = .ok (.iconst (-1), 1) := by decide +kernel
theorem d5_init_144 : decode b5_init 144 = .ok (.putfield 55, 3) := by decide +kernel
theorem d5_init_147 : decode b5_init 147 = .ok (.return_, 1) := by decide +kernel
theorem d7_init_0 : decode b7_init 0 = .ok (.aload_n 0, 1) := by decide +kernel
theorem d7_init_1 : decode b7_init 1 = .ok (.invokespecial 1, 3) := by decide +kernel
theorem d7_init_4 : decode b7_init 4 = .ok (.aload_n 0, 1) := by decide +kernel
theorem d7_init_5 : decode b7_init 5 = .ok (.sipush 2256, 3) := by decide +kernel
theorem d7_init_8 : decode b7_init 8 = .ok (.newarray .int, 2) := by decide +kernel
theorem d7_init_10 : decode b7_init 10 = .ok (.putfield 7, 3) := by decide +kernel
theorem d7_init_13 : decode b7_init 13 = .ok (.aload_n 0, 1) := by decide +kernel
theorem d7_init_14 : decode b7_init 14 = .ok (.sipush 2256, 3) := by decide +kernel
theorem d7_init_17 : decode b7_init 17 = .ok (.newarray .int, 2) := by decide +kernel
theorem d7_init_19 : decode b7_init 19 = .ok (.putfield 13, 3) := by decide +kernel
theorem d7_init_22 : decode b7_init 22 = .ok (.aload_n 0, 1) := by decide +kernel
theorem d7_init_23 : decode b7_init 23 = .ok (.sipush 18048, 3) := by decide +kernel
theorem d7_init_26 : decode b7_init 26 = .ok (.newarray .int, 2) := by decide +kernel
theorem d7_init_28 : decode b7_init 28 = .ok (.putfield 16, 3) := by decide +kernel
theorem d7_init_31 : decode b7_init 31 = .ok (.aload_n 0, 1) := by decide +kernel
theorem d7_init_32 : decode b7_init 32 = .ok (.sipush 4512, 3) := by decide +kernel
theorem d7_init_35 : decode b7_init 35 = .ok (.newarray .int, 2) := by decide +kernel
theorem d7_init_37 : decode b7_init 37 = .ok (.putfield 19, 3) := by decide +kernel
theorem d7_init_40 : decode b7_init 40 = .ok (.aload_n 0, 1) := by decide +kernel
theorem d7_init_41 : decode b7_init 41 = .ok (.iconst 2, 1) := by decide +kernel
theorem d7_init_42 : decode b7_init 42 = .ok (.newarray .boolean, 2) := by decide +kernel
theorem d7_init_44 : decode b7_init 44 = .ok (.putfield 22, 3) := by decide +kernel
theorem d7_init_47 : decode b7_init 47 = .ok (.aload_n 0, 1) := by decide +kernel
theorem d7_init_48 : decode b7_init 48 = .ok (.bipush 10, 2) := by decide +kernel
theorem d7_init_50 : decode b7_init 50 = .ok (.newarray .int, 2) := by decide +kernel
theorem d7_init_52 : decode b7_init 52 = .ok (.putfield 26, 3) := by decide +kernel
theorem d7_init_55 : decode b7_init 55 = .ok (.aload_n 0, 1) := by decide +kernel
theorem d7_init_56 : decode b7_init 56 = .ok (.new 29, 3) := by decide +kernel
theorem d7_init_59 : decode b7_init 59 = .ok (.dup, 1) := by decide +kernel
theorem d7_init_60 : decode b7_init 60 = .ok (.invokespecial 31, 3) := by decide +kernel
theorem d7_init_63 : decode b7_init 63 = .ok (.putfield 32, 3) := by decide +kernel
theorem d7_init_66 : decode b7_init 66 = .ok (.aload_n 0, 1) := by decide +kernel
theorem d7_init_67 : decode b7_init 67 = .ok (.sipush 700, 3) := by decide +kernel
theorem d7_init_70 : decode b7_init 70 = .ok (.newarray .int, 2) := by decide +kernel
theorem d7_init_72 : decode b7_init 72 = .ok (.putfield 36, 3) := by decide +kernel
theorem d7_init_75 : decode b7_init 75 = .ok (.aload_n 0, 1) := by decide +kernel
theorem d7_init_76 : decode b7_init 76 = .ok (.iconst (-1), 1) := by decide +kernel
theorem d7_init_77 : decode b7_init 77 = .ok (.putfield 39, 3) := by decide +kernel
theorem d7_init_80 : decode b7_init 80 = .ok (.aload_n 0, 1) := by decide +kernel
theorem d7_init_81 : decode b7_init 81 = .ok (.new 29, 3) := by decide +kernel
theorem d7_init_84 : decode b7_init 84 = .ok (.dup, 1) := by decide +kernel
theorem d7_init_85 : decode b7_init 85 = .ok (.invokespecial 31, 3) := by decide +kernel
theorem d7_init_88 : decode b7_init 88 = .ok (.putfield 43, 3) := by decide +kernel
theorem d7_init_91 : decode b7_init 91 = .ok (.aload_n 0, 1) := by decide +kernel
theorem d7_init_92 : decode b7_init 92 = .ok (.iconst 4, 1) := by decide +kernel
theorem d7_init_93 : decode b7_init 93 = .ok (.newarray .int, 2) := by decide +kernel
theorem d7_init_95 : decode b7_init 95 = .ok (.putfield 46, 3) := by decide +kernel
theorem d7_init_98 : decode b7_init 98 = .ok (.aload_n 0, 1) := by decide +kernel
theorem d7_init_99 : decode b7_init 99 = .ok (.bipush 60, 2) := by decide +kernel
theorem d7_init_101 : decode b7_init 101 = .ok (.newarray .boolean, 2) := by decide +kernel
theorem d7_init_103 : decode b7_init 103 = .ok (.putfield 49, 3) := by decide +kernel
theorem d7_init_106 : decode b7_init 106 = .ok (.aload_n 0, 1) := by decide +kernel
theorem d7_init_107 : decode b7_init 107 = .ok (.bipush 60, 2) := by decide +kernel
theorem d7_init_109 : decode b7_init 109 = .ok (.newarray .boolean, 2) := by decide +kernel
theorem d7_init_111 : decode b7_init 111 = .ok (.putfield 52, 3) := by decide +kernel
theorem d7_init_114 : decode b7_init 114 = .ok (.aload_n 0, 1) := by decide +kernel
theorem d7_init_115 : decode b7_init 115 = .ok (.bipush 10, 2) := by decide +kernel
theorem d7_init_117 : decode b7_init 117 = .ok (.newarray .int, 2) := by decide +kernel
theorem d7_init_119 : decode b7_init 119 = .ok (.putfield 55, 3) := by decide +kernel
theorem d7_init_122 : decode b7_init 122 = .ok (.aload_n 0, 1) := by decide +kernel
theorem d7_init_123 : decode b7_init 123 = .ok (.bipush 10, 2) := by decide +kernel
theorem d7_init_125 : decode b7_init 125 = .ok (.newarray .int, 2) := by decide +kernel
theorem d7_init_127 : decode b7_init 127 = .ok (.putfield 58, 3) := by decide +kernel
theorem d7_init_130 : decode b7_init 130 = .ok (.aload_n 0, 1) := by decide +kernel
theorem d7_init_131 : decode b7_init 131 = .ok (.sipush 6000, 3) := by decide +kernel
theorem d7_init_134 : decode b7_init 134 = .ok (.newarray .int, 2) := by decide +kernel
theorem d7_init_136 : decode b7_init 136 = .ok (.putfield 61, 3) := by decide +kernel
theorem d7_init_139 : decode b7_init 139 = .ok (.aload_n 0, 1) := by decide +kernel
theorem d7_init_140 : decode b7_init 140 = .ok (.sipush 4100, 3) := by decide +kernel
theorem d7_init_143 : decode b7_init 143 = .ok (.newarray .int, 2) := by decide +kernel
theorem d7_init_145 : decode b7_init 145 = .ok (.putfield 64, 3) := by decide +kernel
theorem d7_init_148 : decode b7_init 148 = .ok (.aload_n 0, 1) := by decide +kernel
theorem d7_init_149 : decode b7_init 149 = .ok (.bipush 10, 2) := by decide +kernel
theorem d7_init_151 : decode b7_init 151 = .ok (.newarray .boolean, 2) := by decide +kernel
theorem d7_init_153 : decode b7_init 153 = .ok (.putfield 67, 3) := by decide +kernel
theorem d7_init_156 : decode b7_init 156 = .ok (.aload_n 0, 1) := by decide +kernel
theorem d7_init_157 : decode b7_init 157 = .ok (.bipush 10, 2) := by decide +kernel
theorem d7_init_159 : decode b7_init 159 = .ok (.newarray .int, 2) := by decide +kernel
theorem d7_init_161 : decode b7_init 161 = .ok (.putfield 70, 3) := by decide +kernel
theorem d7_init_164 : decode b7_init 164 = .ok (.aload_n 0, 1) := by decide +kernel
theorem d7_init_165 : decode b7_init 165 = .ok (.bipush 60, 2) := by decide +kernel
theorem d7_init_167 : decode b7_init 167 = .ok (.newarray .int, 2) := by decide +kernel
theorem d7_init_169 : decode b7_init 169 = .ok (.putfield 73, 3) := by decide +kernel
theorem d7_init_172 : decode b7_init 172 = .ok (.aload_n 0, 1) := by decide +kernel
theorem d7_init_173 : decode b7_init 173 = .ok (.sipush 400, 3) := by decide +kernel
theorem d7_init_176 : decode b7_init 176 = .ok (.newarray .int, 2) := by decide +kernel
theorem d7_init_178 : decode b7_init 178 = .ok (.putfield 76, 3) := by decide +kernel
theorem d7_init_181 : decode b7_init 181 = .ok (.return_, 1) := by decide +kernel
theorem zR_zsI {μ : zM} {k i a b : Nat} {v : Int} : zR (zsI μ k i v) a b = zR μ a b := rfl
theorem hdf0 : ∀ j, j < 3 → ∃ ty, (zTy 0)[j]? = some ty ∧ defaultValue (tyX0 j) = zdv ty := fun j hj => match j, hj with
  | 0, _ => ⟨2, rfl, rfl⟩
  | 1, _ => ⟨0, rfl, rfl⟩
  | 2, _ => ⟨0, rfl, rfl⟩
  | (j + 3), h => absurd h (by omega)
theorem hdf1 : ∀ j, j < 8 → ∃ ty, (zTy 1)[j]? = some ty ∧ defaultValue (tyX1 j) = zdv ty := fun j hj => match j, hj with
  | 0, _ => ⟨2, rfl, rfl⟩
  | 1, _ => ⟨0, rfl, rfl⟩
  | 2, _ => ⟨0, rfl, rfl⟩
  | 3, _ => ⟨2, rfl, rfl⟩
  | 4, _ => ⟨2, rfl, rfl⟩
  | 5, _ => ⟨0, rfl, rfl⟩
  | 6, _ => ⟨0, rfl, rfl⟩
  | 7, _ => ⟨0, rfl, rfl⟩
  | (j + 8), h => absurd h (by omega)
theorem hdf2 : ∀ j, j < 17 → ∃ ty, (zTy 2)[j]? = some ty ∧ defaultValue (tyX2 j) = zdv ty := fun j hj => match j, hj with
  | 0, _ => ⟨2, rfl, rfl⟩
  | 1, _ => ⟨0, rfl, rfl⟩
  | 2, _ => ⟨0, rfl, rfl⟩
  | 3, _ => ⟨0, rfl, rfl⟩
  | 4, _ => ⟨2, rfl, rfl⟩
  | 5, _ => ⟨2, rfl, rfl⟩
  | 6, _ => ⟨2, rfl, rfl⟩
  | 7, _ => ⟨2, rfl, rfl⟩
  | 8, _ => ⟨2, rfl, rfl⟩
  | 9, _ => ⟨2, rfl, rfl⟩
  | 10, _ => ⟨2, rfl, rfl⟩
  | 11, _ => ⟨2, rfl, rfl⟩
  | 12, _ => ⟨2, rfl, rfl⟩
  | 13, _ => ⟨2, rfl, rfl⟩
  | 14, _ => ⟨2, rfl, rfl⟩
  | 15, _ => ⟨0, rfl, rfl⟩
  | 16, _ => ⟨0, rfl, rfl⟩
  | (j + 17), h => absurd h (by omega)
theorem hdf3 : ∀ j, j < 9 → ∃ ty, (zTy 3)[j]? = some ty ∧ defaultValue (tyX3 j) = zdv ty := fun j hj => match j, hj with
  | 0, _ => ⟨0, rfl, rfl⟩
  | 1, _ => ⟨0, rfl, rfl⟩
  | 2, _ => ⟨2, rfl, rfl⟩
  | 3, _ => ⟨2, rfl, rfl⟩
  | 4, _ => ⟨2, rfl, rfl⟩
  | 5, _ => ⟨2, rfl, rfl⟩
  | 6, _ => ⟨2, rfl, rfl⟩
  | 7, _ => ⟨2, rfl, rfl⟩
  | 8, _ => ⟨0, rfl, rfl⟩
  | (j + 9), h => absurd h (by omega)
theorem hdf4 : ∀ j, j < 13 → ∃ ty, (zTy 4)[j]? = some ty ∧ defaultValue (tyX4 j) = zdv ty := fun j hj => match j, hj with
  | 0, _ => ⟨2, rfl, rfl⟩
  | 1, _ => ⟨0, rfl, rfl⟩
  | 2, _ => ⟨2, rfl, rfl⟩
  | 3, _ => ⟨0, rfl, rfl⟩
  | 4, _ => ⟨2, rfl, rfl⟩
  | 5, _ => ⟨2, rfl, rfl⟩
  | 6, _ => ⟨2, rfl, rfl⟩
  | 7, _ => ⟨2, rfl, rfl⟩
  | 8, _ => ⟨1, rfl, rfl⟩
  | 9, _ => ⟨2, rfl, rfl⟩
  | 10, _ => ⟨0, rfl, rfl⟩
  | 11, _ => ⟨2, rfl, rfl⟩
  | 12, _ => ⟨2, rfl, rfl⟩
  | (j + 13), h => absurd h (by omega)
theorem hdf5 : ∀ j, j < 14 → ∃ ty, (zTy 5)[j]? = some ty ∧ defaultValue (tyX5 j) = zdv ty := fun j hj => match j, hj with
  | 0, _ => ⟨2, rfl, rfl⟩
  | 1, _ => ⟨0, rfl, rfl⟩
  | 2, _ => ⟨2, rfl, rfl⟩
  | 3, _ => ⟨2, rfl, rfl⟩
  | 4, _ => ⟨0, rfl, rfl⟩
  | 5, _ => ⟨0, rfl, rfl⟩
  | 6, _ => ⟨2, rfl, rfl⟩
  | 7, _ => ⟨2, rfl, rfl⟩
  | 8, _ => ⟨2, rfl, rfl⟩
  | 9, _ => ⟨0, rfl, rfl⟩
  | 10, _ => ⟨0, rfl, rfl⟩
  | 11, _ => ⟨2, rfl, rfl⟩
  | 12, _ => ⟨2, rfl, rfl⟩
  | 13, _ => ⟨2, rfl, rfl⟩
  | (j + 14), h => absurd h (by omega)
theorem hdf6 : ∀ j, j < 15 → ∃ ty, (zTy 6)[j]? = some ty ∧ defaultValue (tyX6 j) = zdv ty := fun j hj => match j, hj with
  | 0, _ => ⟨0, rfl, rfl⟩
  | 1, _ => ⟨0, rfl, rfl⟩
  | 2, _ => ⟨2, rfl, rfl⟩
  | 3, _ => ⟨2, rfl, rfl⟩
  | 4, _ => ⟨2, rfl, rfl⟩
  | 5, _ => ⟨2, rfl, rfl⟩
  | 6, _ => ⟨2, rfl, rfl⟩
  | 7, _ => ⟨2, rfl, rfl⟩
  | 8, _ => ⟨2, rfl, rfl⟩
  | 9, _ => ⟨2, rfl, rfl⟩
  | 10, _ => ⟨2, rfl, rfl⟩
  | 11, _ => ⟨2, rfl, rfl⟩
  | 12, _ => ⟨2, rfl, rfl⟩
  | 13, _ => ⟨2, rfl, rfl⟩
  | 14, _ => ⟨2, rfl, rfl⟩
  | (j + 15), h => absurd h (by omega)
theorem hdf7 : ∀ j, j < 36 → ∃ ty, (zTy 7)[j]? = some ty ∧ defaultValue (tyX7 j) = zdv ty := fun j hj => match j, hj with
  | 0, _ => ⟨0, rfl, rfl⟩
  | 1, _ => ⟨2, rfl, rfl⟩
  | 2, _ => ⟨2, rfl, rfl⟩
  | 3, _ => ⟨2, rfl, rfl⟩
  | 4, _ => ⟨2, rfl, rfl⟩
  | 5, _ => ⟨2, rfl, rfl⟩
  | 6, _ => ⟨2, rfl, rfl⟩
  | 7, _ => ⟨0, rfl, rfl⟩
  | 8, _ => ⟨2, rfl, rfl⟩
  | 9, _ => ⟨2, rfl, rfl⟩
  | 10, _ => ⟨0, rfl, rfl⟩
  | 11, _ => ⟨0, rfl, rfl⟩
  | 12, _ => ⟨0, rfl, rfl⟩
  | 13, _ => ⟨2, rfl, rfl⟩
  | 14, _ => ⟨0, rfl, rfl⟩
  | 15, _ => ⟨0, rfl, rfl⟩
  | 16, _ => ⟨0, rfl, rfl⟩
  | 17, _ => ⟨0, rfl, rfl⟩
  | 18, _ => ⟨2, rfl, rfl⟩
  | 19, _ => ⟨0, rfl, rfl⟩
  | 20, _ => ⟨0, rfl, rfl⟩
  | 21, _ => ⟨0, rfl, rfl⟩
  | 22, _ => ⟨0, rfl, rfl⟩
  | 23, _ => ⟨2, rfl, rfl⟩
  | 24, _ => ⟨2, rfl, rfl⟩
  | 25, _ => ⟨2, rfl, rfl⟩
  | 26, _ => ⟨2, rfl, rfl⟩
  | 27, _ => ⟨0, rfl, rfl⟩
  | 28, _ => ⟨2, rfl, rfl⟩
  | 29, _ => ⟨0, rfl, rfl⟩
  | 30, _ => ⟨2, rfl, rfl⟩
  | 31, _ => ⟨2, rfl, rfl⟩
  | 32, _ => ⟨2, rfl, rfl⟩
  | 33, _ => ⟨0, rfl, rfl⟩
  | 34, _ => ⟨2, rfl, rfl⟩
  | 35, _ => ⟨2, rfl, rfl⟩
  | (j + 36), h => absurd h (by omega)
