theorem d7_readBody_59 : decode b7_readBody 59 = .ok (.isub, 1) := by decide +kernel
theorem d7_readBody_60 : decode b7_readBody 60 = .ok (.putfield 159, 3) := by decide +kernel
theorem d7_readBody_63 : decode b7_readBody 63 = .ok (.aload_n 0, 1) := by decide +kernel
theorem d7_readBody_64 : decode b7_readBody 64 = .ok (.getfield 43, 3) := by decide +kernel
theorem d7_readBody_67 : decode b7_readBody 67 = .ok (.getfield 189, 3) := by decide +kernel
theorem d7_readBody_70 : decode b7_readBody 70 = .ok (.bipush 60, 2) := by decide +kernel
theorem d7_readBody_72 : decode b7_readBody 72 = .ok (.aload_n 0, 1) := by decide +kernel
theorem d7_readBody_73 : decode b7_readBody 73 = .ok (.getfield 43, 3) := by decide +kernel
theorem d7_readBody_76 : decode b7_readBody 76 = .ok (.getfield 82, 3) := by decide +kernel
theorem d7_readBody_79 : decode b7_readBody 79 = .ok (.imul, 1) := by decide +kernel
theorem d7_readBody_80 : decode b7_readBody 80 = .ok (.aload_n 0, 1) := by decide +kernel
theorem d7_readBody_81 : decode b7_readBody 81 = .ok (.getfield 46, 3) := by decide +kernel
theorem d7_readBody_84 : decode b7_readBody 84 = .ok (.aload_n 0, 1) := by decide +kernel
theorem d7_readBody_85 : decode b7_readBody 85 = .ok (.getfield 159, 3) := by decide +kernel
theorem d7_readBody_88 : decode b7_readBody 88 = .ok (.iaload, 1) := by decide +kernel
theorem d7_readBody_89 : decode b7_readBody 89 = .ok (.iadd, 1) := by decide +kernel
theorem d7_readBody_90 : decode b7_readBody 90 = .ok (.aload_n 0, 1) := by decide +kernel
theorem d7_readBody_91 : decode b7_readBody 91 = .ok (.getfield 156, 3) := by decide +kernel
theorem d7_readBody_94 : decode b7_readBody 94 = .ok (.iastore, 1) := by decide +kernel
theorem d7_readBody_95 : decode b7_readBody 95 = .ok (.aload_n 0, 1) := by decide +kernel
theorem d7_readBody_96 : decode b7_readBody 96 = .ok (.sipush 2000, 3) := by decide +kernel
theorem d7_readBody_99 : decode b7_readBody 99 = .ok (.invokevirtual 198, 3) := by decide +kernel
theorem d7_readBody_102 : decode b7_readBody 102 = .ok (.goto 121, 3) := by decide +kernel
theorem d7_readSnippet_0 : decode b7_readSnippet 0 = .ok (.aload_n 0, 1) := by decide +kernel
theorem d7_readSnippet_1 : decode b7_readSnippet 1 = .ok (.getfield 43, 3) := by decide +kernel
theorem d7_readSnippet_4 : decode b7_readSnippet 4 = .ok (.getfield 82, 3) := by decide +kernel
theorem d7_readSnippet_7 : decode b7_readSnippet 7 = .ok (.bipush 8, 2) := by decide +kernel
theorem d7_readSnippet_9 : decode b7_readSnippet 9 = .ok (.if_icmp .ne 13, 3) := by decide +kernel
theorem d7_readSnippet_22 : decode b7_readSnippet 22 = .ok (.aload_n 0, 1) := by decide +kernel
theorem d7_readSnippet_23 : decode b7_readSnippet 23 = .ok (.invokevirtual 210, 3) := by decide +kernel
theorem d7_readSnippet_26 : decode b7_readSnippet 26 = .ok (.ifCond .ne 5, 3) := by decide +kernel
theorem d7_readSnippet_31 : decode b7_readSnippet 31 = .ok (.aload_n 0, 1) := by decide +kernel
theorem d7_readSnippet_32 : decode b7_readSnippet 32 = .ok (.invokevirtual 142, 3) := by decide +kernel
theorem d7_readSnippet_35 : decode b7_readSnippet 35 = .ok (.aload_n 0, 1) := by decide +kernel
theorem d7_readSnippet_36 : decode b7_readSnippet 36 = .ok (.bipush 123, 2) := by decide +kernel
theorem d7_readSnippet_38 : decode b7_readSnippet 38 = .ok (.invokevirtual 214, 3) := by decide +kernel
theorem d7_readSnippet_41 : decode b7_readSnippet 41 = .ok (.ifCond .ne 13, 3) := by decide +kernel
theorem d7_readSnippet_54 : decode b7_readSnippet 54 = .ok (.aload_n 0, 1) := by decide +kernel
theorem d7_readSnippet_55 : decode b7_readSnippet 55 = .ok (.getfield 43, 3) := by decide +kernel
theorem d7_readSnippet_58 : decode b7_readSnippet 58 = .ok (.getfield 171, 3) := by decide +kernel
theorem d7_readSnippet_61 : decode b7_readSnippet 61 = .ok (.aload_n 0, 1) := by decide +kernel
theorem d7_readSnippet_62 : decode b7_readSnippet 62 = .ok (.getfield 43, 3) := by decide +kernel
theorem d7_readSnippet_65 : decode b7_readSnippet 65 = .ok (.getfield 82, 3) := by decide +kernel
theorem d7_readSnippet_68 : decode b7_readSnippet 68 = .ok (.iconst 0, 1) := by decide +kernel
theorem d7_readSnippet_69 : decode b7_readSnippet 69 = .ok (.iastore, 1) := by decide +kernel
theorem d7_readSnippet_70 : decode b7_readSnippet 70 = .ok (.iconst 0, 1) := by decide +kernel
theorem d7_readSnippet_71 : decode b7_readSnippet 71 = .ok (.istore_n 1, 1) := by decide +kernel
theorem d7_readSnippet_44 : decode b7_readSnippet 44 = .ok (.aload_n 0, 1) := by decide +kernel
theorem d7_readSnippet_45 : decode b7_readSnippet 45 = .ok (.iconst 1, 1) := by decide +kernel
theorem d7_readSnippet_46 : decode b7_readSnippet 46 = .ok (.aload_n 0, 1) := by decide +kernel
theorem d7_readSnippet_47 : decode b7_readSnippet 47 = .ok (.getfield 113, 3) := by decide +kernel
theorem d7_readSnippet_50 : decode b7_readSnippet 50 = .ok (.invokevirtual 145, 3) := by decide +kernel
theorem d7_readSnippet_53 : decode b7_readSnippet 53 = .ok (.ireturn, 1) := by decide +kernel
theorem d7_readSnippet_29 : decode b7_readSnippet 29 = .ok (.iconst 0, 1) := by decide +kernel
theorem d7_readSnippet_30 : decode b7_readSnippet 30 = .ok (.ireturn, 1) := by decide +kernel
theorem d7_readSnippet_12 : decode b7_readSnippet 12 = .ok (.aload_n 0, 1) := by decide +kernel
theorem d7_readSnippet_13 : decode b7_readSnippet 13 = .ok (.iconst 5, 1) := by decide +kernel
theorem d7_readSnippet_14 : decode b7_readSnippet 14 = .ok (.aload_n 0, 1) := by decide +kernel
theorem d7_readSnippet_15 : decode b7_readSnippet 15 = .ok (.getfield 113, 3) := by decide +kernel
theorem d7_readSnippet_18 : decode b7_readSnippet 18 = .ok (.invokevirtual 145, 3) := by decide +kernel
theorem d7_readSnippet_21 : decode b7_readSnippet 21 = .ok (.ireturn, 1) := by decide +kernel
theorem d7_readSnippet_72 : decode b7_readSnippet 72 = .ok (.iload_n 1, 1) := by decide +kernel
theorem d7_readSnippet_73 : decode b7_readSnippet 73 = .ok (.bipush 10, 2) := by decide +kernel
theorem d7_readSnippet_75 : decode b7_readSnippet 75 = .ok (.if_icmp .ge 30, 3) := by decide +kernel
theorem d7_readSnippet_105 : decode b7_readSnippet 105 = .ok (.aload_n 0, 1) := by decide +kernel
theorem d7_readSnippet_106 : decode b7_readSnippet 106 = .ok (.getfield 43, 3) := by decide +kernel
theorem d7_readSnippet_109 : decode b7_readSnippet 109 = .ok (.getfield 217, 3) := by decide +kernel
theorem d7_readSnippet_112 : decode b7_readSnippet 112 = .ok (.aload_n 0, 1) := by decide +kernel
theorem d7_readSnippet_113 : decode b7_readSnippet 113 = .ok (.getfield 43, 3) := by decide +kernel
theorem d7_readSnippet_116 : decode b7_readSnippet 116 = .ok (.getfield 82, 3) := by decide +kernel
theorem d7_readSnippet_119 : decode b7_readSnippet 119 = .ok (.aload_n 0, 1) := by decide +kernel
theorem d7_readSnippet_120 : decode b7_readSnippet 120 = .ok (.getfield 156, 3) := by decide +kernel
theorem d7_readSnippet_123 : decode b7_readSnippet 123 = .ok (.iastore, 1) := by decide +kernel
theorem d7_readSnippet_124 : decode b7_readSnippet 124 = .ok (.aload_n 0, 1) := by decide +kernel
theorem d7_readSnippet_125 : decode b7_readSnippet 125 = .ok (.invokevirtual 220, 3) := by decide +kernel
theorem d7_readSnippet_128 : decode b7_readSnippet 128 = .ok (.ifCond .ne 5, 3) := by decide +kernel
theorem d7_readSnippet_133 : decode b7_readSnippet 133 = .ok (.aload_n 0, 1) := by decide +kernel
theorem d7_readSnippet_134 : decode b7_readSnippet 134 = .ok (.getfield 43, 3) := by decide +kernel
theorem d7_readSnippet_137 : decode b7_readSnippet 137 = .ok (.dup, 1) := by decide +kernel
theorem d7_readSnippet_138 : decode b7_readSnippet 138 = .ok (.getfield 82, 3) := by decide +kernel
theorem d7_readSnippet_141 : decode b7_readSnippet 141 = .ok (.iconst 1, 1) := by decide +kernel
theorem d7_readSnippet_142 : decode b7_readSnippet 142 = .ok (.iadd, 1) := by decide +kernel
theorem d7_readSnippet_143 : decode b7_readSnippet 143 = .ok (.putfield 82, 3) := by decide +kernel
theorem d7_readSnippet_146 : decode b7_readSnippet 146 = .ok (.aload_n 0, 1) := by decide +kernel
theorem d7_readSnippet_147 : decode b7_readSnippet 147 = .ok (.getfield 43, 3) := by decide +kernel
theorem d7_readSnippet_150 : decode b7_readSnippet 150 = .ok (.getfield 217, 3) := by decide +kernel
theorem d7_readSnippet_153 : decode b7_readSnippet 153 = .ok (.aload_n 0, 1) := by decide +kernel
theorem d7_readSnippet_154 : decode b7_readSnippet 154 = .ok (.getfield 43, 3) := by decide +kernel
theorem d7_readSnippet_157 : decode b7_readSnippet 157 = .ok (.getfield 82, 3) := by decide +kernel
theorem d7_readSnippet_160 : decode b7_readSnippet 160 = .ok (.aload_n 0, 1) := by decide +kernel
theorem d7_readSnippet_161 : decode b7_readSnippet 161 = .ok (.getfield 156, 3) := by decide +kernel
theorem d7_readSnippet_164 : decode b7_readSnippet 164 = .ok (.iastore, 1) := by decide +kernel
theorem d7_readSnippet_165 : decode b7_readSnippet 165 = .ok (.iconst 1, 1) := by decide +kernel
theorem d7_readSnippet_166 : decode b7_readSnippet 166 = .ok (.ireturn, 1) := by decide +kernel
theorem d7_readSnippet_131 : decode b7_readSnippet 131 = .ok (.iconst 0, 1) := by decide +kernel
theorem d7_readSnippet_132 : decode b7_readSnippet 132 = .ok (.ireturn, 1) := by decide +kernel
theorem d7_readSnippet_78 : decode b7_readSnippet 78 = .ok (.aload_n 0, 1) := by decide +kernel
theorem d7_readSnippet_79 : decode b7_readSnippet 79 = .ok (.getfield 43, 3) := by decide +kernel
theorem d7_readSnippet_82 : decode b7_readSnippet 82 = .ok (.getfield 165, 3) := by decide +kernel
theorem d7_readSnippet_85 : decode b7_readSnippet 85 = .ok (.bipush 10, 2) := by decide +kernel
theorem d7_readSnippet_87 : decode b7_readSnippet 87 = .ok (.aload_n 0, 1) := by decide +kernel
theorem d7_readSnippet_88 : decode b7_readSnippet 88 = .ok (.getfield 43, 3) := by decide +kernel
theorem d7_readSnippet_91 : decode b7_readSnippet 91 = .ok (.getfield 82, 3) := by decide +kernel
theorem d7_readSnippet_94 : decode b7_readSnippet 94 = .ok (.imul, 1) := by decide +kernel
theorem d7_readSnippet_95 : decode b7_readSnippet 95 = .ok (.iload_n 1, 1) := by decide +kernel
theorem d7_readSnippet_96 : decode b7_readSnippet 96 = .ok (.iadd, 1) := by decide +kernel
theorem d7_readSnippet_97 : decode b7_readSnippet 97 = .ok (.iconst 0, 1) := by decide +kernel
theorem d7_readSnippet_98 : decode b7_readSnippet 98 = .ok (.iastore, 1) := by decide +kernel
theorem d7_readSnippet_99 : decode b7_readSnippet 99 = .ok (.iinc 1 1, 3) := by decide +kernel
theorem d7_readSnippet_102 : decode b7_readSnippet 102 = .ok (.goto (-30), 3) := by decide +kernel
theorem d7_readOrder_0 : decode b7_readOrder 0 = .ok (.aload_n 0, 1) := by decide +kernel
theorem d7_readOrder_1 : decode b7_readOrder 1 = .ok (.invokevirtual 142, 3) := by decide +kernel
theorem d7_readOrder_4 : decode b7_readOrder 4 = .ok (.aload_n 0, 1) := by decide +kernel
theorem d7_readOrder_5 : decode b7_readOrder 5 = .ok (.ldc 223, 2) := by decide +kernel
theorem d7_readOrder_7 : decode b7_readOrder 7 = .ok (.invokevirtual 225, 3) := by decide +kernel
theorem d7_readOrder_10 : decode b7_readOrder 10 = .ok (.ifCond .ne 22, 3) := by decide +kernel
theorem d7_readOrder_13 : decode b7_readOrder 13 = .ok (.aload_n 0, 1) := by decide +kernel
theorem d7_readOrder_14 : decode b7_readOrder 14 = .ok (.ldc 229, 2) := by decide +kernel
theorem d7_readOrder_16 : decode b7_readOrder 16 = .ok (.invokevirtual 225, 3) := by decide +kernel
theorem d7_readOrder_19 : decode b7_readOrder 19 = .ok (.ifCond .ne 13, 3) := by decide +kernel
theorem d7_readOrder_22 : decode b7_readOrder 22 = .ok (.aload_n 0, 1) := by decide +kernel
theorem d7_readOrder_23 : decode b7_readOrder 23 = .ok (.iconst 1, 1) := by decide +kernel
theorem d7_readOrder_24 : decode b7_readOrder 24 = .ok (.aload_n 0, 1) := by decide +kernel
theorem d7_readOrder_25 : decode b7_readOrder 25 = .ok (.getfield 113, 3) := by decide +kernel
theorem d7_readOrder_28 : decode b7_readOrder 28 = .ok (.invokevirtual 145, 3) := by decide +kernel
theorem d7_readOrder_31 : decode b7_readOrder 31 = .ok (.ireturn, 1) := by decide +kernel
theorem d7_readOrder_32 : decode b7_readOrder 32 = .ok (.aload_n 0, 1) := by decide +kernel
theorem d7_readOrder_33 : decode b7_readOrder 33 = .ok (.getfield 43, 3) := by decide +kernel
theorem d7_readOrder_36 : decode b7_readOrder 36 = .ok (.aload_n 0, 1) := by decide +kernel
theorem d7_readOrder_37 : decode b7_readOrder 37 = .ok (.ldc 229, 2) := by decide +kernel
theorem d7_readOrder_39 : decode b7_readOrder 39 = .ok (.invokevirtual 225, 3) := by decide +kernel
theorem d7_readOrder_42 : decode b7_readOrder 42 = .ok (.ifCond .eq 7, 3) := by decide +kernel
theorem d7_readOrder_49 : decode b7_readOrder 49 = .ok (.iconst 0, 1) := by decide +kernel
theorem d7_readOrder_45 : decode b7_readOrder 45 = .ok (.iconst 1, 1) := by decide +kernel
theorem d7_readOrder_46 : decode b7_readOrder 46 = .ok (.goto 4, 3) := by decide +kernel
theorem d7_readOrder_50 : decode b7_readOrder 50 = .ok (.putfield 231, 3) := by decide +kernel
theorem d7_readOrder_53 : decode b7_readOrder 53 = .ok (.aload_n 0, 1) := by decide +kernel
theorem d7_readOrder_54 : decode b7_readOrder 54 = .ok (.invokevirtual 142, 3) := by decide +kernel
theorem d7_readOrder_57 : decode b7_readOrder 57 = .ok (.aload_n 0, 1) := by decide +kernel
theorem d7_readOrder_58 : decode b7_readOrder 58 = .ok (.bipush 59, 2) := by decide +kernel
theorem d7_readOrder_60 : decode b7_readOrder 60 = .ok (.invokevirtual 214, 3) := by decide +kernel
theorem d7_readOrder_63 : decode b7_readOrder 63 = .ok (.ifCond .ne 15, 3) := by decide +kernel
theorem d7_readOrder_78 : decode b7_readOrder 78 = .ok (.iconst 1, 1) := by decide +kernel
theorem d7_readOrder_79 : decode b7_readOrder 79 = .ok (.goto 4, 3) := by decide +kernel
theorem d7_readOrder_83 : decode b7_readOrder 83 = .ok (.ireturn, 1) := by decide +kernel
theorem d7_readOrder_66 : decode b7_readOrder 66 = .ok (.aload_n 0, 1) := by decide +kernel
theorem d7_readOrder_67 : decode b7_readOrder 67 = .ok (.iconst 1, 1) := by decide +kernel
theorem d7_readOrder_68 : decode b7_readOrder 68 = .ok (.aload_n 0, 1) := by decide +kernel
theorem d7_readOrder_69 : decode b7_readOrder 69 = .ok (.getfield 113, 3) := by decide +kernel
theorem d7_readOrder_72 : decode b7_readOrder 72 = .ok (.invokevirtual 145, 3) := by decide +kernel
theorem d7_readOrder_75 : decode b7_readOrder 75 = .ok (.ifCond .eq 7, 3) := by decide +kernel
theorem d7_readOrder_82 : decode b7_readOrder 82 = .ok (.iconst 0, 1) := by decide +kernel
theorem d7_readAll_0 : decode b7_readAll 0 = .ok (.aload_n 0, 1) := by decide +kernel
theorem d7_readAll_1 : decode b7_readAll 1 = .ok (.invokevirtual 142, 3) := by decide +kernel
theorem d7_readAll_4 : decode b7_readAll 4 = .ok (.aload_n 0, 1) := by decide +kernel
theorem d7_readAll_5 : decode b7_readAll 5 = .ok (.getfield 124, 3) := by decide +kernel
theorem d7_readAll_8 : decode b7_readAll 8 = .ok (.aload_n 0, 1) := by decide +kernel
theorem d7_readAll_9 : decode b7_readAll 9 = .ok (.getfield 113, 3) := by decide +kernel
theorem d7_readAll_12 : decode b7_readAll 12 = .ok (.if_icmp .le 58, 3) := by decide +kernel
theorem d7_readAll_70 : decode b7_readAll 70 = .ok (.iconst 1, 1) := by decide +kernel
theorem d7_readAll_71 : decode b7_readAll 71 = .ok (.ireturn, 1) := by decide +kernel
theorem d7_readAll_15 : decode b7_readAll 15 = .ok (.aload_n 0, 1) := by decide +kernel
theorem d7_readAll_16 : decode b7_readAll 16 = .ok (.ldc 234, 2) := by decide +kernel
theorem d7_readAll_18 : decode b7_readAll 18 = .ok (.invokevirtual 225, 3) := by decide +kernel
theorem d7_readAll_21 : decode b7_readAll 21 = .ok (.ifCond .eq 10, 3) := by decide +kernel
theorem d7_readAll_31 : decode b7_readAll 31 = .ok (.aload_n 0, 1) := by decide +kernel
theorem d7_readAll_32 : decode b7_readAll 32 = .ok (.ldc 239, 2) := by decide +kernel
theorem d7_readAll_34 : decode b7_readAll 34 = .ok (.invokevirtual 225, 3) := by decide +kernel
theorem d7_readAll_37 : decode b7_readAll 37 = .ok (.ifCond .eq 10, 3) := by decide +kernel
theorem d7_readAll_47 : decode b7_readAll 47 = .ok (.aload_n 0, 1) := by decide +kernel
theorem d7_readAll_48 : decode b7_readAll 48 = .ok (.iconst 1, 1) := by decide +kernel
theorem d7_readAll_49 : decode b7_readAll 49 = .ok (.aload_n 0, 1) := by decide +kernel
theorem d7_readAll_50 : decode b7_readAll 50 = .ok (.getfield 113, 3) := by decide +kernel
theorem d7_readAll_53 : decode b7_readAll 53 = .ok (.invokevirtual 145, 3) := by decide +kernel
theorem d7_readAll_40 : decode b7_readAll 40 = .ok (.aload_n 0, 1) := by decide +kernel
theorem d7_readAll_41 : decode b7_readAll 41 = .ok (.invokevirtual 240, 3) := by decide +kernel
theorem d7_readAll_44 : decode b7_readAll 44 = .ok (.goto 12, 3) := by decide +kernel
theorem d7_readAll_24 : decode b7_readAll 24 = .ok (.aload_n 0, 1) := by decide +kernel
theorem d7_readAll_25 : decode b7_readAll 25 = .ok (.invokevirtual 236, 3) := by decide +kernel
theorem d7_readAll_28 : decode b7_readAll 28 = .ok (.goto 28, 3) := by decide +kernel
theorem d7_readAll_56 : decode b7_readAll 56 = .ok (.istore_n 1, 1) := by decide +kernel
theorem d7_readAll_57 : decode b7_readAll 57 = .ok (.iload_n 1, 1) := by decide +kernel
theorem d7_readAll_58 : decode b7_readAll 58 = .ok (.ifCond .ne 5, 3) := by decide +kernel
theorem d7_readAll_63 : decode b7_readAll 63 = .ok (.aload_n 0, 1) := by decide +kernel
theorem d7_readAll_64 : decode b7_readAll 64 = .ok (.invokevirtual 142, 3) := by decide +kernel
theorem d7_readAll_67 : decode b7_readAll 67 = .ok (.goto (-63), 3) := by decide +kernel
theorem d7_readAll_61 : decode b7_readAll 61 = .ok (.iconst 0, 1) := by decide +kernel
theorem d7_readAll_62 : decode b7_readAll 62 = .ok (.ireturn, 1) := by decide +kernel
theorem d7_load_0 : decode b7_load 0 = .ok (.aload_n 0, 1) := by decide +kernel
theorem d7_load_1 : decode b7_load 1 = .ok (.iconst 0, 1) := by decide +kernel
theorem d7_load_2 : decode b7_load 2 = .ok (.putfield 79, 3) := by decide +kernel
theorem d7_load_5 : decode b7_load 5 = .ok (.aload_n 0, 1) := by decide +kernel
theorem d7_load_6 : decode b7_load 6 = .ok (.iconst 0, 1) := by decide +kernel
theorem d7_load_7 : decode b7_load 7 = .ok (.putfield 104, 3) := by decide +kernel
theorem d7_load_10 : decode b7_load 10 = .ok (.aload_n 0, 1) := by decide +kernel
theorem d7_load_11 : decode b7_load 11 = .ok (.iconst (-1), 1) := by decide +kernel
theorem d7_load_12 : decode b7_load 12 = .ok (.putfield 39, 3) := by decide +kernel
theorem d7_load_15 : decode b7_load 15 = .ok (.aload_n 0, 1) := by decide +kernel
theorem d7_load_16 : decode b7_load 16 = .ok (.iconst 0, 1) := by decide +kernel
theorem d7_load_17 : decode b7_load 17 = .ok (.putfield 107, 3) := by decide +kernel
theorem d7_load_20 : decode b7_load 20 = .ok (.aload_n 0, 1) := by decide +kernel
theorem d7_load_21 : decode b7_load 21 = .ok (.iconst 0, 1) := by decide +kernel
theorem d7_load_22 : decode b7_load 22 = .ok (.putfield 156, 3) := by decide +kernel
theorem d7_load_25 : decode b7_load 25 = .ok (.aload_n 0, 1) := by decide +kernel
theorem d7_load_26 : decode b7_load 26 = .ok (.getfield 43, 3) := by decide +kernel
theorem d7_load_29 : decode b7_load 29 = .ok (.iconst 0, 1) := by decide +kernel
theorem d7_load_30 : decode b7_load 30 = .ok (.putfield 82, 3) := by decide +kernel
theorem d7_load_33 : decode b7_load 33 = .ok (.aload_n 0, 1) := by decide +kernel
theorem d7_load_34 : decode b7_load 34 = .ok (.getfield 43, 3) := by decide +kernel
theorem d7_load_37 : decode b7_load 37 = .ok (.iconst 0, 1) := by decide +kernel
theorem d7_load_38 : decode b7_load 38 = .ok (.putfield 231, 3) := by decide +kernel
theorem d7_load_41 : decode b7_load 41 = .ok (.aload_n 0, 1) := by decide +kernel
theorem d7_load_42 : decode b7_load 42 = .ok (.invokevirtual 243, 3) := by decide +kernel
theorem d7_load_45 : decode b7_load 45 = .ok (.istore_n 1, 1) := by decide +kernel
theorem d7_load_46 : decode b7_load 46 = .ok (.aload_n 0, 1) := by decide +kernel
theorem d7_load_47 : decode b7_load 47 = .ok (.iconst 0, 1) := by decide +kernel
theorem d7_load_48 : decode b7_load 48 = .ok (.putfield 93, 3) := by decide +kernel
theorem d7_load_51 : decode b7_load 51 = .ok (.iload_n 1, 1) := by decide +kernel
theorem d7_load_52 : decode b7_load 52 = .ok (.ifCond .ne 5, 3) := by decide +kernel
theorem d7_load_57 : decode b7_load 57 = .ok (.aload_n 0, 1) := by decide +kernel
theorem d7_load_58 : decode b7_load 58 = .ok (.getfield 32, 3) := by decide +kernel
theorem d7_load_61 : decode b7_load 61 = .ok (.astore_n 2, 1) := by decide +kernel
theorem d7_load_62 : decode b7_load 62 = .ok (.aload_n 0, 1) := by decide +kernel
theorem d7_load_63 : decode b7_load 63 = .ok (.aload_n 0, 1) := by decide +kernel
theorem d7_load_64 : decode b7_load 64 = .ok (.getfield 43, 3) := by decide +kernel
theorem d7_load_67 : decode b7_load 67 = .ok (.putfield 32, 3) := by decide +kernel
theorem d7_load_70 : decode b7_load 70 = .ok (.aload_n 0, 1) := by decide +kernel
theorem d7_load_71 : decode b7_load 71 = .ok (.aload_n 2, 1) := by decide +kernel
theorem d7_load_72 : decode b7_load 72 = .ok (.putfield 43, 3) := by decide +kernel
theorem d7_load_75 : decode b7_load 75 = .ok (.iconst 0, 1) := by decide +kernel
theorem d7_load_76 : decode b7_load 76 = .ok (.istore_n 3, 1) := by decide +kernel
theorem d7_load_55 : decode b7_load 55 = .ok (.iconst (-1), 1) := by decide +kernel
theorem d7_load_56 : decode b7_load 56 = .ok (.ireturn, 1) := by decide +kernel
theorem d7_load_77 : decode b7_load 77 = .ok (.iload_n 3, 1) := by decide +kernel
theorem d7_load_78 : decode b7_load 78 = .ok (.sipush 2256, 3) := by decide +kernel
theorem d7_load_81 : decode b7_load 81 = .ok (.if_icmp .ge 16, 3) := by decide +kernel
theorem d7_load_97 : decode b7_load 97 = .ok (.aload_n 0, 1) := by decide +kernel
theorem d7_load_98 : decode b7_load 98 = .ok (.getfield 7, 3) := by decide +kernel
theorem d7_load_101 : decode b7_load 101 = .ok (.iconst 1, 1) := by decide +kernel
theorem d7_load_102 : decode b7_load 102 = .ok (.aload_n 0, 1) := by decide +kernel
theorem d7_load_103 : decode b7_load 103 = .ok (.getfield 32, 3) := by decide +kernel
theorem d7_load_106 : decode b7_load 106 = .ok (.getfield 231, 3) := by decide +kernel
theorem d7_load_109 : decode b7_load 109 = .ok (.iastore, 1) := by decide +kernel
theorem d7_load_110 : decode b7_load 110 = .ok (.aload_n 0, 1) := by decide +kernel
theorem d7_load_111 : decode b7_load 111 = .ok (.iconst 0, 1) := by decide +kernel
theorem d7_load_112 : decode b7_load 112 = .ok (.putfield 246, 3) := by decide +kernel
theorem d7_load_115 : decode b7_load 115 = .ok (.aload_n 0, 1) := by decide +kernel
theorem d7_load_116 : decode b7_load 116 = .ok (.getfield 22, 3) := by decide +kernel
theorem d7_load_119 : decode b7_load 119 = .ok (.iconst 0, 1) := by decide +kernel
theorem d7_load_120 : decode b7_load 120 = .ok (.iconst 0, 1) := by decide +kernel
theorem d7_load_121 : decode b7_load 121 = .ok (.bastore, 1) := by decide +kernel
theorem d7_load_122 : decode b7_load 122 = .ok (.aload_n 0, 1) := by decide +kernel
theorem d7_load_123 : decode b7_load 123 = .ok (.getfield 22, 3) := by decide +kernel
theorem d7_load_126 : decode b7_load 126 = .ok (.iconst 1, 1) := by decide +kernel
theorem d7_load_127 : decode b7_load 127 = .ok (.iconst 0, 1) := by decide +kernel
theorem d7_load_128 : decode b7_load 128 = .ok (.bastore, 1) := by decide +kernel
theorem d7_load_129 : decode b7_load 129 = .ok (.aload_n 0, 1) := by decide +kernel
theorem d7_load_130 : decode b7_load 130 = .ok (.getfield 32, 3) := by decide +kernel
theorem d7_load_133 : decode b7_load 133 = .ok (.getfield 82, 3) := by decide +kernel
theorem d7_load_136 : decode b7_load 136 = .ok (.ireturn, 1) := by decide +kernel
theorem d7_load_84 : decode b7_load 84 = .ok (.aload_n 0, 1) := by decide +kernel
theorem d7_load_85 : decode b7_load 85 = .ok (.getfield 7, 3) := by decide +kernel
theorem d7_load_88 : decode b7_load 88 = .ok (.iload_n 3, 1) := by decide +kernel
theorem d7_load_89 : decode b7_load 89 = .ok (.iconst 0, 1) := by decide +kernel
theorem d7_load_90 : decode b7_load 90 = .ok (.iastore, 1) := by decide +kernel
theorem d7_load_91 : decode b7_load 91 = .ok (.iinc 3 1, 3) := by decide +kernel
theorem d7_load_94 : decode b7_load 94 = .ok (.goto (-17), 3) := by decide +kernel
theorem d7_errorCode_0 : decode b7_errorCode 0 = .ok (.aload_n 0, 1) := by decide +kernel
theorem d7_errorCode_1 : decode b7_errorCode 1 = .ok (.iconst 0, 1) := by decide +kernel
theorem d7_errorCode_2 : decode b7_errorCode 2 = .ok (.putfield 79, 3) := by decide +kernel
theorem d7_errorCode_5 : decode b7_errorCode 5 = .ok (.aload_n 0, 1) := by decide +kernel
theorem d7_errorCode_6 : decode b7_errorCode 6 = .ok (.getfield 104, 3) := by decide +kernel
theorem d7_errorCode_9 : decode b7_errorCode 9 = .ok (.ireturn, 1) := by decide +kernel
theorem d7_errorPosition_0 : decode b7_errorPosition 0 = .ok (.aload_n 0, 1) := by decide +kernel
theorem d7_errorPosition_1 : decode b7_errorPosition 1 = .ok (.iconst 0, 1) := by decide +kernel
theorem d7_errorPosition_2 : decode b7_errorPosition 2 = .ok (.putfield 79, 3) := by decide +kernel
theorem d7_errorPosition_5 : decode b7_errorPosition 5 = .ok (.aload_n 0, 1) := by decide +kernel
theorem d7_errorPosition_6 : decode b7_errorPosition 6 = .ok (.getfield 39, 3) := by decide +kernel
theorem d7_errorPosition_9 : decode b7_errorPosition 9 = .ok (.ireturn, 1) := by decide +kernel
theorem d7_find_0 : decode b7_find 0 = .ok (.aload_n 0, 1) := by decide +kernel
theorem d7_find_1 : decode b7_find 1 = .ok (.iconst 0, 1) := by decide +kernel
theorem d7_find_2 : decode b7_find 2 = .ok (.putfield 79, 3) := by decide +kernel
theorem d7_find_5 : decode b7_find 5 = .ok (.iconst (-1), 1) := by decide +kernel
theorem d7_find_6 : decode b7_find 6 = .ok (.istore_n 1, 1) := by decide +kernel
theorem d7_find_7 : decode b7_find 7 = .ok (.iconst 0, 1) := by decide +kernel
theorem d7_find_8 : decode b7_find 8 = .ok (.istore_n 2, 1) := by decide +kernel
theorem d7_find_9 : decode b7_find 9 = .ok (.iload_n 2, 1) := by decide +kernel
theorem d7_find_10 : decode b7_find 10 = .ok (.aload_n 0, 1) := by decide +kernel
theorem d7_find_11 : decode b7_find 11 = .ok (.getfield 32, 3) := by decide +kernel
theorem d7_find_14 : decode b7_find 14 = .ok (.getfield 82, 3) := by decide +kernel
theorem d7_find_17 : decode b7_find 17 = .ok (.if_icmp .ge 41, 3) := by decide +kernel
theorem d7_find_20 : decode b7_find 20 = .ok (.aload_n 0, 1) := by decide +kernel
theorem d7_find_21 : decode b7_find 21 = .ok (.getfield 93, 3) := by decide +kernel
theorem d7_find_24 : decode b7_find 24 = .ok (.bipush 8, 2) := by decide +kernel
theorem d7_find_26 : decode b7_find 26 = .ok (.if_icmp .gt 32, 3) := by decide +kernel
theorem d7_find_29 : decode b7_find 29 = .ok (.aload_n 0, 1) := by decide +kernel
theorem d7_find_30 : decode b7_find 30 = .ok (.aload_n 0, 1) := by decide +kernel
theorem d7_find_31 : decode b7_find 31 = .ok (.getfield 32, 3) := by decide +kernel
theorem d7_find_34 : decode b7_find 34 = .ok (.iload_n 2, 1) := by decide +kernel
theorem d7_find_35 : decode b7_find 35 = .ok (.iconst 0, 1) := by decide +kernel
theorem d7_find_36 : decode b7_find 36 = .ok (.aload_n 0, 1) := by decide +kernel
theorem d7_find_37 : decode b7_find 37 = .ok (.getfield 93, 3) := by decide +kernel
theorem d7_find_40 : decode b7_find 40 = .ok (.invokevirtual 149, 3) := by decide +kernel
theorem d7_find_43 : decode b7_find 43 = .ok (.ifCond .eq 7, 3) := by decide +kernel
theorem d7_find_50 : decode b7_find 50 = .ok (.iload_n 1, 1) := by decide +kernel
theorem d7_find_51 : decode b7_find 51 = .ok (.istore_n 1, 1) := by decide +kernel
theorem d7_find_52 : decode b7_find 52 = .ok (.iinc 2 1, 3) := by decide +kernel
theorem d7_find_55 : decode b7_find 55 = .ok (.goto (-46), 3) := by decide +kernel
theorem d7_find_46 : decode b7_find 46 = .ok (.iload_n 2, 1) := by decide +kernel
theorem d7_find_47 : decode b7_find 47 = .ok (.goto 4, 3) := by decide +kernel
theorem d7_find_58 : decode b7_find 58 = .ok (.aload_n 0, 1) := by decide +kernel
theorem d7_find_59 : decode b7_find 59 = .ok (.iconst 0, 1) := by decide +kernel
theorem d7_find_60 : decode b7_find 60 = .ok (.putfield 93, 3) := by decide +kernel
theorem d7_find_63 : decode b7_find 63 = .ok (.iload_n 1, 1) := by decide +kernel
theorem d7_find_64 : decode b7_find 64 = .ok (.ireturn, 1) := by decide +kernel
theorem d7_of_0 : decode b7_of 0 = .ok (.bipush 60, 2) := by decide +kernel
theorem d7_of_2 : decode b7_of 2 = .ok (.aload_n 0, 1) := by decide +kernel
theorem d7_of_3 : decode b7_of 3 = .ok (.getfield 249, 3) := by decide +kernel
theorem d7_of_6 : decode b7_of 6 = .ok (.imul, 1) := by decide +kernel
theorem d7_of_7 : decode b7_of 7 = .ok (.iload_n 1, 1) := by decide +kernel
theorem d7_of_8 : decode b7_of 8 = .ok (.iadd, 1) := by decide +kernel
theorem d7_of_9 : decode b7_of 9 = .ok (.ireturn, 1) := by decide +kernel
theorem d7_many_0 : decode b7_many 0 = .ok (.aload_n 0, 1) := by decide +kernel
theorem d7_many_1 : decode b7_many 1 = .ok (.getfield 32, 3) := by decide +kernel
theorem d7_many_4 : decode b7_many 4 = .ok (.getfield 171, 3) := by decide +kernel
theorem d7_many_7 : decode b7_many 7 = .ok (.aload_n 0, 1) := by decide +kernel
theorem d7_many_8 : decode b7_many 8 = .ok (.getfield 249, 3) := by decide +kernel
theorem d7_many_11 : decode b7_many 11 = .ok (.iaload, 1) := by decide +kernel
theorem d7_many_12 : decode b7_many 12 = .ok (.ireturn, 1) := by decide +kernel
theorem d7_isTyped_0 : decode b7_isTyped 0 = .ok (.aload_n 0, 1) := by decide +kernel
theorem d7_isTyped_1 : decode b7_isTyped 1 = .ok (.getfield 251, 3) := by decide +kernel
theorem d7_isTyped_4 : decode b7_isTyped 4 = .ok (.iconst (-1), 1) := by decide +kernel
theorem d7_isTyped_5 : decode b7_isTyped 5 = .ok (.if_icmp .eq 25, 3) := by decide +kernel
theorem d7_isTyped_30 : decode b7_isTyped 30 = .ok (.iconst 0, 1) := by decide +kernel
theorem d7_isTyped_31 : decode b7_isTyped 31 = .ok (.ireturn, 1) := by decide +kernel
theorem d7_isTyped_8 : decode b7_isTyped 8 = .ok (.aload_n 0, 1) := by decide +kernel
theorem d7_isTyped_9 : decode b7_isTyped 9 = .ok (.getfield 7, 3) := by decide +kernel
theorem d7_isTyped_12 : decode b7_isTyped 12 = .ok (.aload_n 0, 1) := by decide +kernel
theorem d7_isTyped_13 : decode b7_isTyped 13 = .ok (.getfield 251, 3) := by decide +kernel
theorem d7_isTyped_16 : decode b7_isTyped 16 = .ok (.iconst 2, 1) := by decide +kernel
theorem d7_isTyped_17 : decode b7_isTyped 17 = .ok (.iadd, 1) := by decide +kernel
theorem d7_isTyped_18 : decode b7_isTyped 18 = .ok (.iaload, 1) := by decide +kernel
theorem d7_isTyped_19 : decode b7_isTyped 19 = .ok (.iload_n 1, 1) := by decide +kernel
theorem d7_isTyped_20 : decode b7_isTyped 20 = .ok (.invokestatic 168, 3) := by decide +kernel
theorem d7_isTyped_23 : decode b7_isTyped 23 = .ok (.ifCond .eq 7, 3) := by decide +kernel
theorem d7_isTyped_26 : decode b7_isTyped 26 = .ok (.iconst 1, 1) := by decide +kernel
theorem d7_isTyped_27 : decode b7_isTyped 27 = .ok (.goto 4, 3) := by decide +kernel
theorem d7_shows_0 : decode b7_shows 0 = .ok (.iconst 0, 1) := by decide +kernel
theorem d7_shows_1 : decode b7_shows 1 = .ok (.istore_n 1, 1) := by decide +kernel
theorem d7_shows_2 : decode b7_shows 2 = .ok (.iload_n 1, 1) := by decide +kernel
theorem d7_shows_3 : decode b7_shows 3 = .ok (.bipush 10, 2) := by decide +kernel
theorem d7_shows_5 : decode b7_shows 5 = .ok (.if_icmp .ge 30, 3) := by decide +kernel
theorem d7_shows_35 : decode b7_shows 35 = .ok (.aload_n 0, 1) := by decide +kernel
theorem d7_shows_36 : decode b7_shows 36 = .ok (.iconst 0, 1) := by decide +kernel
theorem d7_shows_37 : decode b7_shows 37 = .ok (.putfield 257, 3) := by decide +kernel
theorem d7_shows_40 : decode b7_shows 40 = .ok (.iconst 0, 1) := by decide +kernel
theorem d7_shows_41 : decode b7_shows 41 = .ok (.istore_n 1, 1) := by decide +kernel
theorem d7_shows_8 : decode b7_shows 8 = .ok (.aload_n 0, 1) := by decide +kernel
theorem d7_shows_9 : decode b7_shows 9 = .ok (.getfield 55, 3) := by decide +kernel
theorem d7_shows_12 : decode b7_shows 12 = .ok (.iload_n 1, 1) := by decide +kernel
theorem d7_shows_13 : decode b7_shows 13 = .ok (.iconst (-1), 1) := by decide +kernel
theorem d7_shows_14 : decode b7_shows 14 = .ok (.iastore, 1) := by decide +kernel
theorem d7_shows_15 : decode b7_shows 15 = .ok (.aload_n 0, 1) := by decide +kernel
theorem d7_shows_16 : decode b7_shows 16 = .ok (.getfield 58, 3) := by decide +kernel
theorem d7_shows_19 : decode b7_shows 19 = .ok (.iload_n 1, 1) := by decide +kernel
theorem d7_shows_20 : decode b7_shows 20 = .ok (.iconst (-1), 1) := by decide +kernel
theorem d7_shows_21 : decode b7_shows 21 = .ok (.iastore, 1) := by decide +kernel
theorem d7_shows_22 : decode b7_shows 22 = .ok (.aload_n 0, 1) := by decide +kernel
theorem d7_shows_23 : decode b7_shows 23 = .ok (.getfield 67, 3) := by decide +kernel
theorem d7_shows_26 : decode b7_shows 26 = .ok (.iload_n 1, 1) := by decide +kernel
theorem d7_shows_27 : decode b7_shows 27 = .ok (.iconst 0, 1) := by decide +kernel
theorem d7_shows_28 : decode b7_shows 28 = .ok (.bastore, 1) := by decide +kernel
theorem d7_shows_29 : decode b7_shows 29 = .ok (.iinc 1 1, 3) := by decide +kernel
theorem d7_shows_32 : decode b7_shows 32 = .ok (.goto (-30), 3) := by decide +kernel
theorem d7_shows_42 : decode b7_shows 42 = .ok (.iload_n 1, 1) := by decide +kernel
theorem d7_shows_43 : decode b7_shows 43 = .ok (.aload_n 0, 1) := by decide +kernel
theorem d7_shows_44 : decode b7_shows 44 = .ok (.invokevirtual 260, 3) := by decide +kernel
theorem d7_shows_47 : decode b7_shows 47 = .ok (.if_icmp .ge 166, 3) := by decide +kernel
theorem d7_shows_213 : decode b7_shows 213 = .ok (.return_, 1) := by decide +kernel
theorem d7_shows_50 : decode b7_shows 50 = .ok (.aload_n 0, 1) := by decide +kernel
theorem d7_shows_51 : decode b7_shows 51 = .ok (.iload_n 1, 1) := by decide +kernel
theorem d7_shows_52 : decode b7_shows 52 = .ok (.invokevirtual 262, 3) := by decide +kernel
theorem d7_shows_55 : decode b7_shows 55 = .ok (.istore_n 2, 1) := by decide +kernel
theorem d7_shows_56 : decode b7_shows 56 = .ok (.aload_n 0, 1) := by decide +kernel
theorem d7_shows_57 : decode b7_shows 57 = .ok (.getfield 32, 3) := by decide +kernel
theorem d7_shows_60 : decode b7_shows 60 = .ok (.getfield 162, 3) := by decide +kernel
theorem d7_shows_63 : decode b7_shows 63 = .ok (.iload_n 2, 1) := by decide +kernel
theorem d7_shows_64 : decode b7_shows 64 = .ok (.iaload, 1) := by decide +kernel
theorem d7_shows_65 : decode b7_shows 65 = .ok (.istore_n 3, 1) := by decide +kernel
theorem d7_shows_66 : decode b7_shows 66 = .ok (.aload_n 0, 1) := by decide +kernel
theorem d7_shows_67 : decode b7_shows 67 = .ok (.getfield 49, 3) := by decide +kernel
theorem d7_shows_70 : decode b7_shows 70 = .ok (.iload_n 1, 1) := by decide +kernel
theorem d7_shows_71 : decode b7_shows 71 = .ok (.aload_n 0, 1) := by decide +kernel
theorem d7_shows_72 : decode b7_shows 72 = .ok (.getfield 32, 3) := by decide +kernel
theorem d7_shows_75 : decode b7_shows 75 = .ok (.getfield 183, 3) := by decide +kernel
theorem d7_shows_78 : decode b7_shows 78 = .ok (.iload_n 2, 1) := by decide +kernel
theorem d7_shows_79 : decode b7_shows 79 = .ok (.iaload, 1) := by decide +kernel
theorem d7_shows_80 : decode b7_shows 80 = .ok (.iconst (-1), 1) := by decide +kernel
theorem d7_shows_81 : decode b7_shows 81 = .ok (.if_icmp .eq 20, 3) := by decide +kernel
theorem d7_shows_101 : decode b7_shows 101 = .ok (.iconst 1, 1) := by decide +kernel
theorem d7_shows_102 : decode b7_shows 102 = .ok (.goto 4, 3) := by decide +kernel
theorem d7_shows_84 : decode b7_shows 84 = .ok (.aload_n 0, 1) := by decide +kernel
theorem d7_shows_85 : decode b7_shows 85 = .ok (.getfield 52, 3) := by decide +kernel
theorem d7_shows_88 : decode b7_shows 88 = .ok (.aload_n 0, 1) := by decide +kernel
theorem d7_shows_89 : decode b7_shows 89 = .ok (.getfield 32, 3) := by decide +kernel
theorem d7_shows_92 : decode b7_shows 92 = .ok (.getfield 183, 3) := by decide +kernel
theorem d7_shows_95 : decode b7_shows 95 = .ok (.iload_n 2, 1) := by decide +kernel
theorem d7_shows_96 : decode b7_shows 96 = .ok (.iaload, 1) := by decide +kernel
theorem d7_shows_97 : decode b7_shows 97 = .ok (.baload, 1) := by decide +kernel
theorem d7_shows_98 : decode b7_shows 98 = .ok (.ifCond .eq 7, 3) := by decide +kernel
theorem d7_shows_105 : decode b7_shows 105 = .ok (.iconst 0, 1) := by decide +kernel
theorem d7_shows_106 : decode b7_shows 106 = .ok (.bastore, 1) := by decide +kernel
theorem d7_shows_107 : decode b7_shows 107 = .ok (.aload_n 0, 1) := by decide +kernel
theorem d7_shows_108 : decode b7_shows 108 = .ok (.getfield 52, 3) := by decide +kernel
theorem d7_shows_111 : decode b7_shows 111 = .ok (.iload_n 1, 1) := by decide +kernel
theorem d7_shows_112 : decode b7_shows 112 = .ok (.aload_n 0, 1) := by decide +kernel
theorem d7_shows_113 : decode b7_shows 113 = .ok (.getfield 32, 3) := by decide +kernel
theorem d7_shows_116 : decode b7_shows 116 = .ok (.getfield 180, 3) := by decide +kernel
theorem d7_shows_119 : decode b7_shows 119 = .ok (.iload_n 2, 1) := by decide +kernel
theorem d7_shows_120 : decode b7_shows 120 = .ok (.baload, 1) := by decide +kernel
theorem d7_shows_121 : decode b7_shows 121 = .ok (.ifCond .eq 34, 3) := by decide +kernel
theorem d7_shows_124 : decode b7_shows 124 = .ok (.aload_n 0, 1) := by decide +kernel
theorem d7_shows_125 : decode b7_shows 125 = .ok (.getfield 49, 3) := by decide +kernel
theorem d7_shows_128 : decode b7_shows 128 = .ok (.iload_n 1, 1) := by decide +kernel
theorem d7_shows_129 : decode b7_shows 129 = .ok (.baload, 1) := by decide +kernel
theorem d7_shows_130 : decode b7_shows 130 = .ok (.ifCond .eq 25, 3) := by decide +kernel
theorem d7_shows_133 : decode b7_shows 133 = .ok (.aload_n 0, 1) := by decide +kernel
theorem d7_shows_134 : decode b7_shows 134 = .ok (.iload_n 3, 1) := by decide +kernel
theorem d7_shows_135 : decode b7_shows 135 = .ok (.invokevirtual 265, 3) := by decide +kernel
theorem d7_shows_138 : decode b7_shows 138 = .ok (.ifCond .ne 17, 3) := by decide +kernel
theorem d7_shows_141 : decode b7_shows 141 = .ok (.aload_n 0, 1) := by decide +kernel
theorem d7_shows_142 : decode b7_shows 142 = .ok (.getfield 55, 3) := by decide +kernel
theorem d7_shows_145 : decode b7_shows 145 = .ok (.iload_n 3, 1) := by decide +kernel
theorem d7_shows_146 : decode b7_shows 146 = .ok (.iaload, 1) := by decide +kernel
theorem d7_shows_147 : decode b7_shows 147 = .ok (.iconst (-1), 1) := by decide +kernel
theorem d7_shows_148 : decode b7_shows 148 = .ok (.if_icmp .ne 7, 3) := by decide +kernel
theorem d7_shows_151 : decode b7_shows 151 = .ok (.iconst 1, 1) := by decide +kernel
theorem d7_shows_152 : decode b7_shows 152 = .ok (.goto 4, 3) := by decide +kernel
theorem d7_shows_155 : decode b7_shows 155 = .ok (.iconst 0, 1) := by decide +kernel
theorem d7_shows_156 : decode b7_shows 156 = .ok (.bastore, 1) := by decide +kernel
theorem d7_shows_157 : decode b7_shows 157 = .ok (.aload_n 0, 1) := by decide +kernel
theorem d7_shows_158 : decode b7_shows 158 = .ok (.getfield 55, 3) := by decide +kernel
theorem d7_shows_161 : decode b7_shows 161 = .ok (.iload_n 3, 1) := by decide +kernel
theorem d7_shows_162 : decode b7_shows 162 = .ok (.aload_n 0, 1) := by decide +kernel
theorem d7_shows_163 : decode b7_shows 163 = .ok (.getfield 52, 3) := by decide +kernel
theorem d7_shows_166 : decode b7_shows 166 = .ok (.iload_n 1, 1) := by decide +kernel
theorem d7_shows_167 : decode b7_shows 167 = .ok (.baload, 1) := by decide +kernel
theorem d7_shows_168 : decode b7_shows 168 = .ok (.ifCond .eq 7, 3) := by decide +kernel
theorem d7_shows_175 : decode b7_shows 175 = .ok (.aload_n 0, 1) := by decide +kernel
theorem d7_shows_176 : decode b7_shows 176 = .ok (.getfield 55, 3) := by decide +kernel
theorem d7_shows_179 : decode b7_shows 179 = .ok (.iload_n 3, 1) := by decide +kernel
theorem d7_shows_180 : decode b7_shows 180 = .ok (.iaload, 1) := by decide +kernel
theorem d7_shows_171 : decode b7_shows 171 = .ok (.iload_n 1, 1) := by decide +kernel
theorem d7_shows_172 : decode b7_shows 172 = .ok (.goto 9, 3) := by decide +kernel
theorem d7_shows_181 : decode b7_shows 181 = .ok (.iastore, 1) := by decide +kernel
theorem d7_shows_182 : decode b7_shows 182 = .ok (.aload_n 0, 1) := by decide +kernel
theorem d7_shows_183 : decode b7_shows 183 = .ok (.dup, 1) := by decide +kernel
theorem d7_shows_184 : decode b7_shows 184 = .ok (.getfield 257, 3) := by decide +kernel
theorem d7_shows_187 : decode b7_shows 187 = .ok (.aload_n 0, 1) := by decide +kernel
theorem d7_shows_188 : decode b7_shows 188 = .ok (.getfield 49, 3) := by decide +kernel
theorem d7_shows_191 : decode b7_shows 191 = .ok (.iload_n 1, 1) := by decide +kernel
theorem d7_shows_192 : decode b7_shows 192 = .ok (.baload, 1) := by decide +kernel
theorem d7_shows_193 : decode b7_shows 193 = .ok (.ifCond .eq 9, 3) := by decide +kernel
theorem d7_shows_202 : decode b7_shows 202 = .ok (.iconst 0, 1) := by decide +kernel
theorem d7_shows_196 : decode b7_shows 196 = .ok (.iconst 1, 1) := by decide +kernel
theorem d7_shows_197 : decode b7_shows 197 = .ok (.iload_n 3, 1) := by decide +kernel
theorem d7_shows_198 : decode b7_shows 198 = .ok (.ishl, 1) := by decide +kernel
theorem d7_shows_199 : decode b7_shows 199 = .ok (.goto 4, 3) := by decide +kernel
theorem d7_shows_203 : decode b7_shows 203 = .ok (.ior, 1) := by decide +kernel
theorem d7_shows_204 : decode b7_shows 204 = .ok (.putfield 257, 3) := by decide +kernel
theorem d7_shows_207 : decode b7_shows 207 = .ok (.iinc 1 1, 3) := by decide +kernel
theorem d7_shows_210 : decode b7_shows 210 = .ok (.goto (-168), 3) := by decide +kernel
theorem d7_lays_0 : decode b7_lays 0 = .ok (.aload_n 0, 1) := by decide +kernel
theorem d7_lays_1 : decode b7_lays 1 = .ok (.sipush 604, 3) := by decide +kernel
theorem d7_lays_4 : decode b7_lays 4 = .ok (.sipush 413, 3) := by decide +kernel
theorem d7_lays_7 : decode b7_lays 7 = .ok (.iload_n 1, 1) := by decide +kernel
theorem d7_lays_8 : decode b7_lays 8 = .ok (.imul, 1) := by decide +kernel
theorem d7_lays_9 : decode b7_lays 9 = .ok (.iadd, 1) := by decide +kernel
theorem d7_lays_10 : decode b7_lays 10 = .ok (.putfield 251, 3) := by decide +kernel
theorem d7_lays_13 : decode b7_lays 13 = .ok (.aload_n 0, 1) := by decide +kernel
theorem d7_lays_14 : decode b7_lays 14 = .ok (.aload_n 0, 1) := by decide +kernel
theorem d7_lays_15 : decode b7_lays 15 = .ok (.getfield 7, 3) := by decide +kernel
theorem d7_lays_18 : decode b7_lays 18 = .ok (.aload_n 0, 1) := by decide +kernel
theorem d7_lays_19 : decode b7_lays 19 = .ok (.getfield 251, 3) := by decide +kernel
theorem d7_lays_22 : decode b7_lays 22 = .ok (.iconst 0, 1) := by decide +kernel
theorem d7_lays_23 : decode b7_lays 23 = .ok (.iadd, 1) := by decide +kernel
theorem d7_lays_24 : decode b7_lays 24 = .ok (.iaload, 1) := by decide +kernel
theorem d7_lays_25 : decode b7_lays 25 = .ok (.putfield 249, 3) := by decide +kernel
theorem d7_lays_28 : decode b7_lays 28 = .ok (.aload_n 0, 1) := by decide +kernel
theorem d7_lays_29 : decode b7_lays 29 = .ok (.invokevirtual 254, 3) := by decide +kernel
theorem d7_lays_32 : decode b7_lays 32 = .ok (.return_, 1) := by decide +kernel
theorem d7_laysBare_0 : decode b7_laysBare 0 = .ok (.aload_n 0, 1) := by decide +kernel
theorem d7_laysBare_1 : decode b7_laysBare 1 = .ok (.iconst (-1), 1) := by decide +kernel
theorem d7_laysBare_2 : decode b7_laysBare 2 = .ok (.putfield 251, 3) := by decide +kernel
theorem d7_laysBare_5 : decode b7_laysBare 5 = .ok (.aload_n 0, 1) := by decide +kernel
theorem d7_laysBare_6 : decode b7_laysBare 6 = .ok (.iload_n 1, 1) := by decide +kernel
theorem d7_laysBare_7 : decode b7_laysBare 7 = .ok (.putfield 249, 3) := by decide +kernel
theorem d7_laysBare_10 : decode b7_laysBare 10 = .ok (.aload_n 0, 1) := by decide +kernel
theorem d7_laysBare_11 : decode b7_laysBare 11 = .ok (.invokevirtual 254, 3) := by decide +kernel
theorem d7_laysBare_14 : decode b7_laysBare 14 = .ok (.return_, 1) := by decide +kernel
theorem d7_sum_0 : decode b7_sum 0 = .ok (.iload_n 0, 1) := by decide +kernel
theorem d7_sum_1 : decode b7_sum 1 = .ok (.iload_n 1, 1) := by decide +kernel
theorem d7_sum_2 : decode b7_sum 2 = .ok (.iadd, 1) := by decide +kernel
theorem d7_sum_3 : decode b7_sum 3 = .ok (.ldc_w 268, 3) := by decide +kernel
theorem d7_sum_6 : decode b7_sum 6 = .ok (.if_icmp .le 9, 3) := by decide +kernel
theorem d7_sum_15 : decode b7_sum 15 = .ok (.iload_n 0, 1) := by decide +kernel
theorem d7_sum_16 : decode b7_sum 16 = .ok (.iload_n 1, 1) := by decide +kernel
theorem d7_sum_17 : decode b7_sum 17 = .ok (.iadd, 1) := by decide +kernel
theorem d7_sum_18 : decode b7_sum 18 = .ok (.ireturn, 1) := by decide +kernel
theorem d7_sum_9 : decode b7_sum 9 = .ok (.ldc_w 268, 3) := by decide +kernel
theorem d7_sum_12 : decode b7_sum 12 = .ok (.goto 6, 3) := by decide +kernel
theorem d7_changed_0 : decode b7_changed 0 = .ok (.iload_n 0, 1) := by decide +kernel
theorem d7_changed_1 : decode b7_changed 1 = .ok (.iconst 4, 1) := by decide +kernel
theorem d7_changed_2 : decode b7_changed 2 = .ok (.if_icmp .ne 13, 3) := by decide +kernel
theorem d7_changed_15 : decode b7_changed 15 = .ok (.iload_n 0, 1) := by decide +kernel
theorem d7_changed_16 : decode b7_changed 16 = .ok (.iconst 5, 1) := by decide +kernel
theorem d7_changed_17 : decode b7_changed 17 = .ok (.if_icmp .eq 5, 3) := by decide +kernel
theorem d7_changed_22 : decode b7_changed 22 = .ok (.iconst 1, 1) := by decide +kernel
theorem d7_changed_23 : decode b7_changed 23 = .ok (.istore_n 2, 1) := by decide +kernel
theorem d7_changed_24 : decode b7_changed 24 = .ok (.iload_n 1, 1) := by decide +kernel
theorem d7_changed_25 : decode b7_changed 25 = .ok (.istore_n 3, 1) := by decide +kernel
theorem d7_changed_20 : decode b7_changed 20 = .ok (.iload_n 1, 1) := by decide +kernel
theorem d7_changed_21 : decode b7_changed 21 = .ok (.ireturn, 1) := by decide +kernel
theorem d7_changed_5 : decode b7_changed 5 = .ok (.iload_n 1, 1) := by decide +kernel
theorem d7_changed_6 : decode b7_changed 6 = .ok (.ifCond .le 7, 3) := by decide +kernel
theorem d7_changed_13 : decode b7_changed 13 = .ok (.iconst 0, 1) := by decide +kernel
theorem d7_changed_14 : decode b7_changed 14 = .ok (.ireturn, 1) := by decide +kernel
theorem d7_changed_9 : decode b7_changed 9 = .ok (.iconst 1, 1) := by decide +kernel
theorem d7_changed_10 : decode b7_changed 10 = .ok (.goto 4, 3) := by decide +kernel
theorem d7_changed_26 : decode b7_changed 26 = .ok (.iload_n 3, 1) := by decide +kernel
theorem d7_changed_27 : decode b7_changed 27 = .ok (.bipush 9, 2) := by decide +kernel
theorem d7_changed_29 : decode b7_changed 29 = .ok (.if_icmp .le 14, 3) := by decide +kernel
theorem d7_changed_43 : decode b7_changed 43 = .ok (.iload_n 2, 1) := by decide +kernel
theorem d7_changed_44 : decode b7_changed 44 = .ok (.ireturn, 1) := by decide +kernel
theorem d7_changed_32 : decode b7_changed 32 = .ok (.iinc 2 1, 3) := by decide +kernel
theorem d7_changed_35 : decode b7_changed 35 = .ok (.iload_n 3, 1) := by decide +kernel
theorem d7_changed_36 : decode b7_changed 36 = .ok (.bipush 10, 2) := by decide +kernel
theorem d7_changed_38 : decode b7_changed 38 = .ok (.idiv, 1) := by decide +kernel
theorem d7_changed_39 : decode b7_changed 39 = .ok (.istore_n 3, 1) := by decide +kernel
theorem d7_changed_40 : decode b7_changed 40 = .ok (.goto (-14), 3) := by decide +kernel
theorem d7_valueLength_0 : decode b7_valueLength 0 = .ok (.aload_n 0, 1) := by decide +kernel
theorem d7_valueLength_1 : decode b7_valueLength 1 = .ok (.getfield 58, 3) := by decide +kernel
theorem d7_valueLength_4 : decode b7_valueLength 4 = .ok (.iload_n 1, 1) := by decide +kernel
theorem d7_valueLength_5 : decode b7_valueLength 5 = .ok (.iaload, 1) := by decide +kernel
theorem d7_valueLength_6 : decode b7_valueLength 6 = .ok (.iconst (-1), 1) := by decide +kernel
theorem d7_valueLength_7 : decode b7_valueLength 7 = .ok (.if_icmp .ne 81, 3) := by decide +kernel
theorem d7_valueLength_10 : decode b7_valueLength 10 = .ok (.aload_n 0, 1) := by decide +kernel
theorem d7_valueLength_11 : decode b7_valueLength 11 = .ok (.getfield 55, 3) := by decide +kernel
theorem d7_valueLength_14 : decode b7_valueLength 14 = .ok (.iload_n 1, 1) := by decide +kernel
theorem d7_valueLength_15 : decode b7_valueLength 15 = .ok (.iaload, 1) := by decide +kernel
theorem d7_valueLength_16 : decode b7_valueLength 16 = .ok (.istore_n 2, 1) := by decide +kernel
theorem d7_valueLength_17 : decode b7_valueLength 17 = .ok (.aload_n 0, 1) := by decide +kernel
theorem d7_valueLength_18 : decode b7_valueLength 18 = .ok (.getfield 58, 3) := by decide +kernel
theorem d7_valueLength_21 : decode b7_valueLength 21 = .ok (.iload_n 1, 1) := by decide +kernel
theorem d7_valueLength_22 : decode b7_valueLength 22 = .ok (.aload_n 0, 1) := by decide +kernel
theorem d7_valueLength_23 : decode b7_valueLength 23 = .ok (.iload_n 1, 1) := by decide +kernel
theorem d7_valueLength_24 : decode b7_valueLength 24 = .ok (.invokevirtual 265, 3) := by decide +kernel
theorem d7_valueLength_27 : decode b7_valueLength 27 = .ok (.ifCond .eq 19, 3) := by decide +kernel
theorem d7_valueLength_46 : decode b7_valueLength 46 = .ok (.iload_n 2, 1) := by decide +kernel
theorem d7_valueLength_47 : decode b7_valueLength 47 = .ok (.iconst (-1), 1) := by decide +kernel
theorem d7_valueLength_48 : decode b7_valueLength 48 = .ok (.if_icmp .ne 7, 3) := by decide +kernel
theorem d7_valueLength_55 : decode b7_valueLength 55 = .ok (.aload_n 0, 1) := by decide +kernel
theorem d7_valueLength_56 : decode b7_valueLength 56 = .ok (.aload_n 0, 1) := by decide +kernel
theorem d7_valueLength_57 : decode b7_valueLength 57 = .ok (.getfield 32, 3) := by decide +kernel
theorem d7_valueLength_60 : decode b7_valueLength 60 = .ok (.getfield 186, 3) := by decide +kernel
theorem d7_valueLength_63 : decode b7_valueLength 63 = .ok (.aload_n 0, 1) := by decide +kernel
theorem d7_valueLength_64 : decode b7_valueLength 64 = .ok (.iload_n 2, 1) := by decide +kernel
theorem d7_valueLength_65 : decode b7_valueLength 65 = .ok (.invokevirtual 262, 3) := by decide +kernel
theorem d7_valueLength_68 : decode b7_valueLength 68 = .ok (.iaload, 1) := by decide +kernel
theorem d7_valueLength_69 : decode b7_valueLength 69 = .ok (.iconst 1, 1) := by decide +kernel
theorem d7_valueLength_70 : decode b7_valueLength 70 = .ok (.iadd, 1) := by decide +kernel
theorem d7_valueLength_71 : decode b7_valueLength 71 = .ok (.aload_n 0, 1) := by decide +kernel
theorem d7_valueLength_72 : decode b7_valueLength 72 = .ok (.getfield 32, 3) := by decide +kernel
theorem d7_valueLength_75 : decode b7_valueLength 75 = .ok (.getfield 189, 3) := by decide +kernel
theorem d7_valueLength_78 : decode b7_valueLength 78 = .ok (.aload_n 0, 1) := by decide +kernel
theorem d7_valueLength_79 : decode b7_valueLength 79 = .ok (.iload_n 2, 1) := by decide +kernel
theorem d7_valueLength_80 : decode b7_valueLength 80 = .ok (.invokevirtual 262, 3) := by decide +kernel
theorem d7_valueLength_83 : decode b7_valueLength 83 = .ok (.iaload, 1) := by decide +kernel
theorem d7_valueLength_84 : decode b7_valueLength 84 = .ok (.invokevirtual 269, 3) := by decide +kernel
theorem d7_valueLength_51 : decode b7_valueLength 51 = .ok (.iconst 0, 1) := by decide +kernel
theorem d7_valueLength_52 : decode b7_valueLength 52 = .ok (.goto 35, 3) := by decide +kernel
theorem d7_valueLength_30 : decode b7_valueLength 30 = .ok (.aload_n 0, 1) := by decide +kernel
theorem d7_valueLength_31 : decode b7_valueLength 31 = .ok (.getfield 7, 3) := by decide +kernel
theorem d7_valueLength_34 : decode b7_valueLength 34 = .ok (.aload_n 0, 1) := by decide +kernel
theorem d7_valueLength_35 : decode b7_valueLength 35 = .ok (.getfield 251, 3) := by decide +kernel
theorem d7_valueLength_38 : decode b7_valueLength 38 = .ok (.iconst 3, 1) := by decide +kernel
theorem d7_valueLength_39 : decode b7_valueLength 39 = .ok (.iadd, 1) := by decide +kernel
theorem d7_valueLength_40 : decode b7_valueLength 40 = .ok (.iload_n 1, 1) := by decide +kernel
theorem d7_valueLength_41 : decode b7_valueLength 41 = .ok (.iadd, 1) := by decide +kernel
theorem d7_valueLength_42 : decode b7_valueLength 42 = .ok (.iaload, 1) := by decide +kernel
theorem d7_valueLength_43 : decode b7_valueLength 43 = .ok (.goto 44, 3) := by decide +kernel
theorem d7_valueLength_88 : decode b7_valueLength 88 = .ok (.aload_n 0, 1) := by decide +kernel
theorem d7_valueLength_89 : decode b7_valueLength 89 = .ok (.getfield 58, 3) := by decide +kernel
theorem d7_valueLength_92 : decode b7_valueLength 92 = .ok (.iload_n 1, 1) := by decide +kernel
theorem d7_valueLength_93 : decode b7_valueLength 93 = .ok (.iaload, 1) := by decide +kernel
theorem d7_valueLength_94 : decode b7_valueLength 94 = .ok (.ireturn, 1) := by decide +kernel
theorem d7_valueLength_87 : decode b7_valueLength 87 = .ok (.iastore, 1) := by decide +kernel
theorem d7_lengthAt_0 : decode b7_lengthAt 0 = .ok (.aload_n 0, 1) := by decide +kernel
theorem d7_lengthAt_1 : decode b7_lengthAt 1 = .ok (.getfield 32, 3) := by decide +kernel
theorem d7_lengthAt_4 : decode b7_lengthAt 4 = .ok (.getfield 177, 3) := by decide +kernel
theorem d7_lengthAt_7 : decode b7_lengthAt 7 = .ok (.aload_n 0, 1) := by decide +kernel
theorem d7_lengthAt_8 : decode b7_lengthAt 8 = .ok (.iload_n 1, 1) := by decide +kernel
theorem d7_lengthAt_9 : decode b7_lengthAt 9 = .ok (.invokevirtual 262, 3) := by decide +kernel
theorem d7_lengthAt_12 : decode b7_lengthAt 12 = .ok (.iaload, 1) := by decide +kernel
theorem d7_lengthAt_13 : decode b7_lengthAt 13 = .ok (.aload_n 0, 1) := by decide +kernel
theorem d7_lengthAt_14 : decode b7_lengthAt 14 = .ok (.aload_n 0, 1) := by decide +kernel
theorem d7_lengthAt_15 : decode b7_lengthAt 15 = .ok (.getfield 32, 3) := by decide +kernel
theorem d7_lengthAt_18 : decode b7_lengthAt 18 = .ok (.getfield 162, 3) := by decide +kernel
theorem d7_lengthAt_21 : decode b7_lengthAt 21 = .ok (.aload_n 0, 1) := by decide +kernel
theorem d7_lengthAt_22 : decode b7_lengthAt 22 = .ok (.iload_n 1, 1) := by decide +kernel
theorem d7_lengthAt_23 : decode b7_lengthAt 23 = .ok (.invokevirtual 262, 3) := by decide +kernel
theorem d7_lengthAt_26 : decode b7_lengthAt 26 = .ok (.iaload, 1) := by decide +kernel
theorem d7_lengthAt_27 : decode b7_lengthAt 27 = .ok (.invokevirtual 273, 3) := by decide +kernel
theorem d7_lengthAt_30 : decode b7_lengthAt 30 = .ok (.invokestatic 276, 3) := by decide +kernel
theorem d7_lengthAt_33 : decode b7_lengthAt 33 = .ok (.ireturn, 1) := by decide +kernel
theorem d7_bodyLength_0 : decode b7_bodyLength 0 = .ok (.iconst 0, 1) := by decide +kernel
theorem d7_bodyLength_1 : decode b7_bodyLength 1 = .ok (.istore_n 3, 1) := by decide +kernel
theorem d7_bodyLength_2 : decode b7_bodyLength 2 = .ok (.iload_n 1, 1) := by decide +kernel
theorem d7_bodyLength_3 : decode b7_bodyLength 3 = .ok (.istore 4, 2) := by decide +kernel
theorem d7_bodyLength_5 : decode b7_bodyLength 5 = .ok (.iload 4, 2) := by decide +kernel
theorem d7_bodyLength_7 : decode b7_bodyLength 7 = .ok (.iload_n 2, 1) := by decide +kernel
theorem d7_bodyLength_8 : decode b7_bodyLength 8 = .ok (.if_icmp .ge 75, 3) := by decide +kernel
theorem d7_bodyLength_83 : decode b7_bodyLength 83 = .ok (.iload_n 3, 1) := by decide +kernel
theorem d7_bodyLength_84 : decode b7_bodyLength 84 = .ok (.ireturn, 1) := by decide +kernel
theorem d7_bodyLength_11 : decode b7_bodyLength 11 = .ok (.aload_n 0, 1) := by decide +kernel
theorem d7_bodyLength_12 : decode b7_bodyLength 12 = .ok (.getfield 32, 3) := by decide +kernel
theorem d7_bodyLength_15 : decode b7_bodyLength 15 = .ok (.getfield 153, 3) := by decide +kernel
theorem d7_bodyLength_18 : decode b7_bodyLength 18 = .ok (.iload 4, 2) := by decide +kernel
theorem d7_bodyLength_20 : decode b7_bodyLength 20 = .ok (.iaload, 1) := by decide +kernel
theorem d7_bodyLength_21 : decode b7_bodyLength 21 = .ok (.istore 5, 2) := by decide +kernel
theorem d7_bodyLength_23 : decode b7_bodyLength 23 = .ok (.iload 5, 2) := by decide +kernel
theorem d7_bodyLength_25 : decode b7_bodyLength 25 = .ok (.sipush 1000, 3) := by decide +kernel
theorem d7_bodyLength_28 : decode b7_bodyLength 28 = .ok (.if_icmp .lt 43, 3) := by decide +kernel
theorem d7_bodyLength_71 : decode b7_bodyLength 71 = .ok (.iload_n 3, 1) := by decide +kernel
theorem d7_bodyLength_72 : decode b7_bodyLength 72 = .ok (.iconst 1, 1) := by decide +kernel
theorem d7_bodyLength_73 : decode b7_bodyLength 73 = .ok (.invokestatic 282, 3) := by decide +kernel
theorem d7_bodyLength_76 : decode b7_bodyLength 76 = .ok (.istore_n 3, 1) := by decide +kernel
theorem d7_bodyLength_77 : decode b7_bodyLength 77 = .ok (.iinc 4 1, 3) := by decide +kernel
theorem d7_bodyLength_80 : decode b7_bodyLength 80 = .ok (.goto (-75), 3) := by decide +kernel
theorem d7_bodyLength_31 : decode b7_bodyLength 31 = .ok (.iload 5, 2) := by decide +kernel
theorem d7_bodyLength_33 : decode b7_bodyLength 33 = .ok (.sipush 1000, 3) := by decide +kernel
theorem d7_bodyLength_36 : decode b7_bodyLength 36 = .ok (.isub, 1) := by decide +kernel
theorem d7_bodyLength_37 : decode b7_bodyLength 37 = .ok (.istore 6, 2) := by decide +kernel
theorem d7_bodyLength_39 : decode b7_bodyLength 39 = .ok (.iload_n 3, 1) := by decide +kernel
theorem d7_bodyLength_40 : decode b7_bodyLength 40 = .ok (.aload_n 0, 1) := by decide +kernel
theorem d7_bodyLength_41 : decode b7_bodyLength 41 = .ok (.iload 6, 2) := by decide +kernel
theorem d7_bodyLength_43 : decode b7_bodyLength 43 = .ok (.invokevirtual 279, 3) := by decide +kernel
theorem d7_bodyLength_46 : decode b7_bodyLength 46 = .ok (.invokestatic 282, 3) := by decide +kernel
theorem d7_bodyLength_49 : decode b7_bodyLength 49 = .ok (.istore_n 3, 1) := by decide +kernel
theorem d7_bodyLength_50 : decode b7_bodyLength 50 = .ok (.aload_n 0, 1) := by decide +kernel
theorem d7_bodyLength_51 : decode b7_bodyLength 51 = .ok (.getfield 32, 3) := by decide +kernel
theorem d7_bodyLength_54 : decode b7_bodyLength 54 = .ok (.getfield 189, 3) := by decide +kernel
theorem d7_bodyLength_57 : decode b7_bodyLength 57 = .ok (.aload_n 0, 1) := by decide +kernel
theorem d7_bodyLength_58 : decode b7_bodyLength 58 = .ok (.iload 6, 2) := by decide +kernel
theorem d7_bodyLength_60 : decode b7_bodyLength 60 = .ok (.invokevirtual 262, 3) := by decide +kernel
theorem d7_bodyLength_63 : decode b7_bodyLength 63 = .ok (.iaload, 1) := by decide +kernel
theorem d7_bodyLength_64 : decode b7_bodyLength 64 = .ok (.iconst 1, 1) := by decide +kernel
theorem d7_bodyLength_65 : decode b7_bodyLength 65 = .ok (.iadd, 1) := by decide +kernel
theorem d7_bodyLength_66 : decode b7_bodyLength 66 = .ok (.istore 4, 2) := by decide +kernel
theorem d7_bodyLength_68 : decode b7_bodyLength 68 = .ok (.goto 12, 3) := by decide +kernel
theorem d7_textLength_0 : decode b7_textLength 0 = .ok (.aload_n 0, 1) := by decide +kernel
theorem d7_textLength_1 : decode b7_textLength 1 = .ok (.aload_n 0, 1) := by decide +kernel
theorem d7_textLength_2 : decode b7_textLength 2 = .ok (.getfield 32, 3) := by decide +kernel
theorem d7_textLength_5 : decode b7_textLength 5 = .ok (.getfield 217, 3) := by decide +kernel
theorem d7_textLength_8 : decode b7_textLength 8 = .ok (.aload_n 0, 1) := by decide +kernel
theorem d7_textLength_9 : decode b7_textLength 9 = .ok (.getfield 249, 3) := by decide +kernel
theorem d7_textLength_12 : decode b7_textLength 12 = .ok (.iaload, 1) := by decide +kernel
theorem d7_textLength_13 : decode b7_textLength 13 = .ok (.aload_n 0, 1) := by decide +kernel
theorem d7_textLength_14 : decode b7_textLength 14 = .ok (.getfield 32, 3) := by decide +kernel
theorem d7_textLength_17 : decode b7_textLength 17 = .ok (.getfield 217, 3) := by decide +kernel
theorem d7_textLength_20 : decode b7_textLength 20 = .ok (.aload_n 0, 1) := by decide +kernel
theorem d7_textLength_21 : decode b7_textLength 21 = .ok (.getfield 249, 3) := by decide +kernel
theorem d7_textLength_24 : decode b7_textLength 24 = .ok (.iconst 1, 1) := by decide +kernel
theorem d7_textLength_25 : decode b7_textLength 25 = .ok (.iadd, 1) := by decide +kernel
theorem d7_textLength_26 : decode b7_textLength 26 = .ok (.iaload, 1) := by decide +kernel
theorem d7_textLength_27 : decode b7_textLength 27 = .ok (.invokevirtual 269, 3) := by decide +kernel
theorem d7_textLength_30 : decode b7_textLength 30 = .ok (.ireturn, 1) := by decide +kernel
theorem d7_writesNumber_0 : decode b7_writesNumber 0 = .ok (.iconst 1, 1) := by decide +kernel
theorem d7_writesNumber_1 : decode b7_writesNumber 1 = .ok (.istore_n 2, 1) := by decide +kernel
theorem d7_writesNumber_2 : decode b7_writesNumber 2 = .ok (.iload_n 1, 1) := by decide +kernel
theorem d7_writesNumber_3 : decode b7_writesNumber 3 = .ok (.iload_n 2, 1) := by decide +kernel
theorem d7_writesNumber_4 : decode b7_writesNumber 4 = .ok (.idiv, 1) := by decide +kernel
theorem d7_writesNumber_5 : decode b7_writesNumber 5 = .ok (.bipush 9, 2) := by decide +kernel
theorem d7_writesNumber_7 : decode b7_writesNumber 7 = .ok (.if_icmp .le 11, 3) := by decide +kernel
theorem d7_writesNumber_10 : decode b7_writesNumber 10 = .ok (.iload_n 2, 1) := by decide +kernel
theorem d7_writesNumber_11 : decode b7_writesNumber 11 = .ok (.bipush 10, 2) := by decide +kernel
theorem d7_writesNumber_13 : decode b7_writesNumber 13 = .ok (.imul, 1) := by decide +kernel
theorem d7_writesNumber_14 : decode b7_writesNumber 14 = .ok (.istore_n 2, 1) := by decide +kernel
theorem d7_writesNumber_15 : decode b7_writesNumber 15 = .ok (.goto (-13), 3) := by decide +kernel
theorem d7_writesNumber_18 : decode b7_writesNumber 18 = .ok (.iload_n 2, 1) := by decide +kernel
theorem d7_writesNumber_19 : decode b7_writesNumber 19 = .ok (.ifCond .le 39, 3) := by decide +kernel
theorem d7_writesNumber_58 : decode b7_writesNumber 58 = .ok (.return_, 1) := by decide +kernel
theorem d7_writesNumber_22 : decode b7_writesNumber 22 = .ok (.aload_n 0, 1) := by decide +kernel
theorem d7_writesNumber_23 : decode b7_writesNumber 23 = .ok (.getfield 61, 3) := by decide +kernel
theorem d7_writesNumber_26 : decode b7_writesNumber 26 = .ok (.aload_n 0, 1) := by decide +kernel
theorem d7_writesNumber_27 : decode b7_writesNumber 27 = .ok (.getfield 285, 3) := by decide +kernel
theorem d7_writesNumber_30 : decode b7_writesNumber 30 = .ok (.bipush 48, 2) := by decide +kernel
theorem d7_writesNumber_32 : decode b7_writesNumber 32 = .ok (.iload_n 1, 1) := by decide +kernel
theorem d7_writesNumber_33 : decode b7_writesNumber 33 = .ok (.iload_n 2, 1) := by decide +kernel
theorem d7_writesNumber_34 : decode b7_writesNumber 34 = .ok (.idiv, 1) := by decide +kernel
theorem d7_writesNumber_35 : decode b7_writesNumber 35 = .ok (.bipush 10, 2) := by decide +kernel
theorem d7_writesNumber_37 : decode b7_writesNumber 37 = .ok (.irem, 1) := by decide +kernel
theorem d7_writesNumber_38 : decode b7_writesNumber 38 = .ok (.iadd, 1) := by decide +kernel
theorem d7_writesNumber_39 : decode b7_writesNumber 39 = .ok (.iastore, 1) := by decide +kernel
theorem d7_writesNumber_40 : decode b7_writesNumber 40 = .ok (.aload_n 0, 1) := by decide +kernel
theorem d7_writesNumber_41 : decode b7_writesNumber 41 = .ok (.dup, 1) := by decide +kernel
theorem d7_writesNumber_42 : decode b7_writesNumber 42 = .ok (.getfield 285, 3) := by decide +kernel
theorem d7_writesNumber_45 : decode b7_writesNumber 45 = .ok (.iconst 1, 1) := by decide +kernel
theorem d7_writesNumber_46 : decode b7_writesNumber 46 = .ok (.iadd, 1) := by decide +kernel
theorem d7_writesNumber_47 : decode b7_writesNumber 47 = .ok (.putfield 285, 3) := by decide +kernel
theorem d7_writesNumber_50 : decode b7_writesNumber 50 = .ok (.iload_n 2, 1) := by decide +kernel
theorem d7_writesNumber_51 : decode b7_writesNumber 51 = .ok (.bipush 10, 2) := by decide +kernel
theorem d7_writesNumber_53 : decode b7_writesNumber 53 = .ok (.idiv, 1) := by decide +kernel
theorem d7_writesNumber_54 : decode b7_writesNumber 54 = .ok (.istore_n 2, 1) := by decide +kernel
theorem d7_writesNumber_55 : decode b7_writesNumber 55 = .ok (.goto (-37), 3) := by decide +kernel
theorem d7_turned_0 : decode b7_turned 0 = .ok (.iload_n 1, 1) := by decide +kernel
theorem d7_turned_1 : decode b7_turned 1 = .ok (.iconst 1, 1) := by decide +kernel
theorem d7_turned_2 : decode b7_turned 2 = .ok (.if_icmp .ne 21, 3) := by decide +kernel
theorem d7_turned_5 : decode b7_turned 5 = .ok (.iload_n 0, 1) := by decide +kernel
theorem d7_turned_6 : decode b7_turned 6 = .ok (.bipush 97, 2) := by decide +kernel
theorem d7_turned_8 : decode b7_turned 8 = .ok (.bipush 122, 2) := by decide +kernel
theorem d7_turned_10 : decode b7_turned 10 = .ok (.invokestatic 85, 3) := by decide +kernel
theorem d7_turned_13 : decode b7_turned 13 = .ok (.ifCond .eq 10, 3) := by decide +kernel
theorem d7_turned_16 : decode b7_turned 16 = .ok (.iload_n 0, 1) := by decide +kernel
theorem d7_turned_17 : decode b7_turned 17 = .ok (.bipush 32, 2) := by decide +kernel
theorem d7_turned_19 : decode b7_turned 19 = .ok (.isub, 1) := by decide +kernel
theorem d7_turned_20 : decode b7_turned 20 = .ok (.goto 27, 3) := by decide +kernel
theorem d7_turned_47 : decode b7_turned 47 = .ok (.ireturn, 1) := by decide +kernel
theorem d7_turned_23 : decode b7_turned 23 = .ok (.iload_n 1, 1) := by decide +kernel
theorem d7_turned_24 : decode b7_turned 24 = .ok (.iconst 2, 1) := by decide +kernel
theorem d7_turned_25 : decode b7_turned 25 = .ok (.if_icmp .ne 21, 3) := by decide +kernel
theorem d7_turned_46 : decode b7_turned 46 = .ok (.iload_n 0, 1) := by decide +kernel
theorem d7_turned_28 : decode b7_turned 28 = .ok (.iload_n 0, 1) := by decide +kernel
theorem d7_turned_29 : decode b7_turned 29 = .ok (.bipush 65, 2) := by decide +kernel
theorem d7_turned_31 : decode b7_turned 31 = .ok (.bipush 90, 2) := by decide +kernel
theorem d7_turned_33 : decode b7_turned 33 = .ok (.invokestatic 85, 3) := by decide +kernel
theorem d7_turned_36 : decode b7_turned 36 = .ok (.ifCond .eq 10, 3) := by decide +kernel
theorem d7_turned_39 : decode b7_turned 39 = .ok (.iload_n 0, 1) := by decide +kernel
theorem d7_turned_40 : decode b7_turned 40 = .ok (.bipush 32, 2) := by decide +kernel
theorem d7_turned_42 : decode b7_turned 42 = .ok (.iadd, 1) := by decide +kernel
theorem d7_turned_43 : decode b7_turned 43 = .ok (.goto 4, 3) := by decide +kernel
theorem d7_changes_0 : decode b7_changes 0 = .ok (.aload_n 0, 1) := by decide +kernel
theorem d7_changes_1 : decode b7_changes 1 = .ok (.getfield 285, 3) := by decide +kernel
theorem d7_changes_4 : decode b7_changes 4 = .ok (.iload_n 2, 1) := by decide +kernel
theorem d7_changes_5 : decode b7_changes 5 = .ok (.isub, 1) := by decide +kernel
theorem d7_changes_6 : decode b7_changes 6 = .ok (.istore_n 3, 1) := by decide +kernel
theorem d7_changes_7 : decode b7_changes 7 = .ok (.iload_n 1, 1) := by decide +kernel
theorem d7_changes_8 : decode b7_changes 8 = .ok (.iconst 5, 1) := by decide +kernel
theorem d7_changes_9 : decode b7_changes 9 = .ok (.if_icmp .ne 16, 3) := by decide +kernel
theorem d7_changes_25 : decode b7_changes 25 = .ok (.iload_n 1, 1) := by decide +kernel
theorem d7_changes_26 : decode b7_changes 26 = .ok (.iconst 4, 1) := by decide +kernel
theorem d7_changes_27 : decode b7_changes 27 = .ok (.if_icmp .ne 21, 3) := by decide +kernel
theorem d7_changes_48 : decode b7_changes 48 = .ok (.iload_n 1, 1) := by decide +kernel
theorem d7_changes_49 : decode b7_changes 49 = .ok (.iconst 3, 1) := by decide +kernel
theorem d7_changes_50 : decode b7_changes 50 = .ok (.if_icmp .ne 73, 3) := by decide +kernel
theorem d7_changes_123 : decode b7_changes 123 = .ok (.iload_n 2, 1) := by decide +kernel
theorem d7_changes_124 : decode b7_changes 124 = .ok (.istore 4, 2) := by decide +kernel
theorem d7_changes_53 : decode b7_changes 53 = .ok (.iconst 0, 1) := by decide +kernel
theorem d7_changes_54 : decode b7_changes 54 = .ok (.istore 4, 2) := by decide +kernel
theorem d7_changes_30 : decode b7_changes 30 = .ok (.aload_n 0, 1) := by decide +kernel
theorem d7_changes_31 : decode b7_changes 31 = .ok (.iload_n 2, 1) := by decide +kernel
theorem d7_changes_32 : decode b7_changes 32 = .ok (.iload_n 3, 1) := by decide +kernel
theorem d7_changes_33 : decode b7_changes 33 = .ok (.ifCond .le 7, 3) := by decide +kernel
theorem d7_changes_40 : decode b7_changes 40 = .ok (.iconst 0, 1) := by decide +kernel
theorem d7_changes_36 : decode b7_changes 36 = .ok (.iconst 1, 1) := by decide +kernel
theorem d7_changes_37 : decode b7_changes 37 = .ok (.goto 4, 3) := by decide +kernel
theorem d7_changes_12 : decode b7_changes 12 = .ok (.aload_n 0, 1) := by decide +kernel
theorem d7_changes_13 : decode b7_changes 13 = .ok (.iload_n 2, 1) := by decide +kernel
theorem d7_changes_14 : decode b7_changes 14 = .ok (.putfield 285, 3) := by decide +kernel
theorem d7_changes_17 : decode b7_changes 17 = .ok (.aload_n 0, 1) := by decide +kernel
theorem d7_changes_18 : decode b7_changes 18 = .ok (.iload_n 3, 1) := by decide +kernel
theorem d7_changes_19 : decode b7_changes 19 = .ok (.invokevirtual 295, 3) := by decide +kernel
theorem d7_changes_22 : decode b7_changes 22 = .ok (.goto 137, 3) := by decide +kernel
theorem d7_changes_159 : decode b7_changes 159 = .ok (.return_, 1) := by decide +kernel
theorem d7_changes_126 : decode b7_changes 126 = .ok (.iload 4, 2) := by decide +kernel
theorem d7_changes_128 : decode b7_changes 128 = .ok (.aload_n 0, 1) := by decide +kernel
theorem d7_changes_129 : decode b7_changes 129 = .ok (.getfield 285, 3) := by decide +kernel
theorem d7_changes_132 : decode b7_changes 132 = .ok (.if_icmp .ge 27, 3) := by decide +kernel
theorem d7_changes_135 : decode b7_changes 135 = .ok (.aload_n 0, 1) := by decide +kernel
theorem d7_changes_136 : decode b7_changes 136 = .ok (.getfield 61, 3) := by decide +kernel
theorem d7_changes_139 : decode b7_changes 139 = .ok (.iload 4, 2) := by decide +kernel
theorem d7_changes_141 : decode b7_changes 141 = .ok (.aload_n 0, 1) := by decide +kernel
theorem d7_changes_142 : decode b7_changes 142 = .ok (.getfield 61, 3) := by decide +kernel
theorem d7_changes_145 : decode b7_changes 145 = .ok (.iload 4, 2) := by decide +kernel
theorem d7_changes_147 : decode b7_changes 147 = .ok (.iaload, 1) := by decide +kernel
theorem d7_changes_148 : decode b7_changes 148 = .ok (.iload_n 1, 1) := by decide +kernel
theorem d7_changes_149 : decode b7_changes 149 = .ok (.invokestatic 298, 3) := by decide +kernel
theorem d7_changes_152 : decode b7_changes 152 = .ok (.iastore, 1) := by decide +kernel
theorem d7_changes_153 : decode b7_changes 153 = .ok (.iinc 4 1, 3) := by decide +kernel
theorem d7_changes_156 : decode b7_changes 156 = .ok (.goto (-30), 3) := by decide +kernel
theorem d7_changes_56 : decode b7_changes 56 = .ok (.iload 4, 2) := by decide +kernel
theorem d7_changes_58 : decode b7_changes 58 = .ok (.iload_n 3, 1) := by decide +kernel
theorem d7_changes_59 : decode b7_changes 59 = .ok (.iconst 2, 1) := by decide +kernel
theorem d7_changes_60 : decode b7_changes 60 = .ok (.idiv, 1) := by decide +kernel
theorem d7_changes_61 : decode b7_changes 61 = .ok (.if_icmp .ge 59, 3) := by decide +kernel
theorem d7_changes_120 : decode b7_changes 120 = .ok (.goto 39, 3) := by decide +kernel
theorem d7_changes_64 : decode b7_changes 64 = .ok (.aload_n 0, 1) := by decide +kernel
theorem d7_changes_65 : decode b7_changes 65 = .ok (.getfield 61, 3) := by decide +kernel
theorem d7_changes_68 : decode b7_changes 68 = .ok (.iload_n 2, 1) := by decide +kernel
theorem d7_changes_69 : decode b7_changes 69 = .ok (.iload 4, 2) := by decide +kernel
theorem d7_changes_71 : decode b7_changes 71 = .ok (.iadd, 1) := by decide +kernel
theorem d7_changes_72 : decode b7_changes 72 = .ok (.iaload, 1) := by decide +kernel
theorem d7_changes_73 : decode b7_changes 73 = .ok (.istore 5, 2) := by decide +kernel
theorem d7_changes_75 : decode b7_changes 75 = .ok (.aload_n 0, 1) := by decide +kernel
theorem d7_changes_76 : decode b7_changes 76 = .ok (.getfield 61, 3) := by decide +kernel
theorem d7_changes_79 : decode b7_changes 79 = .ok (.iload_n 2, 1) := by decide +kernel
theorem d7_changes_80 : decode b7_changes 80 = .ok (.iload 4, 2) := by decide +kernel
theorem d7_changes_82 : decode b7_changes 82 = .ok (.iadd, 1) := by decide +kernel
theorem d7_changes_83 : decode b7_changes 83 = .ok (.aload_n 0, 1) := by decide +kernel
theorem d7_changes_84 : decode b7_changes 84 = .ok (.getfield 61, 3) := by decide +kernel
theorem d7_changes_87 : decode b7_changes 87 = .ok (.aload_n 0, 1) := by decide +kernel
theorem d7_changes_88 : decode b7_changes 88 = .ok (.getfield 285, 3) := by decide +kernel
theorem d7_changes_91 : decode b7_changes 91 = .ok (.iconst 1, 1) := by decide +kernel
theorem d7_changes_92 : decode b7_changes 92 = .ok (.isub, 1) := by decide +kernel
theorem d7_changes_93 : decode b7_changes 93 = .ok (.iload 4, 2) := by decide +kernel
theorem d7_changes_95 : decode b7_changes 95 = .ok (.isub, 1) := by decide +kernel
theorem d7_changes_96 : decode b7_changes 96 = .ok (.iaload, 1) := by decide +kernel
theorem d7_changes_97 : decode b7_changes 97 = .ok (.iastore, 1) := by decide +kernel
theorem d7_changes_98 : decode b7_changes 98 = .ok (.aload_n 0, 1) := by decide +kernel
theorem d7_changes_99 : decode b7_changes 99 = .ok (.getfield 61, 3) := by decide +kernel
theorem d7_changes_102 : decode b7_changes 102 = .ok (.aload_n 0, 1) := by decide +kernel
theorem d7_changes_103 : decode b7_changes 103 = .ok (.getfield 285, 3) := by decide +kernel
theorem d7_changes_106 : decode b7_changes 106 = .ok (.iconst 1, 1) := by decide +kernel
theorem d7_changes_107 : decode b7_changes 107 = .ok (.isub, 1) := by decide +kernel
theorem d7_changes_108 : decode b7_changes 108 = .ok (.iload 4, 2) := by decide +kernel
theorem d7_changes_110 : decode b7_changes 110 = .ok (.isub, 1) := by decide +kernel
theorem d7_changes_111 : decode b7_changes 111 = .ok (.iload 5, 2) := by decide +kernel
theorem d7_changes_113 : decode b7_changes 113 = .ok (.iastore, 1) := by decide +kernel
theorem d7_changes_114 : decode b7_changes 114 = .ok (.iinc 4 1, 3) := by decide +kernel
theorem d7_changes_117 : decode b7_changes 117 = .ok (.goto (-61), 3) := by decide +kernel
theorem d7_changes_41 : decode b7_changes 41 = .ok (.iadd, 1) := by decide +kernel
theorem d7_changes_42 : decode b7_changes 42 = .ok (.putfield 285, 3) := by decide +kernel
theorem d7_changes_45 : decode b7_changes 45 = .ok (.goto 114, 3) := by decide +kernel
theorem d7_laysValue_0 : decode b7_laysValue 0 = .ok (.aload_n 0, 1) := by decide +kernel
theorem d7_laysValue_1 : decode b7_laysValue 1 = .ok (.getfield 67, 3) := by decide +kernel
theorem d7_laysValue_4 : decode b7_laysValue 4 = .ok (.iload_n 1, 1) := by decide +kernel
theorem d7_laysValue_5 : decode b7_laysValue 5 = .ok (.baload, 1) := by decide +kernel
theorem d7_laysValue_6 : decode b7_laysValue 6 = .ok (.ifCond .eq 4, 3) := by decide +kernel
theorem d7_laysValue_10 : decode b7_laysValue 10 = .ok (.aload_n 0, 1) := by decide +kernel
theorem d7_laysValue_11 : decode b7_laysValue 11 = .ok (.getfield 67, 3) := by decide +kernel
theorem d7_laysValue_14 : decode b7_laysValue 14 = .ok (.iload_n 1, 1) := by decide +kernel
theorem d7_laysValue_15 : decode b7_laysValue 15 = .ok (.iconst 1, 1) := by decide +kernel
theorem d7_laysValue_16 : decode b7_laysValue 16 = .ok (.bastore, 1) := by decide +kernel
theorem d7_laysValue_17 : decode b7_laysValue 17 = .ok (.aload_n 0, 1) := by decide +kernel
theorem d7_laysValue_18 : decode b7_laysValue 18 = .ok (.getfield 285, 3) := by decide +kernel
theorem d7_laysValue_21 : decode b7_laysValue 21 = .ok (.istore_n 2, 1) := by decide +kernel
theorem d7_laysValue_22 : decode b7_laysValue 22 = .ok (.aload_n 0, 1) := by decide +kernel
theorem d7_laysValue_23 : decode b7_laysValue 23 = .ok (.iload_n 1, 1) := by decide +kernel
theorem d7_laysValue_24 : decode b7_laysValue 24 = .ok (.invokevirtual 265, 3) := by decide +kernel
theorem d7_laysValue_27 : decode b7_laysValue 27 = .ok (.ifCond .eq 69, 3) := by decide +kernel
theorem d7_laysValue_96 : decode b7_laysValue 96 = .ok (.aload_n 0, 1) := by decide +kernel
theorem d7_laysValue_97 : decode b7_laysValue 97 = .ok (.getfield 55, 3) := by decide +kernel
theorem d7_laysValue_100 : decode b7_laysValue 100 = .ok (.iload_n 1, 1) := by decide +kernel
theorem d7_laysValue_101 : decode b7_laysValue 101 = .ok (.iaload, 1) := by decide +kernel
theorem d7_laysValue_102 : decode b7_laysValue 102 = .ok (.iconst (-1), 1) := by decide +kernel
theorem d7_laysValue_103 : decode b7_laysValue 103 = .ok (.if_icmp .eq 38, 3) := by decide +kernel
theorem d7_laysValue_141 : decode b7_laysValue 141 = .ok (.iload_n 2, 1) := by decide +kernel
theorem d7_laysValue_142 : decode b7_laysValue 142 = .ok (.istore_n 3, 1) := by decide +kernel
theorem d7_laysValue_106 : decode b7_laysValue 106 = .ok (.aload_n 0, 1) := by decide +kernel
theorem d7_laysValue_107 : decode b7_laysValue 107 = .ok (.aload_n 0, 1) := by decide +kernel
theorem d7_laysValue_108 : decode b7_laysValue 108 = .ok (.getfield 55, 3) := by decide +kernel
theorem d7_laysValue_111 : decode b7_laysValue 111 = .ok (.iload_n 1, 1) := by decide +kernel
theorem d7_laysValue_112 : decode b7_laysValue 112 = .ok (.iaload, 1) := by decide +kernel
theorem d7_laysValue_113 : decode b7_laysValue 113 = .ok (.invokevirtual 262, 3) := by decide +kernel
theorem d7_laysValue_116 : decode b7_laysValue 116 = .ok (.istore_n 3, 1) := by decide +kernel
theorem d7_laysValue_117 : decode b7_laysValue 117 = .ok (.aload_n 0, 1) := by decide +kernel
theorem d7_laysValue_118 : decode b7_laysValue 118 = .ok (.aload_n 0, 1) := by decide +kernel
theorem d7_laysValue_119 : decode b7_laysValue 119 = .ok (.getfield 32, 3) := by decide +kernel
theorem d7_laysValue_122 : decode b7_laysValue 122 = .ok (.getfield 186, 3) := by decide +kernel
theorem d7_laysValue_125 : decode b7_laysValue 125 = .ok (.iload_n 3, 1) := by decide +kernel
theorem d7_laysValue_126 : decode b7_laysValue 126 = .ok (.iaload, 1) := by decide +kernel
theorem d7_laysValue_127 : decode b7_laysValue 127 = .ok (.iconst 1, 1) := by decide +kernel
theorem d7_laysValue_128 : decode b7_laysValue 128 = .ok (.iadd, 1) := by decide +kernel
theorem d7_laysValue_129 : decode b7_laysValue 129 = .ok (.aload_n 0, 1) := by decide +kernel
theorem d7_laysValue_130 : decode b7_laysValue 130 = .ok (.getfield 32, 3) := by decide +kernel
theorem d7_laysValue_133 : decode b7_laysValue 133 = .ok (.getfield 189, 3) := by decide +kernel
theorem d7_laysValue_136 : decode b7_laysValue 136 = .ok (.iload_n 3, 1) := by decide +kernel
theorem d7_laysValue_137 : decode b7_laysValue 137 = .ok (.iaload, 1) := by decide +kernel
theorem d7_laysValue_138 : decode b7_laysValue 138 = .ok (.invokevirtual 288, 3) := by decide +kernel
theorem d7_laysValue_30 : decode b7_laysValue 30 = .ok (.iconst 0, 1) := by decide +kernel
theorem d7_laysValue_31 : decode b7_laysValue 31 = .ok (.istore_n 3, 1) := by decide +kernel
theorem d7_laysValue_9 : decode b7_laysValue 9 = .ok (.return_, 1) := by decide +kernel
theorem d7_laysValue_143 : decode b7_laysValue 143 = .ok (.iload_n 3, 1) := by decide +kernel
theorem d7_laysValue_144 : decode b7_laysValue 144 = .ok (.aload_n 0, 1) := by decide +kernel
theorem d7_laysValue_145 : decode b7_laysValue 145 = .ok (.getfield 285, 3) := by decide +kernel
theorem d7_laysValue_148 : decode b7_laysValue 148 = .ok (.if_icmp .ge 29, 3) := by decide +kernel
theorem d7_laysValue_177 : decode b7_laysValue 177 = .ok (.aload_n 0, 1) := by decide +kernel
theorem d7_laysValue_178 : decode b7_laysValue 178 = .ok (.iload_n 2, 1) := by decide +kernel
theorem d7_laysValue_179 : decode b7_laysValue 179 = .ok (.putfield 285, 3) := by decide +kernel
theorem d7_laysValue_182 : decode b7_laysValue 182 = .ok (.return_, 1) := by decide +kernel
theorem d7_laysValue_151 : decode b7_laysValue 151 = .ok (.aload_n 0, 1) := by decide +kernel
theorem d7_laysValue_152 : decode b7_laysValue 152 = .ok (.getfield 64, 3) := by decide +kernel
theorem d7_laysValue_155 : decode b7_laysValue 155 = .ok (.sipush 410, 3) := by decide +kernel
theorem d7_laysValue_158 : decode b7_laysValue 158 = .ok (.iload_n 1, 1) := by decide +kernel
theorem d7_laysValue_159 : decode b7_laysValue 159 = .ok (.imul, 1) := by decide +kernel
theorem d7_laysValue_160 : decode b7_laysValue 160 = .ok (.iload_n 3, 1) := by decide +kernel
theorem d7_laysValue_161 : decode b7_laysValue 161 = .ok (.iadd, 1) := by decide +kernel
theorem d7_laysValue_162 : decode b7_laysValue 162 = .ok (.iload_n 2, 1) := by decide +kernel
theorem d7_laysValue_163 : decode b7_laysValue 163 = .ok (.isub, 1) := by decide +kernel
theorem d7_laysValue_164 : decode b7_laysValue 164 = .ok (.aload_n 0, 1) := by decide +kernel
theorem d7_laysValue_165 : decode b7_laysValue 165 = .ok (.getfield 61, 3) := by decide +kernel
theorem d7_laysValue_168 : decode b7_laysValue 168 = .ok (.iload_n 3, 1) := by decide +kernel
theorem d7_laysValue_169 : decode b7_laysValue 169 = .ok (.iaload, 1) := by decide +kernel
theorem d7_laysValue_170 : decode b7_laysValue 170 = .ok (.iastore, 1) := by decide +kernel
theorem d7_laysValue_171 : decode b7_laysValue 171 = .ok (.iinc 3 1, 3) := by decide +kernel
theorem d7_laysValue_174 : decode b7_laysValue 174 = .ok (.goto (-31), 3) := by decide +kernel
theorem d7_laysValue_32 : decode b7_laysValue 32 = .ok (.iload_n 3, 1) := by decide +kernel
theorem d7_laysValue_33 : decode b7_laysValue 33 = .ok (.aload_n 0, 1) := by decide +kernel
theorem d7_laysValue_34 : decode b7_laysValue 34 = .ok (.getfield 7, 3) := by decide +kernel
theorem d7_laysValue_37 : decode b7_laysValue 37 = .ok (.aload_n 0, 1) := by decide +kernel
theorem d7_laysValue_38 : decode b7_laysValue 38 = .ok (.getfield 251, 3) := by decide +kernel
theorem d7_laysValue_41 : decode b7_laysValue 41 = .ok (.iconst 3, 1) := by decide +kernel
theorem d7_laysValue_42 : decode b7_laysValue 42 = .ok (.iadd, 1) := by decide +kernel
theorem d7_laysValue_43 : decode b7_laysValue 43 = .ok (.iload_n 1, 1) := by decide +kernel
theorem d7_laysValue_44 : decode b7_laysValue 44 = .ok (.iadd, 1) := by decide +kernel
theorem d7_laysValue_45 : decode b7_laysValue 45 = .ok (.iaload, 1) := by decide +kernel
theorem d7_laysValue_46 : decode b7_laysValue 46 = .ok (.if_icmp .ge 47, 3) := by decide +kernel
theorem d7_laysValue_93 : decode b7_laysValue 93 = .ok (.goto 48, 3) := by decide +kernel
theorem d7_laysValue_49 : decode b7_laysValue 49 = .ok (.aload_n 0, 1) := by decide +kernel
theorem d7_laysValue_50 : decode b7_laysValue 50 = .ok (.getfield 61, 3) := by decide +kernel
theorem d7_laysValue_53 : decode b7_laysValue 53 = .ok (.aload_n 0, 1) := by decide +kernel
theorem d7_laysValue_54 : decode b7_laysValue 54 = .ok (.getfield 285, 3) := by decide +kernel
theorem d7_laysValue_57 : decode b7_laysValue 57 = .ok (.aload_n 0, 1) := by decide +kernel
theorem d7_laysValue_58 : decode b7_laysValue 58 = .ok (.getfield 7, 3) := by decide +kernel
theorem d7_laysValue_61 : decode b7_laysValue 61 = .ok (.aload_n 0, 1) := by decide +kernel
theorem d7_laysValue_62 : decode b7_laysValue 62 = .ok (.getfield 251, 3) := by decide +kernel
theorem d7_laysValue_65 : decode b7_laysValue 65 = .ok (.bipush 13, 2) := by decide +kernel
theorem d7_laysValue_67 : decode b7_laysValue 67 = .ok (.iadd, 1) := by decide +kernel
theorem d7_laysValue_68 : decode b7_laysValue 68 = .ok (.bipush 40, 2) := by decide +kernel
theorem d7_laysValue_70 : decode b7_laysValue 70 = .ok (.iload_n 1, 1) := by decide +kernel
theorem d7_laysValue_71 : decode b7_laysValue 71 = .ok (.imul, 1) := by decide +kernel
theorem d7_laysValue_72 : decode b7_laysValue 72 = .ok (.iadd, 1) := by decide +kernel
theorem d7_laysValue_73 : decode b7_laysValue 73 = .ok (.iload_n 3, 1) := by decide +kernel
theorem d7_laysValue_74 : decode b7_laysValue 74 = .ok (.iadd, 1) := by decide +kernel
theorem d7_laysValue_75 : decode b7_laysValue 75 = .ok (.iaload, 1) := by decide +kernel
theorem d7_laysValue_76 : decode b7_laysValue 76 = .ok (.iastore, 1) := by decide +kernel
theorem d7_laysValue_77 : decode b7_laysValue 77 = .ok (.aload_n 0, 1) := by decide +kernel
theorem d7_laysValue_78 : decode b7_laysValue 78 = .ok (.dup, 1) := by decide +kernel
theorem d7_laysValue_79 : decode b7_laysValue 79 = .ok (.getfield 285, 3) := by decide +kernel
theorem d7_laysValue_82 : decode b7_laysValue 82 = .ok (.iconst 1, 1) := by decide +kernel
theorem d7_laysValue_83 : decode b7_laysValue 83 = .ok (.iadd, 1) := by decide +kernel
theorem d7_laysValue_84 : decode b7_laysValue 84 = .ok (.putfield 285, 3) := by decide +kernel
theorem d7_laysValue_87 : decode b7_laysValue 87 = .ok (.iinc 3 1, 3) := by decide +kernel
theorem d7_laysValue_90 : decode b7_laysValue 90 = .ok (.goto (-58), 3) := by decide +kernel
theorem d7_writesValue_0 : decode b7_writesValue 0 = .ok (.aload_n 0, 1) := by decide +kernel
theorem d7_writesValue_1 : decode b7_writesValue 1 = .ok (.iload_n 1, 1) := by decide +kernel
theorem d7_writesValue_2 : decode b7_writesValue 2 = .ok (.invokevirtual 292, 3) := by decide +kernel
theorem d7_writesValue_5 : decode b7_writesValue 5 = .ok (.aload_n 0, 1) := by decide +kernel
theorem d7_writesValue_6 : decode b7_writesValue 6 = .ok (.iload_n 1, 1) := by decide +kernel
theorem d7_writesValue_7 : decode b7_writesValue 7 = .ok (.invokevirtual 273, 3) := by decide +kernel
theorem d7_writesValue_10 : decode b7_writesValue 10 = .ok (.istore_n 2, 1) := by decide +kernel
theorem d7_writesValue_11 : decode b7_writesValue 11 = .ok (.iconst 0, 1) := by decide +kernel
theorem d7_writesValue_12 : decode b7_writesValue 12 = .ok (.istore_n 3, 1) := by decide +kernel
theorem d7_writesValue_13 : decode b7_writesValue 13 = .ok (.iload_n 3, 1) := by decide +kernel
theorem d7_writesValue_14 : decode b7_writesValue 14 = .ok (.iload_n 2, 1) := by decide +kernel
theorem d7_writesValue_15 : decode b7_writesValue 15 = .ok (.if_icmp .ge 40, 3) := by decide +kernel
theorem d7_writesValue_55 : decode b7_writesValue 55 = .ok (.return_, 1) := by decide +kernel
theorem d7_writesValue_18 : decode b7_writesValue 18 = .ok (.aload_n 0, 1) := by decide +kernel
theorem d7_writesValue_19 : decode b7_writesValue 19 = .ok (.getfield 61, 3) := by decide +kernel
theorem d7_writesValue_22 : decode b7_writesValue 22 = .ok (.aload_n 0, 1) := by decide +kernel
theorem d7_writesValue_23 : decode b7_writesValue 23 = .ok (.getfield 285, 3) := by decide +kernel
theorem d7_writesValue_26 : decode b7_writesValue 26 = .ok (.aload_n 0, 1) := by decide +kernel
theorem d7_writesValue_27 : decode b7_writesValue 27 = .ok (.getfield 64, 3) := by decide +kernel
theorem d7_writesValue_30 : decode b7_writesValue 30 = .ok (.sipush 410, 3) := by decide +kernel
theorem d7_writesValue_33 : decode b7_writesValue 33 = .ok (.iload_n 1, 1) := by decide +kernel
theorem d7_writesValue_34 : decode b7_writesValue 34 = .ok (.imul, 1) := by decide +kernel
theorem d7_writesValue_35 : decode b7_writesValue 35 = .ok (.iload_n 3, 1) := by decide +kernel
theorem d7_writesValue_36 : decode b7_writesValue 36 = .ok (.iadd, 1) := by decide +kernel
theorem d7_writesValue_37 : decode b7_writesValue 37 = .ok (.iaload, 1) := by decide +kernel
theorem d7_writesValue_38 : decode b7_writesValue 38 = .ok (.iastore, 1) := by decide +kernel
theorem d7_writesValue_39 : decode b7_writesValue 39 = .ok (.aload_n 0, 1) := by decide +kernel
theorem d7_writesValue_40 : decode b7_writesValue 40 = .ok (.dup, 1) := by decide +kernel
theorem d7_writesValue_41 : decode b7_writesValue 41 = .ok (.getfield 285, 3) := by decide +kernel
theorem d7_writesValue_44 : decode b7_writesValue 44 = .ok (.iconst 1, 1) := by decide +kernel
theorem d7_writesValue_45 : decode b7_writesValue 45 = .ok (.iadd, 1) := by decide +kernel
theorem d7_writesValue_46 : decode b7_writesValue 46 = .ok (.putfield 285, 3) := by decide +kernel
theorem d7_writesValue_49 : decode b7_writesValue 49 = .ok (.iinc 3 1, 3) := by decide +kernel
theorem d7_writesValue_52 : decode b7_writesValue 52 = .ok (.goto (-39), 3) := by decide +kernel
theorem d7_writesBody_0 : decode b7_writesBody 0 = .ok (.iload_n 1, 1) := by decide +kernel
theorem d7_writesBody_1 : decode b7_writesBody 1 = .ok (.istore_n 3, 1) := by decide +kernel
theorem d7_writesBody_2 : decode b7_writesBody 2 = .ok (.iload_n 3, 1) := by decide +kernel
theorem d7_writesBody_3 : decode b7_writesBody 3 = .ok (.iload_n 2, 1) := by decide +kernel
theorem d7_writesBody_4 : decode b7_writesBody 4 = .ok (.if_icmp .ge 113, 3) := by decide +kernel
theorem d7_writesBody_117 : decode b7_writesBody 117 = .ok (.return_, 1) := by decide +kernel
theorem d7_writesBody_7 : decode b7_writesBody 7 = .ok (.aload_n 0, 1) := by decide +kernel
theorem d7_writesBody_8 : decode b7_writesBody 8 = .ok (.getfield 32, 3) := by decide +kernel
theorem d7_writesBody_11 : decode b7_writesBody 11 = .ok (.getfield 153, 3) := by decide +kernel
theorem d7_writesBody_14 : decode b7_writesBody 14 = .ok (.iload_n 3, 1) := by decide +kernel
theorem d7_writesBody_15 : decode b7_writesBody 15 = .ok (.iaload, 1) := by decide +kernel
theorem d7_writesBody_16 : decode b7_writesBody 16 = .ok (.istore 4, 2) := by decide +kernel
theorem d7_writesBody_18 : decode b7_writesBody 18 = .ok (.iload 4, 2) := by decide +kernel
theorem d7_writesBody_20 : decode b7_writesBody 20 = .ok (.sipush 1000, 3) := by decide +kernel
theorem d7_writesBody_23 : decode b7_writesBody 23 = .ok (.if_icmp .lt 67, 3) := by decide +kernel
theorem d7_writesBody_90 : decode b7_writesBody 90 = .ok (.aload_n 0, 1) := by decide +kernel
theorem d7_writesBody_91 : decode b7_writesBody 91 = .ok (.getfield 61, 3) := by decide +kernel
theorem d7_writesBody_94 : decode b7_writesBody 94 = .ok (.aload_n 0, 1) := by decide +kernel
theorem d7_writesBody_95 : decode b7_writesBody 95 = .ok (.getfield 285, 3) := by decide +kernel
theorem d7_writesBody_98 : decode b7_writesBody 98 = .ok (.iload 4, 2) := by decide +kernel
theorem d7_writesBody_100 : decode b7_writesBody 100 = .ok (.iastore, 1) := by decide +kernel
theorem d7_writesBody_101 : decode b7_writesBody 101 = .ok (.aload_n 0, 1) := by decide +kernel
