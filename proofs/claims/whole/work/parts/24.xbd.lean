theorem d5_expand_75 : decode b5_expand 75 = .ok (.ifCond .eq 35, 3) := by decide +kernel
theorem d5_expand_78 : decode b5_expand 78 = .ok (.aload_n 0, 1) := by decide +kernel
theorem d5_expand_79 : decode b5_expand 79 = .ok (.aload_n 0, 1) := by decide +kernel
theorem d5_expand_80 : decode b5_expand 80 = .ok (.getfield 44, 3) := by decide +kernel
theorem d5_expand_83 : decode b5_expand 83 = .ok (.getfield 112, 3) := by decide +kernel
theorem d5_expand_86 : decode b5_expand 86 = .ok (.aload_n 0, 1) := by decide +kernel
theorem d5_expand_87 : decode b5_expand 87 = .ok (.getfield 51, 3) := by decide +kernel
theorem d5_expand_90 : decode b5_expand 90 = .ok (.getfield 247, 3) := by decide +kernel
theorem d5_expand_93 : decode b5_expand 93 = .ok (.invokevirtual 327, 3) := by decide +kernel
theorem d5_expand_96 : decode b5_expand 96 = .ok (.istore 4, 2) := by decide +kernel
theorem d5_expand_98 : decode b5_expand 98 = .ok (.iload 4, 2) := by decide +kernel
theorem d5_expand_100 : decode b5_expand 100 = .ok (.ifCond .eq 10, 3) := by decide +kernel
theorem d5_expand_103 : decode b5_expand 103 = .ok (.aload_n 0, 1) := by decide +kernel
theorem d5_expand_104 : decode b5_expand 104 = .ok (.iload 4, 2) := by decide +kernel
theorem d5_expand_106 : decode b5_expand 106 = .ok (.invokevirtual 324, 3) := by decide +kernel
theorem d5_expand_109 : decode b5_expand 109 = .ok (.ireturn, 1) := by decide +kernel
theorem d5_expand_110 : decode b5_expand 110 = .ok (.aload_n 0, 1) := by decide +kernel
theorem d5_expand_111 : decode b5_expand 111 = .ok (.getfield 51, 3) := by decide +kernel
theorem d5_expand_114 : decode b5_expand 114 = .ok (.aload_n 0, 1) := by decide +kernel
theorem d5_expand_115 : decode b5_expand 115 = .ok (.getfield 44, 3) := by decide +kernel
theorem d5_expand_118 : decode b5_expand 118 = .ok (.getfield 118, 3) := by decide +kernel
theorem d5_expand_121 : decode b5_expand 121 = .ok (.invokevirtual 331, 3) := by decide +kernel
theorem d5_expand_124 : decode b5_expand 124 = .ok (.aload_n 0, 1) := by decide +kernel
theorem d5_expand_125 : decode b5_expand 125 = .ok (.getfield 51, 3) := by decide +kernel
theorem d5_expand_128 : decode b5_expand 128 = .ok (.getfield 260, 3) := by decide +kernel
theorem d5_expand_131 : decode b5_expand 131 = .ok (.iconst 0, 1) := by decide +kernel
theorem d5_expand_132 : decode b5_expand 132 = .ok (.iaload, 1) := by decide +kernel
theorem d5_expand_133 : decode b5_expand 133 = .ok (.istore 4, 2) := by decide +kernel
theorem d5_expand_135 : decode b5_expand 135 = .ok (.aload_n 0, 1) := by decide +kernel
theorem d5_expand_136 : decode b5_expand 136 = .ok (.invokevirtual 334, 3) := by decide +kernel
theorem d5_expand_139 : decode b5_expand 139 = .ok (.aload_n 0, 1) := by decide +kernel
theorem d5_expand_140 : decode b5_expand 140 = .ok (.getfield 44, 3) := by decide +kernel
theorem d5_expand_143 : decode b5_expand 143 = .ok (.iload_n 1, 1) := by decide +kernel
theorem d5_expand_144 : decode b5_expand 144 = .ok (.iload 4, 2) := by decide +kernel
theorem d5_expand_146 : decode b5_expand 146 = .ok (.invokevirtual 337, 3) := by decide +kernel
theorem d5_expand_149 : decode b5_expand 149 = .ok (.iload_n 3, 1) := by decide +kernel
theorem d5_expand_150 : decode b5_expand 150 = .ok (.ifCond .eq 7, 3) := by decide +kernel
theorem d5_expand_153 : decode b5_expand 153 = .ok (.aload_n 0, 1) := by decide +kernel
theorem d5_expand_154 : decode b5_expand 154 = .ok (.invokevirtual 340, 3) := by decide +kernel
theorem d5_expand_157 : decode b5_expand 157 = .ok (.aload_n 0, 1) := by decide +kernel
theorem d5_expand_158 : decode b5_expand 158 = .ok (.getfield 44, 3) := by decide +kernel
theorem d5_expand_161 : decode b5_expand 161 = .ok (.getfield 112, 3) := by decide +kernel
theorem d5_expand_164 : decode b5_expand 164 = .ok (.ireturn, 1) := by decide +kernel
theorem d5_typeFromBuffer_0 : decode b5_typeFromBuffer 0 = .ok (.aload_n 0, 1) := by decide +kernel
theorem d5_typeFromBuffer_1 : decode b5_typeFromBuffer 1 = .ok (.getfield 44, 3) := by decide +kernel
theorem d5_typeFromBuffer_4 : decode b5_typeFromBuffer 4 = .ok (.getfield 112, 3) := by decide +kernel
theorem d5_typeFromBuffer_7 : decode b5_typeFromBuffer 7 = .ok (.ifCond .ne 9, 3) := by decide +kernel
theorem d5_typeFromBuffer_16 : decode b5_typeFromBuffer 16 = .ok (.aload_n 0, 1) := by decide +kernel
theorem d5_typeFromBuffer_17 : decode b5_typeFromBuffer 17 = .ok (.getfield 44, 3) := by decide +kernel
theorem d5_typeFromBuffer_20 : decode b5_typeFromBuffer 20 = .ok (.getfield 112, 3) := by decide +kernel
theorem d5_typeFromBuffer_23 : decode b5_typeFromBuffer 23 = .ok (.iconst 1, 1) := by decide +kernel
theorem d5_typeFromBuffer_24 : decode b5_typeFromBuffer 24 = .ok (.isub, 1) := by decide +kernel
theorem d5_typeFromBuffer_25 : decode b5_typeFromBuffer 25 = .ok (.istore_n 2, 1) := by decide +kernel
theorem d5_typeFromBuffer_26 : decode b5_typeFromBuffer 26 = .ok (.aload_n 0, 1) := by decide +kernel
theorem d5_typeFromBuffer_27 : decode b5_typeFromBuffer 27 = .ok (.getfield 44, 3) := by decide +kernel
theorem d5_typeFromBuffer_30 : decode b5_typeFromBuffer 30 = .ok (.getfield 171, 3) := by decide +kernel
theorem d5_typeFromBuffer_33 : decode b5_typeFromBuffer 33 = .ok (.iload_n 2, 1) := by decide +kernel
theorem d5_typeFromBuffer_34 : decode b5_typeFromBuffer 34 = .ok (.iaload, 1) := by decide +kernel
theorem d5_typeFromBuffer_35 : decode b5_typeFromBuffer 35 = .ok (.istore_n 3, 1) := by decide +kernel
theorem d5_typeFromBuffer_36 : decode b5_typeFromBuffer 36 = .ok (.aload_n 0, 1) := by decide +kernel
theorem d5_typeFromBuffer_37 : decode b5_typeFromBuffer 37 = .ok (.getfield 44, 3) := by decide +kernel
theorem d5_typeFromBuffer_40 : decode b5_typeFromBuffer 40 = .ok (.iload_n 2, 1) := by decide +kernel
theorem d5_typeFromBuffer_41 : decode b5_typeFromBuffer 41 = .ok (.iload_n 3, 1) := by decide +kernel
theorem d5_typeFromBuffer_42 : decode b5_typeFromBuffer 42 = .ok (.invokevirtual 296, 3) := by decide +kernel
theorem d5_typeFromBuffer_45 : decode b5_typeFromBuffer 45 = .ok (.iload_n 1, 1) := by decide +kernel
theorem d5_typeFromBuffer_46 : decode b5_typeFromBuffer 46 = .ok (.iadd, 1) := by decide +kernel
theorem d5_typeFromBuffer_47 : decode b5_typeFromBuffer 47 = .ok (.istore 4, 2) := by decide +kernel
theorem d5_typeFromBuffer_49 : decode b5_typeFromBuffer 49 = .ok (.iload 4, 2) := by decide +kernel
theorem d5_typeFromBuffer_51 : decode b5_typeFromBuffer 51 = .ok (.bipush 40, 2) := by decide +kernel
theorem d5_typeFromBuffer_53 : decode b5_typeFromBuffer 53 = .ok (.if_icmp .le 9, 3) := by decide +kernel
theorem d5_typeFromBuffer_62 : decode b5_typeFromBuffer 62 = .ok (.aload_n 0, 1) := by decide +kernel
theorem d5_typeFromBuffer_63 : decode b5_typeFromBuffer 63 = .ok (.iload_n 2, 1) := by decide +kernel
theorem d5_typeFromBuffer_64 : decode b5_typeFromBuffer 64 = .ok (.iload_n 3, 1) := by decide +kernel
theorem d5_typeFromBuffer_65 : decode b5_typeFromBuffer 65 = .ok (.iload 4, 2) := by decide +kernel
theorem d5_typeFromBuffer_67 : decode b5_typeFromBuffer 67 = .ok (.invokevirtual 299, 3) := by decide +kernel
theorem d5_typeFromBuffer_70 : decode b5_typeFromBuffer 70 = .ok (.ldc2_w 303, 3) := by decide +kernel
theorem d5_typeFromBuffer_73 : decode b5_typeFromBuffer 73 = .ok (.lcmp, 1) := by decide +kernel
theorem d5_typeFromBuffer_74 : decode b5_typeFromBuffer 74 = .ok (.ifCond .le 9, 3) := by decide +kernel
theorem d5_typeFromBuffer_83 : decode b5_typeFromBuffer 83 = .ok (.aload_n 0, 1) := by decide +kernel
theorem d5_typeFromBuffer_84 : decode b5_typeFromBuffer 84 = .ok (.invokevirtual 334, 3) := by decide +kernel
theorem d5_typeFromBuffer_87 : decode b5_typeFromBuffer 87 = .ok (.aload_n 0, 1) := by decide +kernel
theorem d5_typeFromBuffer_88 : decode b5_typeFromBuffer 88 = .ok (.getfield 44, 3) := by decide +kernel
theorem d5_typeFromBuffer_91 : decode b5_typeFromBuffer 91 = .ok (.iload_n 2, 1) := by decide +kernel
theorem d5_typeFromBuffer_92 : decode b5_typeFromBuffer 92 = .ok (.iload_n 3, 1) := by decide +kernel
theorem d5_typeFromBuffer_93 : decode b5_typeFromBuffer 93 = .ok (.aload_n 0, 1) := by decide +kernel
theorem d5_typeFromBuffer_94 : decode b5_typeFromBuffer 94 = .ok (.getfield 9, 3) := by decide +kernel
theorem d5_typeFromBuffer_97 : decode b5_typeFromBuffer 97 = .ok (.iconst 0, 1) := by decide +kernel
theorem d5_typeFromBuffer_98 : decode b5_typeFromBuffer 98 = .ok (.iload_n 1, 1) := by decide +kernel
theorem d5_typeFromBuffer_99 : decode b5_typeFromBuffer 99 = .ok (.invokevirtual 360, 3) := by decide +kernel
theorem d5_typeFromBuffer_102 : decode b5_typeFromBuffer 102 = .ok (.iload 4, 2) := by decide +kernel
theorem d5_typeFromBuffer_104 : decode b5_typeFromBuffer 104 = .ok (.ireturn, 1) := by decide +kernel
theorem d5_typeFromBuffer_77 : decode b5_typeFromBuffer 77 = .ok (.aload_n 0, 1) := by decide +kernel
theorem d5_typeFromBuffer_78 : decode b5_typeFromBuffer 78 = .ok (.iconst 3, 1) := by decide +kernel
theorem d5_typeFromBuffer_79 : decode b5_typeFromBuffer 79 = .ok (.invokevirtual 324, 3) := by decide +kernel
theorem d5_typeFromBuffer_82 : decode b5_typeFromBuffer 82 = .ok (.ireturn, 1) := by decide +kernel
theorem d5_typeFromBuffer_56 : decode b5_typeFromBuffer 56 = .ok (.aload_n 0, 1) := by decide +kernel
theorem d5_typeFromBuffer_57 : decode b5_typeFromBuffer 57 = .ok (.iconst 4, 1) := by decide +kernel
theorem d5_typeFromBuffer_58 : decode b5_typeFromBuffer 58 = .ok (.invokevirtual 324, 3) := by decide +kernel
theorem d5_typeFromBuffer_61 : decode b5_typeFromBuffer 61 = .ok (.ireturn, 1) := by decide +kernel
theorem d5_typeFromBuffer_10 : decode b5_typeFromBuffer 10 = .ok (.aload_n 0, 1) := by decide +kernel
theorem d5_typeFromBuffer_11 : decode b5_typeFromBuffer 11 = .ok (.iconst 1, 1) := by decide +kernel
theorem d5_typeFromBuffer_12 : decode b5_typeFromBuffer 12 = .ok (.invokevirtual 324, 3) := by decide +kernel
theorem d5_typeFromBuffer_15 : decode b5_typeFromBuffer 15 = .ok (.ireturn, 1) := by decide +kernel
theorem d5_type_0 : decode b5_type 0 = .ok (.iload_n 1, 1) := by decide +kernel
theorem d5_type_1 : decode b5_type 1 = .ok (.invokestatic 290, 3) := by decide +kernel
theorem d5_type_4 : decode b5_type 4 = .ok (.aload_n 0, 1) := by decide +kernel
theorem d5_type_5 : decode b5_type 5 = .ok (.getfield 63, 3) := by decide +kernel
theorem d5_type_8 : decode b5_type 8 = .ok (.iload_n 1, 1) := by decide +kernel
theorem d5_type_9 : decode b5_type 9 = .ok (.if_icmp .ge 14, 3) := by decide +kernel
theorem d5_type_23 : decode b5_type 23 = .ok (.aload_n 0, 1) := by decide +kernel
theorem d5_type_24 : decode b5_type 24 = .ok (.iload_n 1, 1) := by decide +kernel
theorem d5_type_25 : decode b5_type 25 = .ok (.invokevirtual 348, 3) := by decide +kernel
theorem d5_type_28 : decode b5_type 28 = .ok (.istore_n 2, 1) := by decide +kernel
theorem d5_type_29 : decode b5_type 29 = .ok (.aload_n 0, 1) := by decide +kernel
theorem d5_type_30 : decode b5_type 30 = .ok (.iconst 0, 1) := by decide +kernel
theorem d5_type_31 : decode b5_type 31 = .ok (.putfield 63, 3) := by decide +kernel
theorem d5_type_34 : decode b5_type 34 = .ok (.iload_n 2, 1) := by decide +kernel
theorem d5_type_35 : decode b5_type 35 = .ok (.ireturn, 1) := by decide +kernel
theorem d5_type_12 : decode b5_type 12 = .ok (.new 343, 3) := by decide +kernel
theorem d5_type_15 : decode b5_type 15 = .ok (.dup, 1) := by decide +kernel
theorem d5_type_16 : decode b5_type 16 = .ok (.ldc_w 345, 3) := by decide +kernel
theorem d5_type_19 : decode b5_type 19 = .ok (.invokespecial 347, 3) := by decide +kernel
theorem d5_type_22 : decode b5_type 22 = .ok (.athrow, 1) := by decide +kernel
theorem d5_erase_0 : decode b5_erase 0 = .ok (.aload_n 0, 1) := by decide +kernel
theorem d5_erase_1 : decode b5_erase 1 = .ok (.getfield 44, 3) := by decide +kernel
theorem d5_erase_4 : decode b5_erase 4 = .ok (.getfield 112, 3) := by decide +kernel
theorem d5_erase_7 : decode b5_erase 7 = .ok (.ifCond .ne 9, 3) := by decide +kernel
theorem d5_erase_16 : decode b5_erase 16 = .ok (.aload_n 0, 1) := by decide +kernel
theorem d5_erase_17 : decode b5_erase 17 = .ok (.getfield 44, 3) := by decide +kernel
theorem d5_erase_20 : decode b5_erase 20 = .ok (.getfield 112, 3) := by decide +kernel
theorem d5_erase_23 : decode b5_erase 23 = .ok (.iconst 1, 1) := by decide +kernel
theorem d5_erase_24 : decode b5_erase 24 = .ok (.isub, 1) := by decide +kernel
theorem d5_erase_25 : decode b5_erase 25 = .ok (.istore_n 1, 1) := by decide +kernel
theorem d5_erase_26 : decode b5_erase 26 = .ok (.aload_n 0, 1) := by decide +kernel
theorem d5_erase_27 : decode b5_erase 27 = .ok (.getfield 44, 3) := by decide +kernel
theorem d5_erase_30 : decode b5_erase 30 = .ok (.getfield 171, 3) := by decide +kernel
theorem d5_erase_33 : decode b5_erase 33 = .ok (.iload_n 1, 1) := by decide +kernel
theorem d5_erase_34 : decode b5_erase 34 = .ok (.iaload, 1) := by decide +kernel
theorem d5_erase_35 : decode b5_erase 35 = .ok (.istore_n 2, 1) := by decide +kernel
theorem d5_erase_36 : decode b5_erase 36 = .ok (.aload_n 0, 1) := by decide +kernel
theorem d5_erase_37 : decode b5_erase 37 = .ok (.iload_n 1, 1) := by decide +kernel
theorem d5_erase_38 : decode b5_erase 38 = .ok (.invokevirtual 351, 3) := by decide +kernel
theorem d5_erase_41 : decode b5_erase 41 = .ok (.aload_n 0, 1) := by decide +kernel
theorem d5_erase_42 : decode b5_erase 42 = .ok (.getfield 51, 3) := by decide +kernel
theorem d5_erase_45 : decode b5_erase 45 = .ok (.getfield 203, 3) := by decide +kernel
theorem d5_erase_48 : decode b5_erase 48 = .ok (.iload_n 2, 1) := by decide +kernel
theorem d5_erase_49 : decode b5_erase 49 = .ok (.laload, 1) := by decide +kernel
theorem d5_erase_50 : decode b5_erase 50 = .ok (.l2i, 1) := by decide +kernel
theorem d5_erase_51 : decode b5_erase 51 = .ok (.iconst 1, 1) := by decide +kernel
theorem d5_erase_52 : decode b5_erase 52 = .ok (.isub, 1) := by decide +kernel
theorem d5_erase_53 : decode b5_erase 53 = .ok (.istore_n 3, 1) := by decide +kernel
theorem d5_erase_54 : decode b5_erase 54 = .ok (.iload_n 3, 1) := by decide +kernel
theorem d5_erase_55 : decode b5_erase 55 = .ok (.ifCond .ge 9, 3) := by decide +kernel
theorem d5_erase_64 : decode b5_erase 64 = .ok (.iload_n 3, 1) := by decide +kernel
theorem d5_erase_65 : decode b5_erase 65 = .ok (.bipush 40, 2) := by decide +kernel
theorem d5_erase_67 : decode b5_erase 67 = .ok (.if_icmp .le 9, 3) := by decide +kernel
theorem d5_erase_76 : decode b5_erase 76 = .ok (.aload_n 0, 1) := by decide +kernel
theorem d5_erase_77 : decode b5_erase 77 = .ok (.iload_n 1, 1) := by decide +kernel
theorem d5_erase_78 : decode b5_erase 78 = .ok (.iload_n 2, 1) := by decide +kernel
theorem d5_erase_79 : decode b5_erase 79 = .ok (.iload_n 3, 1) := by decide +kernel
theorem d5_erase_80 : decode b5_erase 80 = .ok (.invokevirtual 299, 3) := by decide +kernel
theorem d5_erase_83 : decode b5_erase 83 = .ok (.ldc2_w 303, 3) := by decide +kernel
theorem d5_erase_86 : decode b5_erase 86 = .ok (.lcmp, 1) := by decide +kernel
theorem d5_erase_87 : decode b5_erase 87 = .ok (.ifCond .le 9, 3) := by decide +kernel
theorem d5_erase_96 : decode b5_erase 96 = .ok (.aload_n 0, 1) := by decide +kernel
theorem d5_erase_97 : decode b5_erase 97 = .ok (.invokevirtual 334, 3) := by decide +kernel
theorem d5_erase_100 : decode b5_erase 100 = .ok (.aload_n 0, 1) := by decide +kernel
theorem d5_erase_101 : decode b5_erase 101 = .ok (.iload_n 1, 1) := by decide +kernel
theorem d5_erase_102 : decode b5_erase 102 = .ok (.invokevirtual 351, 3) := by decide +kernel
theorem d5_erase_105 : decode b5_erase 105 = .ok (.aload_n 0, 1) := by decide +kernel
theorem d5_erase_106 : decode b5_erase 106 = .ok (.getfield 51, 3) := by decide +kernel
theorem d5_erase_109 : decode b5_erase 109 = .ok (.invokevirtual 214, 3) := by decide +kernel
theorem d5_erase_112 : decode b5_erase 112 = .ok (.aload_n 0, 1) := by decide +kernel
theorem d5_erase_113 : decode b5_erase 113 = .ok (.getfield 44, 3) := by decide +kernel
theorem d5_erase_116 : decode b5_erase 116 = .ok (.iload_n 1, 1) := by decide +kernel
theorem d5_erase_117 : decode b5_erase 117 = .ok (.iload_n 2, 1) := by decide +kernel
theorem d5_erase_118 : decode b5_erase 118 = .ok (.invokevirtual 354, 3) := by decide +kernel
theorem d5_erase_121 : decode b5_erase 121 = .ok (.aload_n 0, 1) := by decide +kernel
theorem d5_erase_122 : decode b5_erase 122 = .ok (.getfield 44, 3) := by decide +kernel
theorem d5_erase_125 : decode b5_erase 125 = .ok (.iload_n 1, 1) := by decide +kernel
theorem d5_erase_126 : decode b5_erase 126 = .ok (.iload_n 2, 1) := by decide +kernel
theorem d5_erase_127 : decode b5_erase 127 = .ok (.aload_n 0, 1) := by decide +kernel
theorem d5_erase_128 : decode b5_erase 128 = .ok (.getfield 51, 3) := by decide +kernel
theorem d5_erase_131 : decode b5_erase 131 = .ok (.getfield 357, 3) := by decide +kernel
theorem d5_erase_134 : decode b5_erase 134 = .ok (.iload_n 2, 1) := by decide +kernel
theorem d5_erase_135 : decode b5_erase 135 = .ok (.sipush 400, 3) := by decide +kernel
theorem d5_erase_138 : decode b5_erase 138 = .ok (.imul, 1) := by decide +kernel
theorem d5_erase_139 : decode b5_erase 139 = .ok (.iload_n 3, 1) := by decide +kernel
theorem d5_erase_140 : decode b5_erase 140 = .ok (.invokevirtual 360, 3) := by decide +kernel
theorem d5_erase_143 : decode b5_erase 143 = .ok (.iload_n 3, 1) := by decide +kernel
theorem d5_erase_144 : decode b5_erase 144 = .ok (.ireturn, 1) := by decide +kernel
theorem d5_erase_90 : decode b5_erase 90 = .ok (.aload_n 0, 1) := by decide +kernel
theorem d5_erase_91 : decode b5_erase 91 = .ok (.iconst 3, 1) := by decide +kernel
theorem d5_erase_92 : decode b5_erase 92 = .ok (.invokevirtual 324, 3) := by decide +kernel
theorem d5_erase_95 : decode b5_erase 95 = .ok (.ireturn, 1) := by decide +kernel
theorem d5_erase_70 : decode b5_erase 70 = .ok (.aload_n 0, 1) := by decide +kernel
theorem d5_erase_71 : decode b5_erase 71 = .ok (.iconst 4, 1) := by decide +kernel
theorem d5_erase_72 : decode b5_erase 72 = .ok (.invokevirtual 324, 3) := by decide +kernel
theorem d5_erase_75 : decode b5_erase 75 = .ok (.ireturn, 1) := by decide +kernel
theorem d5_erase_58 : decode b5_erase 58 = .ok (.aload_n 0, 1) := by decide +kernel
theorem d5_erase_59 : decode b5_erase 59 = .ok (.iconst 5, 1) := by decide +kernel
theorem d5_erase_60 : decode b5_erase 60 = .ok (.invokevirtual 324, 3) := by decide +kernel
theorem d5_erase_63 : decode b5_erase 63 = .ok (.ireturn, 1) := by decide +kernel
theorem d5_erase_10 : decode b5_erase 10 = .ok (.aload_n 0, 1) := by decide +kernel
theorem d5_erase_11 : decode b5_erase 11 = .ok (.iconst 1, 1) := by decide +kernel
theorem d5_erase_12 : decode b5_erase 12 = .ok (.invokevirtual 324, 3) := by decide +kernel
theorem d5_erase_15 : decode b5_erase 15 = .ok (.ireturn, 1) := by decide +kernel
theorem d5_reset_0 : decode b5_reset 0 = .ok (.aload_n 0, 1) := by decide +kernel
theorem d5_reset_1 : decode b5_reset 1 = .ok (.getfield 44, 3) := by decide +kernel
theorem d5_reset_4 : decode b5_reset 4 = .ok (.getfield 112, 3) := by decide +kernel
theorem d5_reset_7 : decode b5_reset 7 = .ok (.ifCond .ne 9, 3) := by decide +kernel
theorem d5_reset_16 : decode b5_reset 16 = .ok (.aload_n 0, 1) := by decide +kernel
theorem d5_reset_17 : decode b5_reset 17 = .ok (.getfield 44, 3) := by decide +kernel
theorem d5_reset_20 : decode b5_reset 20 = .ok (.getfield 112, 3) := by decide +kernel
theorem d5_reset_23 : decode b5_reset 23 = .ok (.iconst 1, 1) := by decide +kernel
theorem d5_reset_24 : decode b5_reset 24 = .ok (.isub, 1) := by decide +kernel
theorem d5_reset_25 : decode b5_reset 25 = .ok (.istore_n 1, 1) := by decide +kernel
theorem d5_reset_26 : decode b5_reset 26 = .ok (.aload_n 0, 1) := by decide +kernel
theorem d5_reset_27 : decode b5_reset 27 = .ok (.getfield 44, 3) := by decide +kernel
theorem d5_reset_30 : decode b5_reset 30 = .ok (.getfield 171, 3) := by decide +kernel
theorem d5_reset_33 : decode b5_reset 33 = .ok (.iload_n 1, 1) := by decide +kernel
theorem d5_reset_34 : decode b5_reset 34 = .ok (.iaload, 1) := by decide +kernel
theorem d5_reset_35 : decode b5_reset 35 = .ok (.istore_n 2, 1) := by decide +kernel
theorem d5_reset_36 : decode b5_reset 36 = .ok (.aload_n 0, 1) := by decide +kernel
theorem d5_reset_37 : decode b5_reset 37 = .ok (.getfield 44, 3) := by decide +kernel
theorem d5_reset_40 : decode b5_reset 40 = .ok (.iload_n 1, 1) := by decide +kernel
theorem d5_reset_41 : decode b5_reset 41 = .ok (.iload_n 2, 1) := by decide +kernel
theorem d5_reset_42 : decode b5_reset 42 = .ok (.invokevirtual 364, 3) := by decide +kernel
theorem d5_reset_45 : decode b5_reset 45 = .ok (.ifCond .ne 10, 3) := by decide +kernel
theorem d5_reset_55 : decode b5_reset 55 = .ok (.aload_n 0, 1) := by decide +kernel
theorem d5_reset_56 : decode b5_reset 56 = .ok (.iload_n 1, 1) := by decide +kernel
theorem d5_reset_57 : decode b5_reset 57 = .ok (.invokevirtual 367, 3) := by decide +kernel
theorem d5_reset_60 : decode b5_reset 60 = .ok (.aload_n 0, 1) := by decide +kernel
theorem d5_reset_61 : decode b5_reset 61 = .ok (.getfield 51, 3) := by decide +kernel
theorem d5_reset_64 : decode b5_reset 64 = .ok (.iload_n 2, 1) := by decide +kernel
theorem d5_reset_65 : decode b5_reset 65 = .ok (.invokevirtual 370, 3) := by decide +kernel
theorem d5_reset_68 : decode b5_reset 68 = .ok (.aload_n 0, 1) := by decide +kernel
theorem d5_reset_69 : decode b5_reset 69 = .ok (.getfield 51, 3) := by decide +kernel
theorem d5_reset_72 : decode b5_reset 72 = .ok (.invokevirtual 309, 3) := by decide +kernel
theorem d5_reset_75 : decode b5_reset 75 = .ok (.aload_n 0, 1) := by decide +kernel
theorem d5_reset_76 : decode b5_reset 76 = .ok (.getfield 51, 3) := by decide +kernel
theorem d5_reset_79 : decode b5_reset 79 = .ok (.getfield 247, 3) := by decide +kernel
theorem d5_reset_82 : decode b5_reset 82 = .ok (.ldc2_w 303, 3) := by decide +kernel
theorem d5_reset_85 : decode b5_reset 85 = .ok (.lcmp, 1) := by decide +kernel
theorem d5_reset_86 : decode b5_reset 86 = .ok (.ifCond .le 9, 3) := by decide +kernel
theorem d5_reset_95 : decode b5_reset 95 = .ok (.aload_n 0, 1) := by decide +kernel
theorem d5_reset_96 : decode b5_reset 96 = .ok (.invokevirtual 334, 3) := by decide +kernel
theorem d5_reset_99 : decode b5_reset 99 = .ok (.aload_n 0, 1) := by decide +kernel
theorem d5_reset_100 : decode b5_reset 100 = .ok (.getfield 44, 3) := by decide +kernel
theorem d5_reset_103 : decode b5_reset 103 = .ok (.iload_n 1, 1) := by decide +kernel
theorem d5_reset_104 : decode b5_reset 104 = .ok (.iload_n 2, 1) := by decide +kernel
theorem d5_reset_105 : decode b5_reset 105 = .ok (.invokevirtual 354, 3) := by decide +kernel
theorem d5_reset_108 : decode b5_reset 108 = .ok (.aload_n 0, 1) := by decide +kernel
theorem d5_reset_109 : decode b5_reset 109 = .ok (.getfield 51, 3) := by decide +kernel
theorem d5_reset_112 : decode b5_reset 112 = .ok (.getfield 203, 3) := by decide +kernel
theorem d5_reset_115 : decode b5_reset 115 = .ok (.iload_n 2, 1) := by decide +kernel
theorem d5_reset_116 : decode b5_reset 116 = .ok (.laload, 1) := by decide +kernel
theorem d5_reset_117 : decode b5_reset 117 = .ok (.l2i, 1) := by decide +kernel
theorem d5_reset_118 : decode b5_reset 118 = .ok (.ireturn, 1) := by decide +kernel
theorem d5_reset_89 : decode b5_reset 89 = .ok (.aload_n 0, 1) := by decide +kernel
theorem d5_reset_90 : decode b5_reset 90 = .ok (.iconst 3, 1) := by decide +kernel
theorem d5_reset_91 : decode b5_reset 91 = .ok (.invokevirtual 324, 3) := by decide +kernel
theorem d5_reset_94 : decode b5_reset 94 = .ok (.ireturn, 1) := by decide +kernel
theorem d5_reset_48 : decode b5_reset 48 = .ok (.aload_n 0, 1) := by decide +kernel
theorem d5_reset_49 : decode b5_reset 49 = .ok (.bipush 6, 2) := by decide +kernel
theorem d5_reset_51 : decode b5_reset 51 = .ok (.invokevirtual 324, 3) := by decide +kernel
theorem d5_reset_54 : decode b5_reset 54 = .ok (.ireturn, 1) := by decide +kernel
theorem d5_reset_10 : decode b5_reset 10 = .ok (.aload_n 0, 1) := by decide +kernel
theorem d5_reset_11 : decode b5_reset 11 = .ok (.iconst 1, 1) := by decide +kernel
theorem d5_reset_12 : decode b5_reset 12 = .ok (.invokevirtual 324, 3) := by decide +kernel
theorem d5_reset_15 : decode b5_reset 15 = .ok (.ireturn, 1) := by decide +kernel
theorem d5_next_0 : decode b5_next 0 = .ok (.aload_n 0, 1) := by decide +kernel
theorem d5_next_1 : decode b5_next 1 = .ok (.getfield 44, 3) := by decide +kernel
theorem d5_next_4 : decode b5_next 4 = .ok (.getfield 112, 3) := by decide +kernel
theorem d5_next_7 : decode b5_next 7 = .ok (.ifCond .ne 9, 3) := by decide +kernel
theorem d5_next_16 : decode b5_next 16 = .ok (.aload_n 0, 1) := by decide +kernel
theorem d5_next_17 : decode b5_next 17 = .ok (.getfield 44, 3) := by decide +kernel
theorem d5_next_20 : decode b5_next 20 = .ok (.getfield 112, 3) := by decide +kernel
theorem d5_next_23 : decode b5_next 23 = .ok (.iconst 1, 1) := by decide +kernel
theorem d5_next_24 : decode b5_next 24 = .ok (.isub, 1) := by decide +kernel
theorem d5_next_25 : decode b5_next 25 = .ok (.istore_n 1, 1) := by decide +kernel
theorem d5_next_26 : decode b5_next 26 = .ok (.aload_n 0, 1) := by decide +kernel
theorem d5_next_27 : decode b5_next 27 = .ok (.iload_n 1, 1) := by decide +kernel
theorem d5_next_28 : decode b5_next 28 = .ok (.invokevirtual 351, 3) := by decide +kernel
theorem d5_next_31 : decode b5_next 31 = .ok (.aload_n 0, 1) := by decide +kernel
theorem d5_next_32 : decode b5_next 32 = .ok (.getfield 51, 3) := by decide +kernel
theorem d5_next_35 : decode b5_next 35 = .ok (.aload_n 0, 1) := by decide +kernel
theorem d5_next_36 : decode b5_next 36 = .ok (.getfield 44, 3) := by decide +kernel
theorem d5_next_39 : decode b5_next 39 = .ok (.getfield 171, 3) := by decide +kernel
theorem d5_next_42 : decode b5_next 42 = .ok (.iload_n 1, 1) := by decide +kernel
theorem d5_next_43 : decode b5_next 43 = .ok (.iaload, 1) := by decide +kernel
theorem d5_next_44 : decode b5_next 44 = .ok (.invokevirtual 200, 3) := by decide +kernel
theorem d5_next_47 : decode b5_next 47 = .ok (.iconst 1, 1) := by decide +kernel
theorem d5_next_48 : decode b5_next 48 = .ok (.iadd, 1) := by decide +kernel
theorem d5_next_49 : decode b5_next 49 = .ok (.istore_n 2, 1) := by decide +kernel
theorem d5_next_50 : decode b5_next 50 = .ok (.iload_n 2, 1) := by decide +kernel
theorem d5_next_51 : decode b5_next 51 = .ok (.aload_n 0, 1) := by decide +kernel
theorem d5_next_52 : decode b5_next 52 = .ok (.getfield 51, 3) := by decide +kernel
theorem d5_next_55 : decode b5_next 55 = .ok (.getfield 257, 3) := by decide +kernel
theorem d5_next_58 : decode b5_next 58 = .ok (.if_icmp .ge 35, 3) := by decide +kernel
theorem d5_next_93 : decode b5_next 93 = .ok (.aload_n 0, 1) := by decide +kernel
theorem d5_next_94 : decode b5_next 94 = .ok (.iload_n 1, 1) := by decide +kernel
theorem d5_next_95 : decode b5_next 95 = .ok (.aload_n 0, 1) := by decide +kernel
theorem d5_next_96 : decode b5_next 96 = .ok (.getfield 51, 3) := by decide +kernel
theorem d5_next_99 : decode b5_next 99 = .ok (.getfield 247, 3) := by decide +kernel
theorem d5_next_102 : decode b5_next 102 = .ok (.invokevirtual 327, 3) := by decide +kernel
theorem d5_next_105 : decode b5_next 105 = .ok (.istore_n 3, 1) := by decide +kernel
theorem d5_next_106 : decode b5_next 106 = .ok (.iload_n 3, 1) := by decide +kernel
theorem d5_next_107 : decode b5_next 107 = .ok (.ifCond .eq 9, 3) := by decide +kernel
theorem d5_next_116 : decode b5_next 116 = .ok (.aload_n 0, 1) := by decide +kernel
theorem d5_next_117 : decode b5_next 117 = .ok (.invokevirtual 334, 3) := by decide +kernel
theorem d5_next_120 : decode b5_next 120 = .ok (.aload_n 0, 1) := by decide +kernel
theorem d5_next_121 : decode b5_next 121 = .ok (.invokevirtual 340, 3) := by decide +kernel
theorem d5_next_124 : decode b5_next 124 = .ok (.aload_n 0, 1) := by decide +kernel
theorem d5_next_125 : decode b5_next 125 = .ok (.getfield 44, 3) := by decide +kernel
theorem d5_next_128 : decode b5_next 128 = .ok (.getfield 112, 3) := by decide +kernel
theorem d5_next_131 : decode b5_next 131 = .ok (.ifCond .ne 8, 3) := by decide +kernel
theorem d5_next_139 : decode b5_next 139 = .ok (.aload_n 0, 1) := by decide +kernel
theorem d5_next_140 : decode b5_next 140 = .ok (.getfield 44, 3) := by decide +kernel
theorem d5_next_143 : decode b5_next 143 = .ok (.getfield 171, 3) := by decide +kernel
theorem d5_next_146 : decode b5_next 146 = .ok (.aload_n 0, 1) := by decide +kernel
theorem d5_next_147 : decode b5_next 147 = .ok (.getfield 44, 3) := by decide +kernel
theorem d5_next_150 : decode b5_next 150 = .ok (.getfield 112, 3) := by decide +kernel
theorem d5_next_153 : decode b5_next 153 = .ok (.iconst 1, 1) := by decide +kernel
theorem d5_next_154 : decode b5_next 154 = .ok (.isub, 1) := by decide +kernel
theorem d5_next_155 : decode b5_next 155 = .ok (.iaload, 1) := by decide +kernel
theorem d5_next_156 : decode b5_next 156 = .ok (.ireturn, 1) := by decide +kernel
theorem d5_next_134 : decode b5_next 134 = .ok (.bipush 10, 2) := by decide +kernel
theorem d5_next_136 : decode b5_next 136 = .ok (.goto 20, 3) := by decide +kernel
theorem d5_next_110 : decode b5_next 110 = .ok (.aload_n 0, 1) := by decide +kernel
theorem d5_next_111 : decode b5_next 111 = .ok (.iload_n 3, 1) := by decide +kernel
theorem d5_next_112 : decode b5_next 112 = .ok (.invokevirtual 324, 3) := by decide +kernel
theorem d5_next_115 : decode b5_next 115 = .ok (.ireturn, 1) := by decide +kernel
theorem d5_next_61 : decode b5_next 61 = .ok (.aload_n 0, 1) := by decide +kernel
theorem d5_next_62 : decode b5_next 62 = .ok (.invokevirtual 334, 3) := by decide +kernel
theorem d5_next_65 : decode b5_next 65 = .ok (.aload_n 0, 1) := by decide +kernel
theorem d5_next_66 : decode b5_next 66 = .ok (.getfield 44, 3) := by decide +kernel
theorem d5_next_69 : decode b5_next 69 = .ok (.getfield 171, 3) := by decide +kernel
theorem d5_next_72 : decode b5_next 72 = .ok (.iload_n 1, 1) := by decide +kernel
theorem d5_next_73 : decode b5_next 73 = .ok (.aload_n 0, 1) := by decide +kernel
theorem d5_next_74 : decode b5_next 74 = .ok (.getfield 51, 3) := by decide +kernel
theorem d5_next_77 : decode b5_next 77 = .ok (.getfield 260, 3) := by decide +kernel
theorem d5_next_80 : decode b5_next 80 = .ok (.iload_n 2, 1) := by decide +kernel
theorem d5_next_81 : decode b5_next 81 = .ok (.iaload, 1) := by decide +kernel
theorem d5_next_82 : decode b5_next 82 = .ok (.iastore, 1) := by decide +kernel
theorem d5_next_83 : decode b5_next 83 = .ok (.aload_n 0, 1) := by decide +kernel
theorem d5_next_84 : decode b5_next 84 = .ok (.getfield 44, 3) := by decide +kernel
theorem d5_next_87 : decode b5_next 87 = .ok (.getfield 171, 3) := by decide +kernel
theorem d5_next_90 : decode b5_next 90 = .ok (.iload_n 1, 1) := by decide +kernel
theorem d5_next_91 : decode b5_next 91 = .ok (.iaload, 1) := by decide +kernel
theorem d5_next_92 : decode b5_next 92 = .ok (.ireturn, 1) := by decide +kernel
theorem d5_next_10 : decode b5_next 10 = .ok (.aload_n 0, 1) := by decide +kernel
theorem d5_next_11 : decode b5_next 11 = .ok (.iconst 1, 1) := by decide +kernel
theorem d5_next_12 : decode b5_next 12 = .ok (.invokevirtual 324, 3) := by decide +kernel
theorem d5_next_15 : decode b5_next 15 = .ok (.ireturn, 1) := by decide +kernel
theorem d5_previous_0 : decode b5_previous 0 = .ok (.aload_n 0, 1) := by decide +kernel
theorem d5_previous_1 : decode b5_previous 1 = .ok (.getfield 44, 3) := by decide +kernel
theorem d5_previous_4 : decode b5_previous 4 = .ok (.getfield 112, 3) := by decide +kernel
theorem d5_previous_7 : decode b5_previous 7 = .ok (.ifCond .ne 9, 3) := by decide +kernel
theorem d5_previous_16 : decode b5_previous 16 = .ok (.aload_n 0, 1) := by decide +kernel
theorem d5_previous_17 : decode b5_previous 17 = .ok (.getfield 44, 3) := by decide +kernel
theorem d5_previous_20 : decode b5_previous 20 = .ok (.getfield 112, 3) := by decide +kernel
theorem d5_previous_23 : decode b5_previous 23 = .ok (.iconst 1, 1) := by decide +kernel
theorem d5_previous_24 : decode b5_previous 24 = .ok (.isub, 1) := by decide +kernel
theorem d5_previous_25 : decode b5_previous 25 = .ok (.istore_n 1, 1) := by decide +kernel
theorem d5_previous_26 : decode b5_previous 26 = .ok (.aload_n 0, 1) := by decide +kernel
theorem d5_previous_27 : decode b5_previous 27 = .ok (.iload_n 1, 1) := by decide +kernel
theorem d5_previous_28 : decode b5_previous 28 = .ok (.invokevirtual 351, 3) := by decide +kernel
theorem d5_previous_31 : decode b5_previous 31 = .ok (.aload_n 0, 1) := by decide +kernel
theorem d5_previous_32 : decode b5_previous 32 = .ok (.getfield 51, 3) := by decide +kernel
theorem d5_previous_35 : decode b5_previous 35 = .ok (.aload_n 0, 1) := by decide +kernel
theorem d5_previous_36 : decode b5_previous 36 = .ok (.getfield 44, 3) := by decide +kernel
theorem d5_previous_39 : decode b5_previous 39 = .ok (.getfield 171, 3) := by decide +kernel
theorem d5_previous_42 : decode b5_previous 42 = .ok (.iload_n 1, 1) := by decide +kernel
theorem d5_previous_43 : decode b5_previous 43 = .ok (.iaload, 1) := by decide +kernel
theorem d5_previous_44 : decode b5_previous 44 = .ok (.invokevirtual 200, 3) := by decide +kernel
theorem d5_previous_47 : decode b5_previous 47 = .ok (.iconst 1, 1) := by decide +kernel
theorem d5_previous_48 : decode b5_previous 48 = .ok (.isub, 1) := by decide +kernel
theorem d5_previous_49 : decode b5_previous 49 = .ok (.istore_n 2, 1) := by decide +kernel
theorem d5_previous_50 : decode b5_previous 50 = .ok (.iload_n 2, 1) := by decide +kernel
theorem d5_previous_51 : decode b5_previous 51 = .ok (.ifCond .ge 10, 3) := by decide +kernel
theorem d5_previous_61 : decode b5_previous 61 = .ok (.aload_n 0, 1) := by decide +kernel
theorem d5_previous_62 : decode b5_previous 62 = .ok (.invokevirtual 334, 3) := by decide +kernel
theorem d5_previous_65 : decode b5_previous 65 = .ok (.aload_n 0, 1) := by decide +kernel
theorem d5_previous_66 : decode b5_previous 66 = .ok (.getfield 44, 3) := by decide +kernel
theorem d5_previous_69 : decode b5_previous 69 = .ok (.getfield 171, 3) := by decide +kernel
theorem d5_previous_72 : decode b5_previous 72 = .ok (.iload_n 1, 1) := by decide +kernel
theorem d5_previous_73 : decode b5_previous 73 = .ok (.aload_n 0, 1) := by decide +kernel
theorem d5_previous_74 : decode b5_previous 74 = .ok (.getfield 51, 3) := by decide +kernel
theorem d5_previous_77 : decode b5_previous 77 = .ok (.getfield 260, 3) := by decide +kernel
theorem d5_previous_80 : decode b5_previous 80 = .ok (.iload_n 2, 1) := by decide +kernel
theorem d5_previous_81 : decode b5_previous 81 = .ok (.iaload, 1) := by decide +kernel
theorem d5_previous_82 : decode b5_previous 82 = .ok (.iastore, 1) := by decide +kernel
theorem d5_previous_83 : decode b5_previous 83 = .ok (.aload_n 0, 1) := by decide +kernel
theorem d5_previous_84 : decode b5_previous 84 = .ok (.getfield 44, 3) := by decide +kernel
theorem d5_previous_87 : decode b5_previous 87 = .ok (.getfield 171, 3) := by decide +kernel
theorem d5_previous_90 : decode b5_previous 90 = .ok (.iload_n 1, 1) := by decide +kernel
theorem d5_previous_91 : decode b5_previous 91 = .ok (.iaload, 1) := by decide +kernel
theorem d5_previous_92 : decode b5_previous 92 = .ok (.ireturn, 1) := by decide +kernel
theorem d5_previous_54 : decode b5_previous 54 = .ok (.aload_n 0, 1) := by decide +kernel
theorem d5_previous_55 : decode b5_previous 55 = .ok (.bipush 7, 2) := by decide +kernel
theorem d5_previous_57 : decode b5_previous 57 = .ok (.invokevirtual 324, 3) := by decide +kernel
theorem d5_previous_60 : decode b5_previous 60 = .ok (.ireturn, 1) := by decide +kernel
theorem d5_previous_10 : decode b5_previous 10 = .ok (.aload_n 0, 1) := by decide +kernel
theorem d5_previous_11 : decode b5_previous 11 = .ok (.iconst 1, 1) := by decide +kernel
theorem d5_previous_12 : decode b5_previous 12 = .ok (.invokevirtual 324, 3) := by decide +kernel
theorem d5_previous_15 : decode b5_previous 15 = .ok (.ireturn, 1) := by decide +kernel
theorem d5_go_0 : decode b5_go 0 = .ok (.iload_n 1, 1) := by decide +kernel
theorem d5_go_1 : decode b5_go 1 = .ok (.invokestatic 152, 3) := by decide +kernel
theorem d5_go_4 : decode b5_go 4 = .ok (.aload_n 0, 1) := by decide +kernel
theorem d5_go_5 : decode b5_go 5 = .ok (.getfield 44, 3) := by decide +kernel
theorem d5_go_8 : decode b5_go 8 = .ok (.getfield 112, 3) := by decide +kernel
theorem d5_go_11 : decode b5_go 11 = .ok (.ifCond .ne 9, 3) := by decide +kernel
theorem d5_go_20 : decode b5_go 20 = .ok (.aload_n 0, 1) := by decide +kernel
theorem d5_go_21 : decode b5_go 21 = .ok (.getfield 44, 3) := by decide +kernel
theorem d5_go_24 : decode b5_go 24 = .ok (.getfield 112, 3) := by decide +kernel
theorem d5_go_27 : decode b5_go 27 = .ok (.iconst 1, 1) := by decide +kernel
theorem d5_go_28 : decode b5_go 28 = .ok (.isub, 1) := by decide +kernel
theorem d5_go_29 : decode b5_go 29 = .ok (.istore_n 2, 1) := by decide +kernel
theorem d5_go_30 : decode b5_go 30 = .ok (.aload_n 0, 1) := by decide +kernel
theorem d5_go_31 : decode b5_go 31 = .ok (.iload_n 2, 1) := by decide +kernel
theorem d5_go_32 : decode b5_go 32 = .ok (.invokevirtual 351, 3) := by decide +kernel
theorem d5_go_35 : decode b5_go 35 = .ok (.aload_n 0, 1) := by decide +kernel
theorem d5_go_36 : decode b5_go 36 = .ok (.getfield 51, 3) := by decide +kernel
theorem d5_go_39 : decode b5_go 39 = .ok (.iload_n 1, 1) := by decide +kernel
theorem d5_go_40 : decode b5_go 40 = .ok (.invokevirtual 187, 3) := by decide +kernel
theorem d5_go_43 : decode b5_go 43 = .ok (.ifCond .ne 10, 3) := by decide +kernel
theorem d5_go_53 : decode b5_go 53 = .ok (.aload_n 0, 1) := by decide +kernel
theorem d5_go_54 : decode b5_go 54 = .ok (.getfield 44, 3) := by decide +kernel
theorem d5_go_57 : decode b5_go 57 = .ok (.getfield 171, 3) := by decide +kernel
theorem d5_go_60 : decode b5_go 60 = .ok (.iload_n 2, 1) := by decide +kernel
theorem d5_go_61 : decode b5_go 61 = .ok (.iaload, 1) := by decide +kernel
theorem d5_go_62 : decode b5_go 62 = .ok (.istore_n 3, 1) := by decide +kernel
theorem d5_go_63 : decode b5_go 63 = .ok (.aload_n 0, 1) := by decide +kernel
theorem d5_go_64 : decode b5_go 64 = .ok (.invokevirtual 334, 3) := by decide +kernel
theorem d5_go_67 : decode b5_go 67 = .ok (.aload_n 0, 1) := by decide +kernel
theorem d5_go_68 : decode b5_go 68 = .ok (.getfield 44, 3) := by decide +kernel
theorem d5_go_71 : decode b5_go 71 = .ok (.getfield 171, 3) := by decide +kernel
theorem d5_go_74 : decode b5_go 74 = .ok (.iload_n 2, 1) := by decide +kernel
theorem d5_go_75 : decode b5_go 75 = .ok (.iload_n 1, 1) := by decide +kernel
theorem d5_go_76 : decode b5_go 76 = .ok (.iastore, 1) := by decide +kernel
theorem d5_go_77 : decode b5_go 77 = .ok (.iload_n 3, 1) := by decide +kernel
theorem d5_go_78 : decode b5_go 78 = .ok (.ireturn, 1) := by decide +kernel
theorem d5_go_46 : decode b5_go 46 = .ok (.aload_n 0, 1) := by decide +kernel
theorem d5_go_47 : decode b5_go 47 = .ok (.bipush 8, 2) := by decide +kernel
theorem d5_go_49 : decode b5_go 49 = .ok (.invokevirtual 324, 3) := by decide +kernel
theorem d5_go_52 : decode b5_go 52 = .ok (.ireturn, 1) := by decide +kernel
theorem d5_go_14 : decode b5_go 14 = .ok (.aload_n 0, 1) := by decide +kernel
theorem d5_go_15 : decode b5_go 15 = .ok (.iconst 1, 1) := by decide +kernel
theorem d5_go_16 : decode b5_go 16 = .ok (.invokevirtual 324, 3) := by decide +kernel
theorem d5_go_19 : decode b5_go 19 = .ok (.ireturn, 1) := by decide +kernel
theorem d5_finish_0 : decode b5_finish 0 = .ok (.aload_n 0, 1) := by decide +kernel
theorem d5_finish_1 : decode b5_finish 1 = .ok (.getfield 44, 3) := by decide +kernel
theorem d5_finish_4 : decode b5_finish 4 = .ok (.getfield 112, 3) := by decide +kernel
theorem d5_finish_7 : decode b5_finish 7 = .ok (.ifCond .ne 9, 3) := by decide +kernel
theorem d5_finish_16 : decode b5_finish 16 = .ok (.aload_n 0, 1) := by decide +kernel
theorem d5_finish_17 : decode b5_finish 17 = .ok (.getfield 44, 3) := by decide +kernel
theorem d5_finish_20 : decode b5_finish 20 = .ok (.getfield 112, 3) := by decide +kernel
theorem d5_finish_23 : decode b5_finish 23 = .ok (.iconst 1, 1) := by decide +kernel
theorem d5_finish_24 : decode b5_finish 24 = .ok (.isub, 1) := by decide +kernel
theorem d5_finish_25 : decode b5_finish 25 = .ok (.istore_n 1, 1) := by decide +kernel
theorem d5_finish_26 : decode b5_finish 26 = .ok (.aload_n 0, 1) := by decide +kernel
theorem d5_finish_27 : decode b5_finish 27 = .ok (.iload_n 1, 1) := by decide +kernel
theorem d5_finish_28 : decode b5_finish 28 = .ok (.aload_n 0, 1) := by decide +kernel
theorem d5_finish_29 : decode b5_finish 29 = .ok (.iload_n 1, 1) := by decide +kernel
theorem d5_finish_30 : decode b5_finish 30 = .ok (.invokevirtual 177, 3) := by decide +kernel
theorem d5_finish_33 : decode b5_finish 33 = .ok (.invokevirtual 327, 3) := by decide +kernel
theorem d5_finish_36 : decode b5_finish 36 = .ok (.istore_n 2, 1) := by decide +kernel
theorem d5_finish_37 : decode b5_finish 37 = .ok (.iload_n 2, 1) := by decide +kernel
theorem d5_finish_38 : decode b5_finish 38 = .ok (.ifCond .eq 9, 3) := by decide +kernel
theorem d5_finish_47 : decode b5_finish 47 = .ok (.aload_n 0, 1) := by decide +kernel
theorem d5_finish_48 : decode b5_finish 48 = .ok (.invokevirtual 334, 3) := by decide +kernel
theorem d5_finish_51 : decode b5_finish 51 = .ok (.aload_n 0, 1) := by decide +kernel
theorem d5_finish_52 : decode b5_finish 52 = .ok (.invokevirtual 340, 3) := by decide +kernel
theorem d5_finish_55 : decode b5_finish 55 = .ok (.aload_n 0, 1) := by decide +kernel
theorem d5_finish_56 : decode b5_finish 56 = .ok (.getfield 44, 3) := by decide +kernel
theorem d5_finish_59 : decode b5_finish 59 = .ok (.getfield 112, 3) := by decide +kernel
theorem d5_finish_62 : decode b5_finish 62 = .ok (.ireturn, 1) := by decide +kernel
theorem d5_finish_41 : decode b5_finish 41 = .ok (.aload_n 0, 1) := by decide +kernel
theorem d5_finish_42 : decode b5_finish 42 = .ok (.iload_n 2, 1) := by decide +kernel
theorem d5_finish_43 : decode b5_finish 43 = .ok (.invokevirtual 324, 3) := by decide +kernel
theorem d5_finish_46 : decode b5_finish 46 = .ok (.ireturn, 1) := by decide +kernel
theorem d5_finish_10 : decode b5_finish 10 = .ok (.aload_n 0, 1) := by decide +kernel
theorem d5_finish_11 : decode b5_finish 11 = .ok (.iconst 1, 1) := by decide +kernel
theorem d5_finish_12 : decode b5_finish 12 = .ok (.invokevirtual 324, 3) := by decide +kernel
theorem d5_finish_15 : decode b5_finish 15 = .ok (.ireturn, 1) := by decide +kernel
theorem d5_drop_0 : decode b5_drop 0 = .ok (.aload_n 0, 1) := by decide +kernel
theorem d5_drop_1 : decode b5_drop 1 = .ok (.getfield 44, 3) := by decide +kernel
theorem d5_drop_4 : decode b5_drop 4 = .ok (.getfield 112, 3) := by decide +kernel
theorem d5_drop_7 : decode b5_drop 7 = .ok (.ifCond .ne 9, 3) := by decide +kernel
theorem d5_drop_16 : decode b5_drop 16 = .ok (.aload_n 0, 1) := by decide +kernel
theorem d5_drop_17 : decode b5_drop 17 = .ok (.invokevirtual 334, 3) := by decide +kernel
theorem d5_drop_20 : decode b5_drop 20 = .ok (.aload_n 0, 1) := by decide +kernel
theorem d5_drop_21 : decode b5_drop 21 = .ok (.getfield 44, 3) := by decide +kernel
theorem d5_drop_24 : decode b5_drop 24 = .ok (.dup, 1) := by decide +kernel
theorem d5_drop_25 : decode b5_drop 25 = .ok (.getfield 112, 3) := by decide +kernel
theorem d5_drop_28 : decode b5_drop 28 = .ok (.iconst 1, 1) := by decide +kernel
theorem d5_drop_29 : decode b5_drop 29 = .ok (.isub, 1) := by decide +kernel
theorem d5_drop_30 : decode b5_drop 30 = .ok (.putfield 112, 3) := by decide +kernel
theorem d5_drop_33 : decode b5_drop 33 = .ok (.aload_n 0, 1) := by decide +kernel
theorem d5_drop_34 : decode b5_drop 34 = .ok (.getfield 44, 3) := by decide +kernel
theorem d5_drop_37 : decode b5_drop 37 = .ok (.getfield 112, 3) := by decide +kernel
theorem d5_drop_40 : decode b5_drop 40 = .ok (.ireturn, 1) := by decide +kernel
theorem d5_drop_10 : decode b5_drop 10 = .ok (.aload_n 0, 1) := by decide +kernel
theorem d5_drop_11 : decode b5_drop 11 = .ok (.iconst 1, 1) := by decide +kernel
theorem d5_drop_12 : decode b5_drop 12 = .ok (.invokevirtual 324, 3) := by decide +kernel
theorem d5_drop_15 : decode b5_drop 15 = .ok (.ireturn, 1) := by decide +kernel
theorem d5_setOrder_0 : decode b5_setOrder 0 = .ok (.aload_n 0, 1) := by decide +kernel
theorem d5_setOrder_1 : decode b5_setOrder 1 = .ok (.getfield 44, 3) := by decide +kernel
theorem d5_setOrder_4 : decode b5_setOrder 4 = .ok (.getfield 118, 3) := by decide +kernel
theorem d5_setOrder_7 : decode b5_setOrder 7 = .ok (.ifCond .eq 7, 3) := by decide +kernel
theorem d5_setOrder_14 : decode b5_setOrder 14 = .ok (.iconst 0, 1) := by decide +kernel
theorem d5_setOrder_10 : decode b5_setOrder 10 = .ok (.iconst 1, 1) := by decide +kernel
theorem d5_setOrder_11 : decode b5_setOrder 11 = .ok (.goto 4, 3) := by decide +kernel
theorem d5_setOrder_15 : decode b5_setOrder 15 = .ok (.istore_n 2, 1) := by decide +kernel
theorem d5_setOrder_16 : decode b5_setOrder 16 = .ok (.aload_n 0, 1) := by decide +kernel
theorem d5_setOrder_17 : decode b5_setOrder 17 = .ok (.invokevirtual 334, 3) := by decide +kernel
theorem d5_setOrder_20 : decode b5_setOrder 20 = .ok (.aload_n 0, 1) := by decide +kernel
theorem d5_setOrder_21 : decode b5_setOrder 21 = .ok (.getfield 44, 3) := by decide +kernel
theorem d5_setOrder_24 : decode b5_setOrder 24 = .ok (.iload_n 1, 1) := by decide +kernel
theorem d5_setOrder_25 : decode b5_setOrder 25 = .ok (.putfield 118, 3) := by decide +kernel
theorem d5_setOrder_28 : decode b5_setOrder 28 = .ok (.iload_n 2, 1) := by decide +kernel
theorem d5_setOrder_29 : decode b5_setOrder 29 = .ok (.ireturn, 1) := by decide +kernel
theorem d5_undo_0 : decode b5_undo 0 = .ok (.aload_n 0, 1) := by decide +kernel
theorem d5_undo_1 : decode b5_undo 1 = .ok (.getfield 102, 3) := by decide +kernel
theorem d5_undo_4 : decode b5_undo 4 = .ok (.ifCond .ne 14, 3) := by decide +kernel
theorem d5_undo_18 : decode b5_undo 18 = .ok (.aload_n 0, 1) := by decide +kernel
theorem d5_undo_19 : decode b5_undo 19 = .ok (.aload_n 0, 1) := by decide +kernel
theorem d5_undo_20 : decode b5_undo 20 = .ok (.getfield 375, 3) := by decide +kernel
theorem d5_undo_23 : decode b5_undo 23 = .ok (.bipush 8, 2) := by decide +kernel
theorem d5_undo_25 : decode b5_undo 25 = .ok (.iadd, 1) := by decide +kernel
theorem d5_undo_26 : decode b5_undo 26 = .ok (.iconst 1, 1) := by decide +kernel
theorem d5_undo_27 : decode b5_undo 27 = .ok (.isub, 1) := by decide +kernel
theorem d5_undo_28 : decode b5_undo 28 = .ok (.bipush 8, 2) := by decide +kernel
theorem d5_undo_30 : decode b5_undo 30 = .ok (.irem, 1) := by decide +kernel
theorem d5_undo_31 : decode b5_undo 31 = .ok (.putfield 375, 3) := by decide +kernel
theorem d5_undo_34 : decode b5_undo 34 = .ok (.aload_n 0, 1) := by decide +kernel
theorem d5_undo_35 : decode b5_undo 35 = .ok (.dup, 1) := by decide +kernel
theorem d5_undo_36 : decode b5_undo 36 = .ok (.getfield 102, 3) := by decide +kernel
theorem d5_undo_39 : decode b5_undo 39 = .ok (.iconst 1, 1) := by decide +kernel
theorem d5_undo_40 : decode b5_undo 40 = .ok (.isub, 1) := by decide +kernel
theorem d5_undo_41 : decode b5_undo 41 = .ok (.putfield 102, 3) := by decide +kernel
theorem d5_undo_44 : decode b5_undo 44 = .ok (.aload_n 0, 1) := by decide +kernel
theorem d5_undo_45 : decode b5_undo 45 = .ok (.getfield 44, 3) := by decide +kernel
theorem d5_undo_48 : decode b5_undo 48 = .ok (.aload_n 0, 1) := by decide +kernel
theorem d5_undo_49 : decode b5_undo 49 = .ok (.getfield 18, 3) := by decide +kernel
theorem d5_undo_52 : decode b5_undo 52 = .ok (.aload_n 0, 1) := by decide +kernel
theorem d5_undo_53 : decode b5_undo 53 = .ok (.getfield 375, 3) := by decide +kernel
theorem d5_undo_56 : decode b5_undo 56 = .ok (.aaload, 1) := by decide +kernel
theorem d5_undo_57 : decode b5_undo 57 = .ok (.invokevirtual 378, 3) := by decide +kernel
theorem d5_undo_60 : decode b5_undo 60 = .ok (.aload_n 0, 1) := by decide +kernel
theorem d5_undo_61 : decode b5_undo 61 = .ok (.getfield 102, 3) := by decide +kernel
theorem d5_undo_64 : decode b5_undo 64 = .ok (.ireturn, 1) := by decide +kernel
theorem d5_undo_7 : decode b5_undo 7 = .ok (.new 66, 3) := by decide +kernel
theorem d5_undo_10 : decode b5_undo 10 = .ok (.dup, 1) := by decide +kernel
theorem d5_undo_11 : decode b5_undo 11 = .ok (.ldc_w 373, 3) := by decide +kernel
theorem d5_undo_14 : decode b5_undo 14 = .ok (.invokespecial 70, 3) := by decide +kernel
theorem d5_undo_17 : decode b5_undo 17 = .ok (.athrow, 1) := by decide +kernel
theorem d5_requireSlot_0 : decode b5_requireSlot 0 = .ok (.iload_n 0, 1) := by decide +kernel
theorem d5_requireSlot_1 : decode b5_requireSlot 1 = .ok (.ifCond .lt 8, 3) := by decide +kernel
theorem d5_requireSlot_4 : decode b5_requireSlot 4 = .ok (.iload_n 0, 1) := by decide +kernel
theorem d5_requireSlot_5 : decode b5_requireSlot 5 = .ok (.iconst 2, 1) := by decide +kernel
theorem d5_requireSlot_6 : decode b5_requireSlot 6 = .ok (.if_icmp .lt 14, 3) := by decide +kernel
theorem d5_requireSlot_20 : decode b5_requireSlot 20 = .ok (.return_, 1) := by decide +kernel
theorem d5_requireSlot_9 : decode b5_requireSlot 9 = .ok (.new 158, 3) := by decide +kernel
theorem d5_requireSlot_12 : decode b5_requireSlot 12 = .ok (.dup, 1) := by decide +kernel
theorem d5_requireSlot_13 : decode b5_requireSlot 13 = .ok (.ldc_w 396, 3) := by decide +kernel
theorem d5_requireSlot_16 : decode b5_requireSlot 16 = .ok (.invokespecial 162, 3) := by decide +kernel
theorem d5_requireSlot_19 : decode b5_requireSlot 19 = .ok (.athrow, 1) := by decide +kernel
theorem d5_save_0 : decode b5_save 0 = .ok (.iload_n 1, 1) := by decide +kernel
theorem d5_save_1 : decode b5_save 1 = .ok (.invokestatic 382, 3) := by decide +kernel
theorem d5_save_4 : decode b5_save 4 = .ok (.aload_n 0, 1) := by decide +kernel
theorem d5_save_5 : decode b5_save 5 = .ok (.getfield 22, 3) := by decide +kernel
theorem d5_save_8 : decode b5_save 8 = .ok (.iload_n 1, 1) := by decide +kernel
theorem d5_save_9 : decode b5_save 9 = .ok (.aaload, 1) := by decide +kernel
theorem d5_save_10 : decode b5_save 10 = .ok (.aload_n 0, 1) := by decide +kernel
theorem d5_save_11 : decode b5_save 11 = .ok (.getfield 44, 3) := by decide +kernel
theorem d5_save_14 : decode b5_save 14 = .ok (.invokevirtual 378, 3) := by decide +kernel
theorem d5_save_17 : decode b5_save 17 = .ok (.aload_n 0, 1) := by decide +kernel
theorem d5_save_18 : decode b5_save 18 = .ok (.getfield 25, 3) := by decide +kernel
theorem d5_save_21 : decode b5_save 21 = .ok (.iload_n 1, 1) := by decide +kernel
theorem d5_save_22 : decode b5_save 22 = .ok (.iconst 1, 1) := by decide +kernel
theorem d5_save_23 : decode b5_save 23 = .ok (.bastore, 1) := by decide +kernel
theorem d5_save_24 : decode b5_save 24 = .ok (.aload_n 0, 1) := by decide +kernel
theorem d5_save_25 : decode b5_save 25 = .ok (.getfield 44, 3) := by decide +kernel
theorem d5_save_28 : decode b5_save 28 = .ok (.getfield 112, 3) := by decide +kernel
theorem d5_save_31 : decode b5_save 31 = .ok (.ireturn, 1) := by decide +kernel
theorem d5_restore_0 : decode b5_restore 0 = .ok (.iload_n 1, 1) := by decide +kernel
theorem d5_restore_1 : decode b5_restore 1 = .ok (.invokestatic 382, 3) := by decide +kernel
theorem d5_restore_4 : decode b5_restore 4 = .ok (.aload_n 0, 1) := by decide +kernel
theorem d5_restore_5 : decode b5_restore 5 = .ok (.getfield 25, 3) := by decide +kernel
theorem d5_restore_8 : decode b5_restore 8 = .ok (.iload_n 1, 1) := by decide +kernel
theorem d5_restore_9 : decode b5_restore 9 = .ok (.baload, 1) := by decide +kernel
theorem d5_restore_10 : decode b5_restore 10 = .ok (.ifCond .ne 14, 3) := by decide +kernel
theorem d5_restore_24 : decode b5_restore 24 = .ok (.aload_n 0, 1) := by decide +kernel
theorem d5_restore_25 : decode b5_restore 25 = .ok (.getfield 44, 3) := by decide +kernel
theorem d5_restore_28 : decode b5_restore 28 = .ok (.aload_n 0, 1) := by decide +kernel
theorem d5_restore_29 : decode b5_restore 29 = .ok (.getfield 22, 3) := by decide +kernel
theorem d5_restore_32 : decode b5_restore 32 = .ok (.iload_n 1, 1) := by decide +kernel
theorem d5_restore_33 : decode b5_restore 33 = .ok (.aaload, 1) := by decide +kernel
theorem d5_restore_34 : decode b5_restore 34 = .ok (.invokevirtual 378, 3) := by decide +kernel
theorem d5_restore_37 : decode b5_restore 37 = .ok (.aload_n 0, 1) := by decide +kernel
theorem d5_restore_38 : decode b5_restore 38 = .ok (.iconst 0, 1) := by decide +kernel
theorem d5_restore_39 : decode b5_restore 39 = .ok (.putfield 102, 3) := by decide +kernel
theorem d5_restore_42 : decode b5_restore 42 = .ok (.aload_n 0, 1) := by decide +kernel
theorem d5_restore_43 : decode b5_restore 43 = .ok (.getfield 44, 3) := by decide +kernel
theorem d5_restore_46 : decode b5_restore 46 = .ok (.getfield 112, 3) := by decide +kernel
theorem d5_restore_49 : decode b5_restore 49 = .ok (.ireturn, 1) := by decide +kernel
theorem d5_restore_13 : decode b5_restore 13 = .ok (.new 66, 3) := by decide +kernel
theorem d5_restore_16 : decode b5_restore 16 = .ok (.dup, 1) := by decide +kernel
theorem d5_restore_17 : decode b5_restore 17 = .ok (.ldc_w 385, 3) := by decide +kernel
theorem d5_restore_20 : decode b5_restore 20 = .ok (.invokespecial 70, 3) := by decide +kernel
theorem d5_restore_23 : decode b5_restore 23 = .ok (.athrow, 1) := by decide +kernel
