theorem d4_take_0 : decode b4_take 0 = .ok (.aload_n 0, 1) := by decide +kernel
theorem d4_take_1 : decode b4_take 1 = .ok (.aload_n 1, 1) := by decide +kernel
theorem d4_take_2 : decode b4_take 2 = .ok (.putfield 43, 3) := by decide +kernel
theorem d4_take_5 : decode b4_take 5 = .ok (.aload_n 0, 1) := by decide +kernel
theorem d4_take_6 : decode b4_take 6 = .ok (.aload_n 2, 1) := by decide +kernel
theorem d4_take_7 : decode b4_take 7 = .ok (.getfield 47, 3) := by decide +kernel
theorem d4_take_10 : decode b4_take 10 = .ok (.iload_n 3, 1) := by decide +kernel
theorem d4_take_11 : decode b4_take 11 = .ok (.iaload, 1) := by decide +kernel
theorem d4_take_12 : decode b4_take 12 = .ok (.putfield 52, 3) := by decide +kernel
theorem d4_take_15 : decode b4_take 15 = .ok (.iconst 0, 1) := by decide +kernel
theorem d4_take_16 : decode b4_take 16 = .ok (.istore 4, 2) := by decide +kernel
theorem d4_take_18 : decode b4_take 18 = .ok (.iload 4, 2) := by decide +kernel
theorem d4_take_20 : decode b4_take 20 = .ok (.bipush 10, 2) := by decide +kernel
theorem d4_take_22 : decode b4_take 22 = .ok (.if_icmp .ge 60, 3) := by decide +kernel
theorem d4_take_82 : decode b4_take 82 = .ok (.return_, 1) := by decide +kernel
theorem d4_take_25 : decode b4_take 25 = .ok (.aload_n 2, 1) := by decide +kernel
theorem d4_take_26 : decode b4_take 26 = .ok (.iload_n 3, 1) := by decide +kernel
theorem d4_take_27 : decode b4_take 27 = .ok (.iload 4, 2) := by decide +kernel
theorem d4_take_29 : decode b4_take 29 = .ok (.invokevirtual 56, 3) := by decide +kernel
theorem d4_take_32 : decode b4_take 32 = .ok (.istore 5, 2) := by decide +kernel
theorem d4_take_34 : decode b4_take 34 = .ok (.iload_n 3, 1) := by decide +kernel
theorem d4_take_35 : decode b4_take 35 = .ok (.bipush 10, 2) := by decide +kernel
theorem d4_take_37 : decode b4_take 37 = .ok (.imul, 1) := by decide +kernel
theorem d4_take_38 : decode b4_take 38 = .ok (.iload 4, 2) := by decide +kernel
theorem d4_take_40 : decode b4_take 40 = .ok (.iadd, 1) := by decide +kernel
theorem d4_take_41 : decode b4_take 41 = .ok (.bipush 40, 2) := by decide +kernel
theorem d4_take_43 : decode b4_take 43 = .ok (.imul, 1) := by decide +kernel
theorem d4_take_44 : decode b4_take 44 = .ok (.istore 6, 2) := by decide +kernel
theorem d4_take_46 : decode b4_take 46 = .ok (.aload_n 0, 1) := by decide +kernel
theorem d4_take_47 : decode b4_take 47 = .ok (.getfield 9, 3) := by decide +kernel
theorem d4_take_50 : decode b4_take 50 = .ok (.iload 4, 2) := by decide +kernel
theorem d4_take_52 : decode b4_take 52 = .ok (.iload 5, 2) := by decide +kernel
theorem d4_take_54 : decode b4_take 54 = .ok (.iastore, 1) := by decide +kernel
theorem d4_take_55 : decode b4_take 55 = .ok (.aload_n 2, 1) := by decide +kernel
theorem d4_take_56 : decode b4_take 56 = .ok (.getfield 60, 3) := by decide +kernel
theorem d4_take_59 : decode b4_take 59 = .ok (.iload 6, 2) := by decide +kernel
theorem d4_take_61 : decode b4_take 61 = .ok (.aload_n 0, 1) := by decide +kernel
theorem d4_take_62 : decode b4_take 62 = .ok (.getfield 32, 3) := by decide +kernel
theorem d4_take_65 : decode b4_take 65 = .ok (.iload 4, 2) := by decide +kernel
theorem d4_take_67 : decode b4_take 67 = .ok (.sipush 400, 3) := by decide +kernel
theorem d4_take_70 : decode b4_take 70 = .ok (.imul, 1) := by decide +kernel
theorem d4_take_71 : decode b4_take 71 = .ok (.iload 5, 2) := by decide +kernel
theorem d4_take_73 : decode b4_take 73 = .ok (.invokestatic 63, 3) := by decide +kernel
theorem d4_take_76 : decode b4_take 76 = .ok (.iinc 4 1, 3) := by decide +kernel
theorem d4_take_79 : decode b4_take 79 = .ok (.goto (-61), 3) := by decide +kernel
theorem d4_takeUntouched_0 : decode b4_takeUntouched 0 = .ok (.aload_n 0, 1) := by decide +kernel
theorem d4_takeUntouched_1 : decode b4_takeUntouched 1 = .ok (.aload_n 1, 1) := by decide +kernel
theorem d4_takeUntouched_2 : decode b4_takeUntouched 2 = .ok (.putfield 43, 3) := by decide +kernel
theorem d4_takeUntouched_5 : decode b4_takeUntouched 5 = .ok (.aload_n 0, 1) := by decide +kernel
theorem d4_takeUntouched_6 : decode b4_takeUntouched 6 = .ok (.iconst 0, 1) := by decide +kernel
theorem d4_takeUntouched_7 : decode b4_takeUntouched 7 = .ok (.putfield 52, 3) := by decide +kernel
theorem d4_takeUntouched_10 : decode b4_takeUntouched 10 = .ok (.return_, 1) := by decide +kernel
theorem d4_supposeTyped_0 : decode b4_supposeTyped 0 = .ok (.aload_n 0, 1) := by decide +kernel
theorem d4_supposeTyped_1 : decode b4_supposeTyped 1 = .ok (.dup, 1) := by decide +kernel
theorem d4_supposeTyped_2 : decode b4_supposeTyped 2 = .ok (.getfield 52, 3) := by decide +kernel
theorem d4_supposeTyped_5 : decode b4_supposeTyped 5 = .ok (.iconst 1, 1) := by decide +kernel
theorem d4_supposeTyped_6 : decode b4_supposeTyped 6 = .ok (.iload_n 1, 1) := by decide +kernel
theorem d4_supposeTyped_7 : decode b4_supposeTyped 7 = .ok (.ishl, 1) := by decide +kernel
theorem d4_supposeTyped_8 : decode b4_supposeTyped 8 = .ok (.ior, 1) := by decide +kernel
theorem d4_supposeTyped_9 : decode b4_supposeTyped 9 = .ok (.putfield 52, 3) := by decide +kernel
theorem d4_supposeTyped_12 : decode b4_supposeTyped 12 = .ok (.aload_n 0, 1) := by decide +kernel
theorem d4_supposeTyped_13 : decode b4_supposeTyped 13 = .ok (.getfield 9, 3) := by decide +kernel
theorem d4_supposeTyped_16 : decode b4_supposeTyped 16 = .ok (.iload_n 1, 1) := by decide +kernel
theorem d4_supposeTyped_17 : decode b4_supposeTyped 17 = .ok (.iload_n 2, 1) := by decide +kernel
theorem d4_supposeTyped_18 : decode b4_supposeTyped 18 = .ok (.iastore, 1) := by decide +kernel
theorem d4_supposeTyped_19 : decode b4_supposeTyped 19 = .ok (.return_, 1) := by decide +kernel
theorem d4_supposeNotTyped_0 : decode b4_supposeNotTyped 0 = .ok (.aload_n 0, 1) := by decide +kernel
theorem d4_supposeNotTyped_1 : decode b4_supposeNotTyped 1 = .ok (.dup, 1) := by decide +kernel
theorem d4_supposeNotTyped_2 : decode b4_supposeNotTyped 2 = .ok (.getfield 52, 3) := by decide +kernel
theorem d4_supposeNotTyped_5 : decode b4_supposeNotTyped 5 = .ok (.iconst 1, 1) := by decide +kernel
theorem d4_supposeNotTyped_6 : decode b4_supposeNotTyped 6 = .ok (.iload_n 1, 1) := by decide +kernel
theorem d4_supposeNotTyped_7 : decode b4_supposeNotTyped 7 = .ok (.ishl, 1) := by decide +kernel
theorem d4_supposeNotTyped_8 : decode b4_supposeNotTyped 8 = .ok (.iconst (-1), 1) := by decide +kernel
theorem d4_supposeNotTyped_9 : decode b4_supposeNotTyped 9 = .ok (.ixor, 1) := by decide +kernel
theorem d4_supposeNotTyped_10 : decode b4_supposeNotTyped 10 = .ok (.iand, 1) := by decide +kernel
theorem d4_supposeNotTyped_11 : decode b4_supposeNotTyped 11 = .ok (.putfield 52, 3) := by decide +kernel
theorem d4_supposeNotTyped_14 : decode b4_supposeNotTyped 14 = .ok (.return_, 1) := by decide +kernel
theorem d4_isTyped_0 : decode b4_isTyped 0 = .ok (.aload_n 0, 1) := by decide +kernel
theorem d4_isTyped_1 : decode b4_isTyped 1 = .ok (.getfield 52, 3) := by decide +kernel
theorem d4_isTyped_4 : decode b4_isTyped 4 = .ok (.iload_n 1, 1) := by decide +kernel
theorem d4_isTyped_5 : decode b4_isTyped 5 = .ok (.ishr, 1) := by decide +kernel
theorem d4_isTyped_6 : decode b4_isTyped 6 = .ok (.iconst 1, 1) := by decide +kernel
theorem d4_isTyped_7 : decode b4_isTyped 7 = .ok (.iand, 1) := by decide +kernel
theorem d4_isTyped_8 : decode b4_isTyped 8 = .ok (.ifCond .eq 7, 3) := by decide +kernel
theorem d4_isTyped_15 : decode b4_isTyped 15 = .ok (.iconst 0, 1) := by decide +kernel
theorem d4_isTyped_16 : decode b4_isTyped 16 = .ok (.ireturn, 1) := by decide +kernel
theorem d4_isTyped_11 : decode b4_isTyped 11 = .ok (.iconst 1, 1) := by decide +kernel
theorem d4_isTyped_12 : decode b4_isTyped 12 = .ok (.goto 4, 3) := by decide +kernel
theorem d4_isLive_0 : decode b4_isLive 0 = .ok (.aload_n 0, 1) := by decide +kernel
theorem d4_isLive_1 : decode b4_isLive 1 = .ok (.getfield 69, 3) := by decide +kernel
theorem d4_isLive_4 : decode b4_isLive 4 = .ok (.iload_n 1, 1) := by decide +kernel
theorem d4_isLive_5 : decode b4_isLive 5 = .ok (.ishr, 1) := by decide +kernel
theorem d4_isLive_6 : decode b4_isLive 6 = .ok (.iconst 1, 1) := by decide +kernel
theorem d4_isLive_7 : decode b4_isLive 7 = .ok (.iand, 1) := by decide +kernel
theorem d4_isLive_8 : decode b4_isLive 8 = .ok (.ifCond .eq 7, 3) := by decide +kernel
theorem d4_isLive_15 : decode b4_isLive 15 = .ok (.iconst 0, 1) := by decide +kernel
theorem d4_isLive_16 : decode b4_isLive 16 = .ok (.ireturn, 1) := by decide +kernel
theorem d4_isLive_11 : decode b4_isLive 11 = .ok (.iconst 1, 1) := by decide +kernel
theorem d4_isLive_12 : decode b4_isLive 12 = .ok (.goto 4, 3) := by decide +kernel
theorem d4_isDefaultShown_0 : decode b4_isDefaultShown 0 = .ok (.aload_n 0, 1) := by decide +kernel
theorem d4_isDefaultShown_1 : decode b4_isDefaultShown 1 = .ok (.getfield 19, 3) := by decide +kernel
theorem d4_isDefaultShown_4 : decode b4_isDefaultShown 4 = .ok (.aload_n 0, 1) := by decide +kernel
theorem d4_isDefaultShown_5 : decode b4_isDefaultShown 5 = .ok (.getfield 43, 3) := by decide +kernel
theorem d4_isDefaultShown_8 : decode b4_isDefaultShown 8 = .ok (.getfield 72, 3) := by decide +kernel
theorem d4_isDefaultShown_11 : decode b4_isDefaultShown 11 = .ok (.iload_n 1, 1) := by decide +kernel
theorem d4_isDefaultShown_12 : decode b4_isDefaultShown 12 = .ok (.iaload, 1) := by decide +kernel
theorem d4_isDefaultShown_13 : decode b4_isDefaultShown 13 = .ok (.iaload, 1) := by decide +kernel
theorem d4_isDefaultShown_14 : decode b4_isDefaultShown 14 = .ok (.iload_n 1, 1) := by decide +kernel
theorem d4_isDefaultShown_15 : decode b4_isDefaultShown 15 = .ok (.if_icmp .ne 7, 3) := by decide +kernel
theorem d4_isDefaultShown_22 : decode b4_isDefaultShown 22 = .ok (.iconst 0, 1) := by decide +kernel
theorem d4_isDefaultShown_23 : decode b4_isDefaultShown 23 = .ok (.ireturn, 1) := by decide +kernel
theorem d4_isDefaultShown_18 : decode b4_isDefaultShown 18 = .ok (.iconst 1, 1) := by decide +kernel
theorem d4_isDefaultShown_19 : decode b4_isDefaultShown 19 = .ok (.goto 4, 3) := by decide +kernel
theorem d4_show_0 : decode b4_show 0 = .ok (.aload_n 0, 1) := by decide +kernel
theorem d4_show_1 : decode b4_show 1 = .ok (.iconst 0, 1) := by decide +kernel
theorem d4_show_2 : decode b4_show 2 = .ok (.putfield 69, 3) := by decide +kernel
theorem d4_show_5 : decode b4_show 5 = .ok (.iconst 0, 1) := by decide +kernel
theorem d4_show_6 : decode b4_show 6 = .ok (.istore_n 1, 1) := by decide +kernel
theorem d4_show_7 : decode b4_show 7 = .ok (.iload_n 1, 1) := by decide +kernel
theorem d4_show_8 : decode b4_show 8 = .ok (.bipush 10, 2) := by decide +kernel
theorem d4_show_10 : decode b4_show 10 = .ok (.if_icmp .ge 23, 3) := by decide +kernel
theorem d4_show_33 : decode b4_show 33 = .ok (.iconst 0, 1) := by decide +kernel
theorem d4_show_34 : decode b4_show 34 = .ok (.istore_n 1, 1) := by decide +kernel
theorem d4_show_13 : decode b4_show 13 = .ok (.aload_n 0, 1) := by decide +kernel
theorem d4_show_14 : decode b4_show 14 = .ok (.getfield 19, 3) := by decide +kernel
theorem d4_show_17 : decode b4_show 17 = .ok (.iload_n 1, 1) := by decide +kernel
theorem d4_show_18 : decode b4_show 18 = .ok (.iconst (-1), 1) := by decide +kernel
theorem d4_show_19 : decode b4_show 19 = .ok (.iastore, 1) := by decide +kernel
theorem d4_show_20 : decode b4_show 20 = .ok (.aload_n 0, 1) := by decide +kernel
theorem d4_show_21 : decode b4_show 21 = .ok (.getfield 22, 3) := by decide +kernel
theorem d4_show_24 : decode b4_show 24 = .ok (.iload_n 1, 1) := by decide +kernel
theorem d4_show_25 : decode b4_show 25 = .ok (.iconst 0, 1) := by decide +kernel
theorem d4_show_26 : decode b4_show 26 = .ok (.iastore, 1) := by decide +kernel
theorem d4_show_27 : decode b4_show 27 = .ok (.iinc 1 1, 3) := by decide +kernel
theorem d4_show_30 : decode b4_show 30 = .ok (.goto (-23), 3) := by decide +kernel
theorem d4_show_35 : decode b4_show 35 = .ok (.iload_n 1, 1) := by decide +kernel
theorem d4_show_36 : decode b4_show 36 = .ok (.aload_n 0, 1) := by decide +kernel
theorem d4_show_37 : decode b4_show 37 = .ok (.getfield 43, 3) := by decide +kernel
theorem d4_show_40 : decode b4_show 40 = .ok (.getfield 99, 3) := by decide +kernel
theorem d4_show_43 : decode b4_show 43 = .ok (.if_icmp .ge 121, 3) := by decide +kernel
theorem d4_show_164 : decode b4_show 164 = .ok (.return_, 1) := by decide +kernel
theorem d4_show_46 : decode b4_show 46 = .ok (.aload_n 0, 1) := by decide +kernel
theorem d4_show_47 : decode b4_show 47 = .ok (.getfield 43, 3) := by decide +kernel
theorem d4_show_50 : decode b4_show 50 = .ok (.getfield 72, 3) := by decide +kernel
theorem d4_show_53 : decode b4_show 53 = .ok (.iload_n 1, 1) := by decide +kernel
theorem d4_show_54 : decode b4_show 54 = .ok (.iaload, 1) := by decide +kernel
theorem d4_show_55 : decode b4_show 55 = .ok (.istore_n 2, 1) := by decide +kernel
theorem d4_show_56 : decode b4_show 56 = .ok (.aload_n 0, 1) := by decide +kernel
theorem d4_show_57 : decode b4_show 57 = .ok (.getfield 43, 3) := by decide +kernel
theorem d4_show_60 : decode b4_show 60 = .ok (.getfield 102, 3) := by decide +kernel
theorem d4_show_63 : decode b4_show 63 = .ok (.iload_n 1, 1) := by decide +kernel
theorem d4_show_64 : decode b4_show 64 = .ok (.iaload, 1) := by decide +kernel
theorem d4_show_65 : decode b4_show 65 = .ok (.istore_n 3, 1) := by decide +kernel
theorem d4_show_66 : decode b4_show 66 = .ok (.aload_n 0, 1) := by decide +kernel
theorem d4_show_67 : decode b4_show 67 = .ok (.getfield 15, 3) := by decide +kernel
theorem d4_show_70 : decode b4_show 70 = .ok (.iload_n 1, 1) := by decide +kernel
theorem d4_show_71 : decode b4_show 71 = .ok (.iload_n 3, 1) := by decide +kernel
theorem d4_show_72 : decode b4_show 72 = .ok (.iconst (-1), 1) := by decide +kernel
theorem d4_show_73 : decode b4_show 73 = .ok (.if_icmp .eq 11, 3) := by decide +kernel
theorem d4_show_84 : decode b4_show 84 = .ok (.iconst 1, 1) := by decide +kernel
theorem d4_show_85 : decode b4_show 85 = .ok (.goto 4, 3) := by decide +kernel
theorem d4_show_76 : decode b4_show 76 = .ok (.aload_n 0, 1) := by decide +kernel
theorem d4_show_77 : decode b4_show 77 = .ok (.iload_n 3, 1) := by decide +kernel
theorem d4_show_78 : decode b4_show 78 = .ok (.invokevirtual 105, 3) := by decide +kernel
theorem d4_show_81 : decode b4_show 81 = .ok (.ifCond .eq 7, 3) := by decide +kernel
theorem d4_show_88 : decode b4_show 88 = .ok (.iconst 0, 1) := by decide +kernel
theorem d4_show_89 : decode b4_show 89 = .ok (.bastore, 1) := by decide +kernel
theorem d4_show_90 : decode b4_show 90 = .ok (.aload_n 0, 1) := by decide +kernel
theorem d4_show_91 : decode b4_show 91 = .ok (.getfield 15, 3) := by decide +kernel
theorem d4_show_94 : decode b4_show 94 = .ok (.iload_n 1, 1) := by decide +kernel
theorem d4_show_95 : decode b4_show 95 = .ok (.baload, 1) := by decide +kernel
theorem d4_show_96 : decode b4_show 96 = .ok (.ifCond .eq 62, 3) := by decide +kernel
theorem d4_show_158 : decode b4_show 158 = .ok (.iinc 1 1, 3) := by decide +kernel
theorem d4_show_161 : decode b4_show 161 = .ok (.goto (-126), 3) := by decide +kernel
theorem d4_show_99 : decode b4_show 99 = .ok (.aload_n 0, 1) := by decide +kernel
theorem d4_show_100 : decode b4_show 100 = .ok (.dup, 1) := by decide +kernel
theorem d4_show_101 : decode b4_show 101 = .ok (.getfield 69, 3) := by decide +kernel
theorem d4_show_104 : decode b4_show 104 = .ok (.iconst 1, 1) := by decide +kernel
theorem d4_show_105 : decode b4_show 105 = .ok (.iload_n 2, 1) := by decide +kernel
theorem d4_show_106 : decode b4_show 106 = .ok (.ishl, 1) := by decide +kernel
theorem d4_show_107 : decode b4_show 107 = .ok (.ior, 1) := by decide +kernel
theorem d4_show_108 : decode b4_show 108 = .ok (.putfield 69, 3) := by decide +kernel
theorem d4_show_111 : decode b4_show 111 = .ok (.aload_n 0, 1) := by decide +kernel
theorem d4_show_112 : decode b4_show 112 = .ok (.getfield 22, 3) := by decide +kernel
theorem d4_show_115 : decode b4_show 115 = .ok (.iload_n 2, 1) := by decide +kernel
theorem d4_show_116 : decode b4_show 116 = .ok (.dup2, 1) := by decide +kernel
theorem d4_show_117 : decode b4_show 117 = .ok (.iaload, 1) := by decide +kernel
theorem d4_show_118 : decode b4_show 118 = .ok (.iconst 1, 1) := by decide +kernel
theorem d4_show_119 : decode b4_show 119 = .ok (.iadd, 1) := by decide +kernel
theorem d4_show_120 : decode b4_show 120 = .ok (.iastore, 1) := by decide +kernel
theorem d4_show_121 : decode b4_show 121 = .ok (.aload_n 0, 1) := by decide +kernel
theorem d4_show_122 : decode b4_show 122 = .ok (.getfield 43, 3) := by decide +kernel
theorem d4_show_125 : decode b4_show 125 = .ok (.getfield 108, 3) := by decide +kernel
theorem d4_show_128 : decode b4_show 128 = .ok (.iload_n 1, 1) := by decide +kernel
theorem d4_show_129 : decode b4_show 129 = .ok (.baload, 1) := by decide +kernel
theorem d4_show_130 : decode b4_show 130 = .ok (.ifCond .eq 28, 3) := by decide +kernel
theorem d4_show_133 : decode b4_show 133 = .ok (.aload_n 0, 1) := by decide +kernel
theorem d4_show_134 : decode b4_show 134 = .ok (.iload_n 2, 1) := by decide +kernel
theorem d4_show_135 : decode b4_show 135 = .ok (.invokevirtual 87, 3) := by decide +kernel
theorem d4_show_138 : decode b4_show 138 = .ok (.ifCond .ne 20, 3) := by decide +kernel
theorem d4_show_141 : decode b4_show 141 = .ok (.aload_n 0, 1) := by decide +kernel
theorem d4_show_142 : decode b4_show 142 = .ok (.getfield 19, 3) := by decide +kernel
theorem d4_show_145 : decode b4_show 145 = .ok (.iload_n 2, 1) := by decide +kernel
theorem d4_show_146 : decode b4_show 146 = .ok (.iaload, 1) := by decide +kernel
theorem d4_show_147 : decode b4_show 147 = .ok (.iconst (-1), 1) := by decide +kernel
theorem d4_show_148 : decode b4_show 148 = .ok (.if_icmp .ne 10, 3) := by decide +kernel
theorem d4_show_151 : decode b4_show 151 = .ok (.aload_n 0, 1) := by decide +kernel
theorem d4_show_152 : decode b4_show 152 = .ok (.getfield 19, 3) := by decide +kernel
theorem d4_show_155 : decode b4_show 155 = .ok (.iload_n 2, 1) := by decide +kernel
theorem d4_show_156 : decode b4_show 156 = .ok (.iload_n 1, 1) := by decide +kernel
theorem d4_show_157 : decode b4_show 157 = .ok (.iastore, 1) := by decide +kernel
theorem dJ_bitCount_0 : decode bJ_bitCount 0 = .ok (.iload_n 0, 1) := by decide +kernel
theorem dJ_bitCount_1 : decode bJ_bitCount 1 = .ok (.iload_n 0, 1) := by decide +kernel
theorem dJ_bitCount_2 : decode bJ_bitCount 2 = .ok (.iconst 1, 1) := by decide +kernel
theorem dJ_bitCount_3 : decode bJ_bitCount 3 = .ok (.iushr, 1) := by decide +kernel
theorem dJ_bitCount_4 : decode bJ_bitCount 4 = .ok (.ldc_w 265, 3) := by decide +kernel
theorem dJ_bitCount_7 : decode bJ_bitCount 7 = .ok (.iand, 1) := by decide +kernel
theorem dJ_bitCount_8 : decode bJ_bitCount 8 = .ok (.isub, 1) := by decide +kernel
theorem dJ_bitCount_9 : decode bJ_bitCount 9 = .ok (.istore_n 0, 1) := by decide +kernel
theorem dJ_bitCount_10 : decode bJ_bitCount 10 = .ok (.iload_n 0, 1) := by decide +kernel
theorem dJ_bitCount_11 : decode bJ_bitCount 11 = .ok (.ldc_w 266, 3) := by decide +kernel
theorem dJ_bitCount_14 : decode bJ_bitCount 14 = .ok (.iand, 1) := by decide +kernel
theorem dJ_bitCount_15 : decode bJ_bitCount 15 = .ok (.iload_n 0, 1) := by decide +kernel
theorem dJ_bitCount_16 : decode bJ_bitCount 16 = .ok (.iconst 2, 1) := by decide +kernel
theorem dJ_bitCount_17 : decode bJ_bitCount 17 = .ok (.iushr, 1) := by decide +kernel
theorem dJ_bitCount_18 : decode bJ_bitCount 18 = .ok (.ldc_w 266, 3) := by decide +kernel
theorem dJ_bitCount_21 : decode bJ_bitCount 21 = .ok (.iand, 1) := by decide +kernel
theorem dJ_bitCount_22 : decode bJ_bitCount 22 = .ok (.iadd, 1) := by decide +kernel
theorem dJ_bitCount_23 : decode bJ_bitCount 23 = .ok (.istore_n 0, 1) := by decide +kernel
theorem dJ_bitCount_24 : decode bJ_bitCount 24 = .ok (.iload_n 0, 1) := by decide +kernel
theorem dJ_bitCount_25 : decode bJ_bitCount 25 = .ok (.iload_n 0, 1) := by decide +kernel
theorem dJ_bitCount_26 : decode bJ_bitCount 26 = .ok (.iconst 4, 1) := by decide +kernel
theorem dJ_bitCount_27 : decode bJ_bitCount 27 = .ok (.iushr, 1) := by decide +kernel
theorem dJ_bitCount_28 : decode bJ_bitCount 28 = .ok (.iadd, 1) := by decide +kernel
theorem dJ_bitCount_29 : decode bJ_bitCount 29 = .ok (.ldc_w 267, 3) := by decide +kernel
theorem dJ_bitCount_32 : decode bJ_bitCount 32 = .ok (.iand, 1) := by decide +kernel
theorem dJ_bitCount_33 : decode bJ_bitCount 33 = .ok (.istore_n 0, 1) := by decide +kernel
theorem dJ_bitCount_34 : decode bJ_bitCount 34 = .ok (.iload_n 0, 1) := by decide +kernel
theorem dJ_bitCount_35 : decode bJ_bitCount 35 = .ok (.iload_n 0, 1) := by decide +kernel
theorem dJ_bitCount_36 : decode bJ_bitCount 36 = .ok (.bipush 8, 2) := by decide +kernel
theorem dJ_bitCount_38 : decode bJ_bitCount 38 = .ok (.iushr, 1) := by decide +kernel
theorem dJ_bitCount_39 : decode bJ_bitCount 39 = .ok (.iadd, 1) := by decide +kernel
theorem dJ_bitCount_40 : decode bJ_bitCount 40 = .ok (.istore_n 0, 1) := by decide +kernel
theorem dJ_bitCount_41 : decode bJ_bitCount 41 = .ok (.iload_n 0, 1) := by decide +kernel
theorem dJ_bitCount_42 : decode bJ_bitCount 42 = .ok (.iload_n 0, 1) := by decide +kernel
theorem dJ_bitCount_43 : decode bJ_bitCount 43 = .ok (.bipush 16, 2) := by decide +kernel
theorem dJ_bitCount_45 : decode bJ_bitCount 45 = .ok (.iushr, 1) := by decide +kernel
theorem dJ_bitCount_46 : decode bJ_bitCount 46 = .ok (.iadd, 1) := by decide +kernel
theorem dJ_bitCount_47 : decode bJ_bitCount 47 = .ok (.istore_n 0, 1) := by decide +kernel
theorem dJ_bitCount_48 : decode bJ_bitCount 48 = .ok (.iload_n 0, 1) := by decide +kernel
theorem dJ_bitCount_49 : decode bJ_bitCount 49 = .ok (.bipush 63, 2) := by decide +kernel
theorem dJ_bitCount_51 : decode bJ_bitCount 51 = .ok (.iand, 1) := by decide +kernel
theorem dJ_bitCount_52 : decode bJ_bitCount 52 = .ok (.ireturn, 1) := by decide +kernel
theorem d4_countDigits_0 : decode b4_countDigits 0 = .ok (.iconst 1, 1) := by decide +kernel
theorem d4_countDigits_1 : decode b4_countDigits 1 = .ok (.istore_n 2, 1) := by decide +kernel
theorem d4_countDigits_2 : decode b4_countDigits 2 = .ok (.lload_n 0, 1) := by decide +kernel
theorem d4_countDigits_3 : decode b4_countDigits 3 = .ok (.ldc2_w 130, 3) := by decide +kernel
theorem d4_countDigits_6 : decode b4_countDigits 6 = .ok (.ldiv, 1) := by decide +kernel
theorem d4_countDigits_7 : decode b4_countDigits 7 = .ok (.lstore_n 3, 1) := by decide +kernel
theorem d4_countDigits_8 : decode b4_countDigits 8 = .ok (.iconst 0, 1) := by decide +kernel
theorem d4_countDigits_9 : decode b4_countDigits 9 = .ok (.istore 5, 2) := by decide +kernel
theorem d4_countDigits_11 : decode b4_countDigits 11 = .ok (.iload 5, 2) := by decide +kernel
theorem d4_countDigits_13 : decode b4_countDigits 13 = .ok (.bipush 20, 2) := by decide +kernel
theorem d4_countDigits_15 : decode b4_countDigits 15 = .ok (.if_icmp .ge 24, 3) := by decide +kernel
theorem d4_countDigits_39 : decode b4_countDigits 39 = .ok (.iload_n 2, 1) := by decide +kernel
theorem d4_countDigits_40 : decode b4_countDigits 40 = .ok (.ireturn, 1) := by decide +kernel
theorem d4_countDigits_18 : decode b4_countDigits 18 = .ok (.lload_n 3, 1) := by decide +kernel
theorem d4_countDigits_19 : decode b4_countDigits 19 = .ok (.lconst 0, 1) := by decide +kernel
theorem d4_countDigits_20 : decode b4_countDigits 20 = .ok (.lcmp, 1) := by decide +kernel
theorem d4_countDigits_21 : decode b4_countDigits 21 = .ok (.ifCond .le 18, 3) := by decide +kernel
theorem d4_countDigits_24 : decode b4_countDigits 24 = .ok (.lload_n 3, 1) := by decide +kernel
theorem d4_countDigits_25 : decode b4_countDigits 25 = .ok (.ldc2_w 130, 3) := by decide +kernel
theorem d4_countDigits_28 : decode b4_countDigits 28 = .ok (.ldiv, 1) := by decide +kernel
theorem d4_countDigits_29 : decode b4_countDigits 29 = .ok (.lstore_n 3, 1) := by decide +kernel
theorem d4_countDigits_30 : decode b4_countDigits 30 = .ok (.iinc 2 1, 3) := by decide +kernel
theorem d4_countDigits_33 : decode b4_countDigits 33 = .ok (.iinc 5 1, 3) := by decide +kernel
theorem d4_countDigits_36 : decode b4_countDigits 36 = .ok (.goto (-25), 3) := by decide +kernel
theorem d4_changedLength_0 : decode b4_changedLength 0 = .ok (.aload_n 0, 1) := by decide +kernel
theorem d4_changedLength_1 : decode b4_changedLength 1 = .ok (.getfield 25, 3) := by decide +kernel
theorem d4_changedLength_4 : decode b4_changedLength 4 = .ok (.aload_n 0, 1) := by decide +kernel
theorem d4_changedLength_5 : decode b4_changedLength 5 = .ok (.getfield 43, 3) := by decide +kernel
theorem d4_changedLength_8 : decode b4_changedLength 8 = .ok (.getfield 72, 3) := by decide +kernel
theorem d4_changedLength_11 : decode b4_changedLength 11 = .ok (.iload_n 1, 1) := by decide +kernel
theorem d4_changedLength_12 : decode b4_changedLength 12 = .ok (.iaload, 1) := by decide +kernel
theorem d4_changedLength_13 : decode b4_changedLength 13 = .ok (.laload, 1) := by decide +kernel
theorem d4_changedLength_14 : decode b4_changedLength 14 = .ok (.lstore_n 2, 1) := by decide +kernel
theorem d4_changedLength_15 : decode b4_changedLength 15 = .ok (.aload_n 0, 1) := by decide +kernel
theorem d4_changedLength_16 : decode b4_changedLength 16 = .ok (.getfield 43, 3) := by decide +kernel
theorem d4_changedLength_19 : decode b4_changedLength 19 = .ok (.getfield 117, 3) := by decide +kernel
theorem d4_changedLength_22 : decode b4_changedLength 22 = .ok (.iload_n 1, 1) := by decide +kernel
theorem d4_changedLength_23 : decode b4_changedLength 23 = .ok (.iaload, 1) := by decide +kernel
theorem d4_changedLength_24 : decode b4_changedLength 24 = .ok (.lookupswitch 40 #[(4, 28), (5, 34)], 28) := by decide +kernel
theorem d4_changedLength_52 : decode b4_changedLength 52 = .ok (.lload_n 2, 1) := by decide +kernel
theorem d4_changedLength_53 : decode b4_changedLength 53 = .ok (.lconst 1, 1) := by decide +kernel
theorem d4_changedLength_54 : decode b4_changedLength 54 = .ok (.invokestatic 120, 3) := by decide +kernel
theorem d4_changedLength_57 : decode b4_changedLength 57 = .ok (.lreturn, 1) := by decide +kernel
theorem d4_changedLength_58 : decode b4_changedLength 58 = .ok (.lload_n 2, 1) := by decide +kernel
theorem d4_changedLength_59 : decode b4_changedLength 59 = .ok (.invokestatic 126, 3) := by decide +kernel
theorem d4_changedLength_62 : decode b4_changedLength 62 = .ok (.i2l, 1) := by decide +kernel
theorem d4_changedLength_63 : decode b4_changedLength 63 = .ok (.lreturn, 1) := by decide +kernel
theorem d4_changedLength_64 : decode b4_changedLength 64 = .ok (.lload_n 2, 1) := by decide +kernel
theorem d4_changedLength_65 : decode b4_changedLength 65 = .ok (.lreturn, 1) := by decide +kernel
theorem d4_measurePart_0 : decode b4_measurePart 0 = .ok (.aload_n 0, 1) := by decide +kernel
theorem d4_measurePart_1 : decode b4_measurePart 1 = .ok (.getfield 43, 3) := by decide +kernel
theorem d4_measurePart_4 : decode b4_measurePart 4 = .ok (.getfield 111, 3) := by decide +kernel
theorem d4_measurePart_7 : decode b4_measurePart 7 = .ok (.iload_n 1, 1) := by decide +kernel
theorem d4_measurePart_8 : decode b4_measurePart 8 = .ok (.iconst 1, 1) := by decide +kernel
theorem d4_measurePart_9 : decode b4_measurePart 9 = .ok (.iadd, 1) := by decide +kernel
theorem d4_measurePart_10 : decode b4_measurePart 10 = .ok (.iaload, 1) := by decide +kernel
theorem d4_measurePart_11 : decode b4_measurePart 11 = .ok (.i2l, 1) := by decide +kernel
theorem d4_measurePart_12 : decode b4_measurePart 12 = .ok (.lstore_n 2, 1) := by decide +kernel
theorem d4_measurePart_13 : decode b4_measurePart 13 = .ok (.iconst 0, 1) := by decide +kernel
theorem d4_measurePart_14 : decode b4_measurePart 14 = .ok (.istore 4, 2) := by decide +kernel
theorem d4_measurePart_16 : decode b4_measurePart 16 = .ok (.iload 4, 2) := by decide +kernel
theorem d4_measurePart_18 : decode b4_measurePart 18 = .ok (.aload_n 0, 1) := by decide +kernel
theorem d4_measurePart_19 : decode b4_measurePart 19 = .ok (.getfield 43, 3) := by decide +kernel
theorem d4_measurePart_22 : decode b4_measurePart 22 = .ok (.getfield 99, 3) := by decide +kernel
theorem d4_measurePart_25 : decode b4_measurePart 25 = .ok (.if_icmp .ge 32, 3) := by decide +kernel
theorem d4_measurePart_57 : decode b4_measurePart 57 = .ok (.lload_n 2, 1) := by decide +kernel
theorem d4_measurePart_58 : decode b4_measurePart 58 = .ok (.lreturn, 1) := by decide +kernel
theorem d4_measurePart_28 : decode b4_measurePart 28 = .ok (.aload_n 0, 1) := by decide +kernel
theorem d4_measurePart_29 : decode b4_measurePart 29 = .ok (.getfield 43, 3) := by decide +kernel
theorem d4_measurePart_32 : decode b4_measurePart 32 = .ok (.getfield 102, 3) := by decide +kernel
theorem d4_measurePart_35 : decode b4_measurePart 35 = .ok (.iload 4, 2) := by decide +kernel
theorem d4_measurePart_37 : decode b4_measurePart 37 = .ok (.iaload, 1) := by decide +kernel
theorem d4_measurePart_38 : decode b4_measurePart 38 = .ok (.iload_n 1, 1) := by decide +kernel
theorem d4_measurePart_39 : decode b4_measurePart 39 = .ok (.if_icmp .ne 12, 3) := by decide +kernel
theorem d4_measurePart_51 : decode b4_measurePart 51 = .ok (.iinc 4 1, 3) := by decide +kernel
theorem d4_measurePart_54 : decode b4_measurePart 54 = .ok (.goto (-38), 3) := by decide +kernel
theorem d4_measurePart_42 : decode b4_measurePart 42 = .ok (.lload_n 2, 1) := by decide +kernel
theorem d4_measurePart_43 : decode b4_measurePart 43 = .ok (.aload_n 0, 1) := by decide +kernel
theorem d4_measurePart_44 : decode b4_measurePart 44 = .ok (.iload 4, 2) := by decide +kernel
theorem d4_measurePart_46 : decode b4_measurePart 46 = .ok (.invokevirtual 114, 3) := by decide +kernel
theorem d4_measurePart_49 : decode b4_measurePart 49 = .ok (.ladd, 1) := by decide +kernel
theorem d4_measurePart_50 : decode b4_measurePart 50 = .ok (.lstore_n 2, 1) := by decide +kernel
theorem d4_measure_0 : decode b4_measure 0 = .ok (.aload_n 0, 1) := by decide +kernel
theorem d4_measure_1 : decode b4_measure 1 = .ok (.invokevirtual 75, 3) := by decide +kernel
theorem d4_measure_4 : decode b4_measure 4 = .ok (.iconst 0, 1) := by decide +kernel
theorem d4_measure_5 : decode b4_measure 5 = .ok (.istore_n 1, 1) := by decide +kernel
theorem d4_measure_6 : decode b4_measure 6 = .ok (.iload_n 1, 1) := by decide +kernel
theorem d4_measure_7 : decode b4_measure 7 = .ok (.bipush 10, 2) := by decide +kernel
theorem d4_measure_9 : decode b4_measure 9 = .ok (.if_icmp .ge 88, 3) := by decide +kernel
theorem d4_measure_97 : decode b4_measure 97 = .ok (.aload_n 0, 1) := by decide +kernel
theorem d4_measure_98 : decode b4_measure 98 = .ok (.aload_n 0, 1) := by decide +kernel
theorem d4_measure_99 : decode b4_measure 99 = .ok (.iconst (-1), 1) := by decide +kernel
theorem d4_measure_100 : decode b4_measure 100 = .ok (.invokevirtual 91, 3) := by decide +kernel
theorem d4_measure_103 : decode b4_measure 103 = .ok (.putfield 95, 3) := by decide +kernel
theorem d4_measure_106 : decode b4_measure 106 = .ok (.return_, 1) := by decide +kernel
theorem d4_measure_12 : decode b4_measure 12 = .ok (.iconst 0, 1) := by decide +kernel
theorem d4_measure_13 : decode b4_measure 13 = .ok (.istore_n 2, 1) := by decide +kernel
theorem d4_measure_14 : decode b4_measure 14 = .ok (.iload_n 2, 1) := by decide +kernel
theorem d4_measure_15 : decode b4_measure 15 = .ok (.bipush 10, 2) := by decide +kernel
theorem d4_measure_17 : decode b4_measure 17 = .ok (.if_icmp .ge 74, 3) := by decide +kernel
theorem d4_measure_91 : decode b4_measure 91 = .ok (.iinc 1 1, 3) := by decide +kernel
theorem d4_measure_94 : decode b4_measure 94 = .ok (.goto (-88), 3) := by decide +kernel
theorem d4_measure_20 : decode b4_measure 20 = .ok (.aload_n 0, 1) := by decide +kernel
theorem d4_measure_21 : decode b4_measure 21 = .ok (.getfield 43, 3) := by decide +kernel
theorem d4_measure_24 : decode b4_measure 24 = .ok (.getfield 78, 3) := by decide +kernel
theorem d4_measure_27 : decode b4_measure 27 = .ok (.iload_n 2, 1) := by decide +kernel
theorem d4_measure_28 : decode b4_measure 28 = .ok (.iaload, 1) := by decide +kernel
theorem d4_measure_29 : decode b4_measure 29 = .ok (.invokestatic 81, 3) := by decide +kernel
theorem d4_measure_32 : decode b4_measure 32 = .ok (.iload_n 1, 1) := by decide +kernel
theorem d4_measure_33 : decode b4_measure 33 = .ok (.if_icmp .ne 52, 3) := by decide +kernel
theorem d4_measure_85 : decode b4_measure 85 = .ok (.iinc 2 1, 3) := by decide +kernel
theorem d4_measure_88 : decode b4_measure 88 = .ok (.goto (-74), 3) := by decide +kernel
theorem d4_measure_36 : decode b4_measure 36 = .ok (.aload_n 0, 1) := by decide +kernel
theorem d4_measure_37 : decode b4_measure 37 = .ok (.getfield 19, 3) := by decide +kernel
theorem d4_measure_40 : decode b4_measure 40 = .ok (.iload_n 2, 1) := by decide +kernel
theorem d4_measure_41 : decode b4_measure 41 = .ok (.iaload, 1) := by decide +kernel
theorem d4_measure_42 : decode b4_measure 42 = .ok (.istore_n 3, 1) := by decide +kernel
theorem d4_measure_43 : decode b4_measure 43 = .ok (.aload_n 0, 1) := by decide +kernel
theorem d4_measure_44 : decode b4_measure 44 = .ok (.iload_n 2, 1) := by decide +kernel
theorem d4_measure_45 : decode b4_measure 45 = .ok (.invokevirtual 87, 3) := by decide +kernel
theorem d4_measure_48 : decode b4_measure 48 = .ok (.ifCond .eq 12, 3) := by decide +kernel
theorem d4_measure_60 : decode b4_measure 60 = .ok (.iconst 0, 1) := by decide +kernel
theorem d4_measure_51 : decode b4_measure 51 = .ok (.aload_n 0, 1) := by decide +kernel
theorem d4_measure_52 : decode b4_measure 52 = .ok (.getfield 9, 3) := by decide +kernel
theorem d4_measure_55 : decode b4_measure 55 = .ok (.iload_n 2, 1) := by decide +kernel
theorem d4_measure_56 : decode b4_measure 56 = .ok (.iaload, 1) := by decide +kernel
theorem d4_measure_57 : decode b4_measure 57 = .ok (.goto 4, 3) := by decide +kernel
theorem d4_measure_61 : decode b4_measure 61 = .ok (.istore 4, 2) := by decide +kernel
theorem d4_measure_63 : decode b4_measure 63 = .ok (.aload_n 0, 1) := by decide +kernel
theorem d4_measure_64 : decode b4_measure 64 = .ok (.getfield 25, 3) := by decide +kernel
theorem d4_measure_67 : decode b4_measure 67 = .ok (.iload_n 2, 1) := by decide +kernel
theorem d4_measure_68 : decode b4_measure 68 = .ok (.iload_n 3, 1) := by decide +kernel
theorem d4_measure_69 : decode b4_measure 69 = .ok (.iconst (-1), 1) := by decide +kernel
theorem d4_measure_70 : decode b4_measure 70 = .ok (.if_icmp .ne 9, 3) := by decide +kernel
theorem d4_measure_79 : decode b4_measure 79 = .ok (.aload_n 0, 1) := by decide +kernel
theorem d4_measure_80 : decode b4_measure 80 = .ok (.iload_n 3, 1) := by decide +kernel
theorem d4_measure_81 : decode b4_measure 81 = .ok (.invokevirtual 91, 3) := by decide +kernel
theorem d4_measure_73 : decode b4_measure 73 = .ok (.iload 4, 2) := by decide +kernel
theorem d4_measure_75 : decode b4_measure 75 = .ok (.i2l, 1) := by decide +kernel
theorem d4_measure_76 : decode b4_measure 76 = .ok (.goto 8, 3) := by decide +kernel
theorem d4_measure_84 : decode b4_measure 84 = .ok (.lastore, 1) := by decide +kernel
theorem d4_lengthAheadInPart_0 : decode b4_lengthAheadInPart 0 = .ok (.aload_n 0, 1) := by decide +kernel
theorem d4_lengthAheadInPart_1 : decode b4_lengthAheadInPart 1 = .ok (.getfield 43, 3) := by decide +kernel
theorem d4_lengthAheadInPart_4 : decode b4_lengthAheadInPart 4 = .ok (.getfield 102, 3) := by decide +kernel
theorem d4_lengthAheadInPart_7 : decode b4_lengthAheadInPart 7 = .ok (.iload_n 1, 1) := by decide +kernel
theorem d4_lengthAheadInPart_8 : decode b4_lengthAheadInPart 8 = .ok (.iaload, 1) := by decide +kernel
theorem d4_lengthAheadInPart_9 : decode b4_lengthAheadInPart 9 = .ok (.istore_n 2, 1) := by decide +kernel
theorem d4_lengthAheadInPart_10 : decode b4_lengthAheadInPart 10 = .ok (.lconst 0, 1) := by decide +kernel
theorem d4_lengthAheadInPart_11 : decode b4_lengthAheadInPart 11 = .ok (.lstore_n 3, 1) := by decide +kernel
theorem d4_lengthAheadInPart_12 : decode b4_lengthAheadInPart 12 = .ok (.aload_n 0, 1) := by decide +kernel
theorem d4_lengthAheadInPart_13 : decode b4_lengthAheadInPart 13 = .ok (.getfield 43, 3) := by decide +kernel
theorem d4_lengthAheadInPart_16 : decode b4_lengthAheadInPart 16 = .ok (.iload_n 2, 1) := by decide +kernel
theorem d4_lengthAheadInPart_17 : decode b4_lengthAheadInPart 17 = .ok (.invokevirtual 135, 3) := by decide +kernel
theorem d4_lengthAheadInPart_20 : decode b4_lengthAheadInPart 20 = .ok (.istore 5, 2) := by decide +kernel
theorem d4_lengthAheadInPart_22 : decode b4_lengthAheadInPart 22 = .ok (.iload 5, 2) := by decide +kernel
theorem d4_lengthAheadInPart_24 : decode b4_lengthAheadInPart 24 = .ok (.aload_n 0, 1) := by decide +kernel
theorem d4_lengthAheadInPart_25 : decode b4_lengthAheadInPart 25 = .ok (.getfield 43, 3) := by decide +kernel
theorem d4_lengthAheadInPart_28 : decode b4_lengthAheadInPart 28 = .ok (.getfield 138, 3) := by decide +kernel
theorem d4_lengthAheadInPart_31 : decode b4_lengthAheadInPart 31 = .ok (.iload_n 1, 1) := by decide +kernel
theorem d4_lengthAheadInPart_32 : decode b4_lengthAheadInPart 32 = .ok (.iaload, 1) := by decide +kernel
theorem d4_lengthAheadInPart_33 : decode b4_lengthAheadInPart 33 = .ok (.if_icmp .ge 56, 3) := by decide +kernel
theorem d4_lengthAheadInPart_89 : decode b4_lengthAheadInPart 89 = .ok (.lload_n 3, 1) := by decide +kernel
theorem d4_lengthAheadInPart_90 : decode b4_lengthAheadInPart 90 = .ok (.lreturn, 1) := by decide +kernel
theorem d4_lengthAheadInPart_36 : decode b4_lengthAheadInPart 36 = .ok (.aload_n 0, 1) := by decide +kernel
theorem d4_lengthAheadInPart_37 : decode b4_lengthAheadInPart 37 = .ok (.getfield 43, 3) := by decide +kernel
theorem d4_lengthAheadInPart_40 : decode b4_lengthAheadInPart 40 = .ok (.getfield 141, 3) := by decide +kernel
theorem d4_lengthAheadInPart_43 : decode b4_lengthAheadInPart 43 = .ok (.iload 5, 2) := by decide +kernel
theorem d4_lengthAheadInPart_45 : decode b4_lengthAheadInPart 45 = .ok (.iaload, 1) := by decide +kernel
theorem d4_lengthAheadInPart_46 : decode b4_lengthAheadInPart 46 = .ok (.iload_n 2, 1) := by decide +kernel
theorem d4_lengthAheadInPart_47 : decode b4_lengthAheadInPart 47 = .ok (.if_icmp .ne 36, 3) := by decide +kernel
theorem d4_lengthAheadInPart_83 : decode b4_lengthAheadInPart 83 = .ok (.iinc 5 1, 3) := by decide +kernel
theorem d4_lengthAheadInPart_86 : decode b4_lengthAheadInPart 86 = .ok (.goto (-64), 3) := by decide +kernel
theorem d4_lengthAheadInPart_50 : decode b4_lengthAheadInPart 50 = .ok (.aload_n 0, 1) := by decide +kernel
theorem d4_lengthAheadInPart_51 : decode b4_lengthAheadInPart 51 = .ok (.getfield 43, 3) := by decide +kernel
theorem d4_lengthAheadInPart_54 : decode b4_lengthAheadInPart 54 = .ok (.getfield 144, 3) := by decide +kernel
theorem d4_lengthAheadInPart_57 : decode b4_lengthAheadInPart 57 = .ok (.iload 5, 2) := by decide +kernel
theorem d4_lengthAheadInPart_59 : decode b4_lengthAheadInPart 59 = .ok (.iaload, 1) := by decide +kernel
theorem d4_lengthAheadInPart_60 : decode b4_lengthAheadInPart 60 = .ok (.istore 6, 2) := by decide +kernel
theorem d4_lengthAheadInPart_62 : decode b4_lengthAheadInPart 62 = .ok (.lload_n 3, 1) := by decide +kernel
theorem d4_lengthAheadInPart_63 : decode b4_lengthAheadInPart 63 = .ok (.iload 6, 2) := by decide +kernel
theorem d4_lengthAheadInPart_65 : decode b4_lengthAheadInPart 65 = .ok (.ifCond .lt 7, 3) := by decide +kernel
theorem d4_lengthAheadInPart_72 : decode b4_lengthAheadInPart 72 = .ok (.aload_n 0, 1) := by decide +kernel
theorem d4_lengthAheadInPart_73 : decode b4_lengthAheadInPart 73 = .ok (.iload 6, 2) := by decide +kernel
theorem d4_lengthAheadInPart_75 : decode b4_lengthAheadInPart 75 = .ok (.ineg, 1) := by decide +kernel
theorem d4_lengthAheadInPart_76 : decode b4_lengthAheadInPart 76 = .ok (.iconst 1, 1) := by decide +kernel
theorem d4_lengthAheadInPart_77 : decode b4_lengthAheadInPart 77 = .ok (.isub, 1) := by decide +kernel
theorem d4_lengthAheadInPart_78 : decode b4_lengthAheadInPart 78 = .ok (.invokevirtual 114, 3) := by decide +kernel
theorem d4_lengthAheadInPart_81 : decode b4_lengthAheadInPart 81 = .ok (.ladd, 1) := by decide +kernel
theorem d4_lengthAheadInPart_82 : decode b4_lengthAheadInPart 82 = .ok (.lstore_n 3, 1) := by decide +kernel
theorem d4_lengthAheadInPart_68 : decode b4_lengthAheadInPart 68 = .ok (.lconst 1, 1) := by decide +kernel
theorem d4_lengthAheadInPart_69 : decode b4_lengthAheadInPart 69 = .ok (.goto 12, 3) := by decide +kernel
theorem d4_startOf_0 : decode b4_startOf 0 = .ok (.aload_n 0, 1) := by decide +kernel
theorem d4_startOf_1 : decode b4_startOf 1 = .ok (.getfield 15, 3) := by decide +kernel
theorem d4_startOf_4 : decode b4_startOf 4 = .ok (.iload_n 1, 1) := by decide +kernel
theorem d4_startOf_5 : decode b4_startOf 5 = .ok (.baload, 1) := by decide +kernel
theorem d4_startOf_6 : decode b4_startOf 6 = .ok (.ifCond .ne 5, 3) := by decide +kernel
theorem d4_startOf_11 : decode b4_startOf 11 = .ok (.lconst 0, 1) := by decide +kernel
theorem d4_startOf_12 : decode b4_startOf 12 = .ok (.lstore_n 2, 1) := by decide +kernel
theorem d4_startOf_13 : decode b4_startOf 13 = .ok (.iload_n 1, 1) := by decide +kernel
theorem d4_startOf_14 : decode b4_startOf 14 = .ok (.istore 4, 2) := by decide +kernel
theorem d4_startOf_16 : decode b4_startOf 16 = .ok (.iconst 0, 1) := by decide +kernel
theorem d4_startOf_17 : decode b4_startOf 17 = .ok (.istore 5, 2) := by decide +kernel
theorem d4_startOf_9 : decode b4_startOf 9 = .ok (.iconst (-1), 1) := by decide +kernel
theorem d4_startOf_10 : decode b4_startOf 10 = .ok (.ireturn, 1) := by decide +kernel
theorem d4_startOf_19 : decode b4_startOf 19 = .ok (.iload 5, 2) := by decide +kernel
theorem d4_startOf_21 : decode b4_startOf 21 = .ok (.iconst 4, 1) := by decide +kernel
theorem d4_startOf_22 : decode b4_startOf 22 = .ok (.if_icmp .gt 36, 3) := by decide +kernel
theorem d4_startOf_58 : decode b4_startOf 58 = .ok (.lload_n 2, 1) := by decide +kernel
theorem d4_startOf_59 : decode b4_startOf 59 = .ok (.l2i, 1) := by decide +kernel
theorem d4_startOf_60 : decode b4_startOf 60 = .ok (.ireturn, 1) := by decide +kernel
theorem d4_startOf_25 : decode b4_startOf 25 = .ok (.iload 4, 2) := by decide +kernel
theorem d4_startOf_27 : decode b4_startOf 27 = .ok (.iconst (-1), 1) := by decide +kernel
theorem d4_startOf_28 : decode b4_startOf 28 = .ok (.if_icmp .eq 30, 3) := by decide +kernel
theorem d4_startOf_31 : decode b4_startOf 31 = .ok (.lload_n 2, 1) := by decide +kernel
theorem d4_startOf_32 : decode b4_startOf 32 = .ok (.aload_n 0, 1) := by decide +kernel
theorem d4_startOf_33 : decode b4_startOf 33 = .ok (.iload 4, 2) := by decide +kernel
theorem d4_startOf_35 : decode b4_startOf 35 = .ok (.invokevirtual 132, 3) := by decide +kernel
theorem d4_startOf_38 : decode b4_startOf 38 = .ok (.ladd, 1) := by decide +kernel
theorem d4_startOf_39 : decode b4_startOf 39 = .ok (.lstore_n 2, 1) := by decide +kernel
theorem d4_startOf_40 : decode b4_startOf 40 = .ok (.aload_n 0, 1) := by decide +kernel
theorem d4_startOf_41 : decode b4_startOf 41 = .ok (.getfield 43, 3) := by decide +kernel
theorem d4_startOf_44 : decode b4_startOf 44 = .ok (.getfield 102, 3) := by decide +kernel
theorem d4_startOf_47 : decode b4_startOf 47 = .ok (.iload 4, 2) := by decide +kernel
theorem d4_startOf_49 : decode b4_startOf 49 = .ok (.iaload, 1) := by decide +kernel
theorem d4_startOf_50 : decode b4_startOf 50 = .ok (.istore 4, 2) := by decide +kernel
theorem d4_startOf_52 : decode b4_startOf 52 = .ok (.iinc 5 1, 3) := by decide +kernel
theorem d4_startOf_55 : decode b4_startOf 55 = .ok (.goto (-36), 3) := by decide +kernel
theorem d4_addToOrder_0 : decode b4_addToOrder 0 = .ok (.aload_n 0, 1) := by decide +kernel
theorem d4_addToOrder_1 : decode b4_addToOrder 1 = .ok (.getfield 147, 3) := by decide +kernel
theorem d4_addToOrder_4 : decode b4_addToOrder 4 = .ok (.bipush 10, 2) := by decide +kernel
theorem d4_addToOrder_6 : decode b4_addToOrder 6 = .ok (.if_icmp .ge 23, 3) := by decide +kernel
theorem d4_addToOrder_29 : decode b4_addToOrder 29 = .ok (.return_, 1) := by decide +kernel
theorem d4_addToOrder_9 : decode b4_addToOrder 9 = .ok (.aload_n 0, 1) := by decide +kernel
theorem d4_addToOrder_10 : decode b4_addToOrder 10 = .ok (.getfield 29, 3) := by decide +kernel
theorem d4_addToOrder_13 : decode b4_addToOrder 13 = .ok (.aload_n 0, 1) := by decide +kernel
theorem d4_addToOrder_14 : decode b4_addToOrder 14 = .ok (.getfield 147, 3) := by decide +kernel
theorem d4_addToOrder_17 : decode b4_addToOrder 17 = .ok (.iload_n 1, 1) := by decide +kernel
theorem d4_addToOrder_18 : decode b4_addToOrder 18 = .ok (.iastore, 1) := by decide +kernel
theorem d4_addToOrder_19 : decode b4_addToOrder 19 = .ok (.aload_n 0, 1) := by decide +kernel
theorem d4_addToOrder_20 : decode b4_addToOrder 20 = .ok (.dup, 1) := by decide +kernel
theorem d4_addToOrder_21 : decode b4_addToOrder 21 = .ok (.getfield 147, 3) := by decide +kernel
theorem d4_addToOrder_24 : decode b4_addToOrder 24 = .ok (.iconst 1, 1) := by decide +kernel
theorem d4_addToOrder_25 : decode b4_addToOrder 25 = .ok (.iadd, 1) := by decide +kernel
theorem d4_addToOrder_26 : decode b4_addToOrder 26 = .ok (.putfield 147, 3) := by decide +kernel
theorem d4_arrangeOrder_0 : decode b4_arrangeOrder 0 = .ok (.aload_n 0, 1) := by decide +kernel
theorem d4_arrangeOrder_1 : decode b4_arrangeOrder 1 = .ok (.iconst 0, 1) := by decide +kernel
theorem d4_arrangeOrder_2 : decode b4_arrangeOrder 2 = .ok (.putfield 147, 3) := by decide +kernel
theorem d4_arrangeOrder_5 : decode b4_arrangeOrder 5 = .ok (.iconst 1, 1) := by decide +kernel
theorem d4_arrangeOrder_6 : decode b4_arrangeOrder 6 = .ok (.istore_n 2, 1) := by decide +kernel
theorem d4_arrangeOrder_7 : decode b4_arrangeOrder 7 = .ok (.iload_n 1, 1) := by decide +kernel
theorem d4_arrangeOrder_8 : decode b4_arrangeOrder 8 = .ok (.ifCond .eq 67, 3) := by decide +kernel
theorem d4_arrangeOrder_75 : decode b4_arrangeOrder 75 = .ok (.iconst 1, 1) := by decide +kernel
theorem d4_arrangeOrder_76 : decode b4_arrangeOrder 76 = .ok (.istore_n 3, 1) := by decide +kernel
theorem d4_arrangeOrder_11 : decode b4_arrangeOrder 11 = .ok (.iconst 0, 1) := by decide +kernel
theorem d4_arrangeOrder_12 : decode b4_arrangeOrder 12 = .ok (.istore_n 3, 1) := by decide +kernel
theorem d4_arrangeOrder_77 : decode b4_arrangeOrder 77 = .ok (.iload_n 3, 1) := by decide +kernel
theorem d4_arrangeOrder_78 : decode b4_arrangeOrder 78 = .ok (.bipush 10, 2) := by decide +kernel
theorem d4_arrangeOrder_80 : decode b4_arrangeOrder 80 = .ok (.if_icmp .ge 22, 3) := by decide +kernel
theorem d4_arrangeOrder_83 : decode b4_arrangeOrder 83 = .ok (.aload_n 0, 1) := by decide +kernel
theorem d4_arrangeOrder_84 : decode b4_arrangeOrder 84 = .ok (.iload_n 3, 1) := by decide +kernel
theorem d4_arrangeOrder_85 : decode b4_arrangeOrder 85 = .ok (.invokevirtual 154, 3) := by decide +kernel
theorem d4_arrangeOrder_88 : decode b4_arrangeOrder 88 = .ok (.ifCond .eq 8, 3) := by decide +kernel
theorem d4_arrangeOrder_96 : decode b4_arrangeOrder 96 = .ok (.iinc 3 1, 3) := by decide +kernel
theorem d4_arrangeOrder_99 : decode b4_arrangeOrder 99 = .ok (.goto (-22), 3) := by decide +kernel
theorem d4_arrangeOrder_91 : decode b4_arrangeOrder 91 = .ok (.aload_n 0, 1) := by decide +kernel
theorem d4_arrangeOrder_92 : decode b4_arrangeOrder 92 = .ok (.iload_n 3, 1) := by decide +kernel
theorem d4_arrangeOrder_93 : decode b4_arrangeOrder 93 = .ok (.invokevirtual 150, 3) := by decide +kernel
theorem d4_arrangeOrder_13 : decode b4_arrangeOrder 13 = .ok (.iload_n 3, 1) := by decide +kernel
theorem d4_arrangeOrder_14 : decode b4_arrangeOrder 14 = .ok (.aload_n 0, 1) := by decide +kernel
theorem d4_arrangeOrder_15 : decode b4_arrangeOrder 15 = .ok (.getfield 43, 3) := by decide +kernel
theorem d4_arrangeOrder_18 : decode b4_arrangeOrder 18 = .ok (.getfield 99, 3) := by decide +kernel
theorem d4_arrangeOrder_21 : decode b4_arrangeOrder 21 = .ok (.if_icmp .ge 51, 3) := by decide +kernel
theorem d4_arrangeOrder_72 : decode b4_arrangeOrder 72 = .ok (.goto 30, 3) := by decide +kernel
theorem d4_arrangeOrder_24 : decode b4_arrangeOrder 24 = .ok (.aload_n 0, 1) := by decide +kernel
theorem d4_arrangeOrder_25 : decode b4_arrangeOrder 25 = .ok (.getfield 43, 3) := by decide +kernel
theorem d4_arrangeOrder_28 : decode b4_arrangeOrder 28 = .ok (.getfield 72, 3) := by decide +kernel
theorem d4_arrangeOrder_31 : decode b4_arrangeOrder 31 = .ok (.iload_n 3, 1) := by decide +kernel
theorem d4_arrangeOrder_32 : decode b4_arrangeOrder 32 = .ok (.iaload, 1) := by decide +kernel
theorem d4_arrangeOrder_33 : decode b4_arrangeOrder 33 = .ok (.istore 4, 2) := by decide +kernel
theorem d4_arrangeOrder_35 : decode b4_arrangeOrder 35 = .ok (.aload_n 0, 1) := by decide +kernel
theorem d4_arrangeOrder_36 : decode b4_arrangeOrder 36 = .ok (.getfield 15, 3) := by decide +kernel
theorem d4_arrangeOrder_39 : decode b4_arrangeOrder 39 = .ok (.iload_n 3, 1) := by decide +kernel
theorem d4_arrangeOrder_40 : decode b4_arrangeOrder 40 = .ok (.baload, 1) := by decide +kernel
theorem d4_arrangeOrder_41 : decode b4_arrangeOrder 41 = .ok (.ifCond .eq 25, 3) := by decide +kernel
theorem d4_arrangeOrder_66 : decode b4_arrangeOrder 66 = .ok (.iinc 3 1, 3) := by decide +kernel
theorem d4_arrangeOrder_69 : decode b4_arrangeOrder 69 = .ok (.goto (-56), 3) := by decide +kernel
theorem d4_arrangeOrder_44 : decode b4_arrangeOrder 44 = .ok (.iload_n 2, 1) := by decide +kernel
theorem d4_arrangeOrder_45 : decode b4_arrangeOrder 45 = .ok (.iload 4, 2) := by decide +kernel
theorem d4_arrangeOrder_47 : decode b4_arrangeOrder 47 = .ok (.ishr, 1) := by decide +kernel
theorem d4_arrangeOrder_48 : decode b4_arrangeOrder 48 = .ok (.iconst 1, 1) := by decide +kernel
theorem d4_arrangeOrder_49 : decode b4_arrangeOrder 49 = .ok (.iand, 1) := by decide +kernel
theorem d4_arrangeOrder_50 : decode b4_arrangeOrder 50 = .ok (.ifCond .ne 16, 3) := by decide +kernel
theorem d4_arrangeOrder_53 : decode b4_arrangeOrder 53 = .ok (.iload_n 2, 1) := by decide +kernel
theorem d4_arrangeOrder_54 : decode b4_arrangeOrder 54 = .ok (.iconst 1, 1) := by decide +kernel
theorem d4_arrangeOrder_55 : decode b4_arrangeOrder 55 = .ok (.iload 4, 2) := by decide +kernel
theorem d4_arrangeOrder_57 : decode b4_arrangeOrder 57 = .ok (.ishl, 1) := by decide +kernel
theorem d4_arrangeOrder_58 : decode b4_arrangeOrder 58 = .ok (.ior, 1) := by decide +kernel
theorem d4_arrangeOrder_59 : decode b4_arrangeOrder 59 = .ok (.istore_n 2, 1) := by decide +kernel
theorem d4_arrangeOrder_60 : decode b4_arrangeOrder 60 = .ok (.aload_n 0, 1) := by decide +kernel
theorem d4_arrangeOrder_61 : decode b4_arrangeOrder 61 = .ok (.iload 4, 2) := by decide +kernel
theorem d4_arrangeOrder_63 : decode b4_arrangeOrder 63 = .ok (.invokevirtual 150, 3) := by decide +kernel
theorem d4_arrangeOrder_102 : decode b4_arrangeOrder 102 = .ok (.aload_n 0, 1) := by decide +kernel
theorem d4_arrangeOrder_103 : decode b4_arrangeOrder 103 = .ok (.iconst 0, 1) := by decide +kernel
theorem d4_arrangeOrder_104 : decode b4_arrangeOrder 104 = .ok (.invokevirtual 154, 3) := by decide +kernel
theorem d4_arrangeOrder_107 : decode b4_arrangeOrder 107 = .ok (.ifCond .eq 8, 3) := by decide +kernel
theorem d4_arrangeOrder_115 : decode b4_arrangeOrder 115 = .ok (.return_, 1) := by decide +kernel
theorem d4_arrangeOrder_110 : decode b4_arrangeOrder 110 = .ok (.aload_n 0, 1) := by decide +kernel
theorem d4_arrangeOrder_111 : decode b4_arrangeOrder 111 = .ok (.iconst 0, 1) := by decide +kernel
theorem d4_arrangeOrder_112 : decode b4_arrangeOrder 112 = .ok (.invokevirtual 150, 3) := by decide +kernel
theorem d4_placeOf_0 : decode b4_placeOf 0 = .ok (.iconst 0, 1) := by decide +kernel
theorem d4_placeOf_1 : decode b4_placeOf 1 = .ok (.istore_n 2, 1) := by decide +kernel
theorem d4_placeOf_2 : decode b4_placeOf 2 = .ok (.iload_n 2, 1) := by decide +kernel
theorem d4_placeOf_3 : decode b4_placeOf 3 = .ok (.aload_n 0, 1) := by decide +kernel
theorem d4_placeOf_4 : decode b4_placeOf 4 = .ok (.getfield 147, 3) := by decide +kernel
theorem d4_placeOf_7 : decode b4_placeOf 7 = .ok (.if_icmp .ge 21, 3) := by decide +kernel
theorem d4_placeOf_28 : decode b4_placeOf 28 = .ok (.iconst (-1), 1) := by decide +kernel
theorem d4_placeOf_29 : decode b4_placeOf 29 = .ok (.ireturn, 1) := by decide +kernel
theorem d4_placeOf_10 : decode b4_placeOf 10 = .ok (.aload_n 0, 1) := by decide +kernel
theorem d4_placeOf_11 : decode b4_placeOf 11 = .ok (.getfield 29, 3) := by decide +kernel
theorem d4_placeOf_14 : decode b4_placeOf 14 = .ok (.iload_n 2, 1) := by decide +kernel
theorem d4_placeOf_15 : decode b4_placeOf 15 = .ok (.iaload, 1) := by decide +kernel
theorem d4_placeOf_16 : decode b4_placeOf 16 = .ok (.iload_n 1, 1) := by decide +kernel
theorem d4_placeOf_17 : decode b4_placeOf 17 = .ok (.if_icmp .ne 5, 3) := by decide +kernel
theorem d4_placeOf_22 : decode b4_placeOf 22 = .ok (.iinc 2 1, 3) := by decide +kernel
theorem d4_placeOf_25 : decode b4_placeOf 25 = .ok (.goto (-23), 3) := by decide +kernel
theorem d4_placeOf_20 : decode b4_placeOf 20 = .ok (.iload_n 2, 1) := by decide +kernel
theorem d4_placeOf_21 : decode b4_placeOf 21 = .ok (.ireturn, 1) := by decide +kernel
theorem d4_reasonNotLive_0 : decode b4_reasonNotLive 0 = .ok (.aload_n 0, 1) := by decide +kernel
theorem d4_reasonNotLive_1 : decode b4_reasonNotLive 1 = .ok (.iload_n 1, 1) := by decide +kernel
theorem d4_reasonNotLive_2 : decode b4_reasonNotLive 2 = .ok (.invokevirtual 154, 3) := by decide +kernel
theorem d4_reasonNotLive_5 : decode b4_reasonNotLive 5 = .ok (.ifCond .eq 5, 3) := by decide +kernel
theorem d4_reasonNotLive_10 : decode b4_reasonNotLive 10 = .ok (.aload_n 0, 1) := by decide +kernel
theorem d4_reasonNotLive_11 : decode b4_reasonNotLive 11 = .ok (.getfield 43, 3) := by decide +kernel
theorem d4_reasonNotLive_14 : decode b4_reasonNotLive 14 = .ok (.getfield 157, 3) := by decide +kernel
theorem d4_reasonNotLive_17 : decode b4_reasonNotLive 17 = .ok (.iload_n 1, 1) := by decide +kernel
theorem d4_reasonNotLive_18 : decode b4_reasonNotLive 18 = .ok (.ishr, 1) := by decide +kernel
theorem d4_reasonNotLive_19 : decode b4_reasonNotLive 19 = .ok (.iconst 1, 1) := by decide +kernel
theorem d4_reasonNotLive_20 : decode b4_reasonNotLive 20 = .ok (.iand, 1) := by decide +kernel
theorem d4_reasonNotLive_21 : decode b4_reasonNotLive 21 = .ok (.ifCond .ne 5, 3) := by decide +kernel
theorem d4_reasonNotLive_26 : decode b4_reasonNotLive 26 = .ok (.iconst 0, 1) := by decide +kernel
theorem d4_reasonNotLive_27 : decode b4_reasonNotLive 27 = .ok (.istore_n 2, 1) := by decide +kernel
theorem d4_reasonNotLive_28 : decode b4_reasonNotLive 28 = .ok (.iconst 0, 1) := by decide +kernel
theorem d4_reasonNotLive_29 : decode b4_reasonNotLive 29 = .ok (.istore_n 3, 1) := by decide +kernel
theorem d4_reasonNotLive_24 : decode b4_reasonNotLive 24 = .ok (.iconst 1, 1) := by decide +kernel
theorem d4_reasonNotLive_25 : decode b4_reasonNotLive 25 = .ok (.ireturn, 1) := by decide +kernel
theorem d4_reasonNotLive_8 : decode b4_reasonNotLive 8 = .ok (.iconst 0, 1) := by decide +kernel
theorem d4_reasonNotLive_9 : decode b4_reasonNotLive 9 = .ok (.ireturn, 1) := by decide +kernel
theorem d4_reasonNotLive_30 : decode b4_reasonNotLive 30 = .ok (.iload_n 3, 1) := by decide +kernel
theorem d4_reasonNotLive_31 : decode b4_reasonNotLive 31 = .ok (.aload_n 0, 1) := by decide +kernel
theorem d4_reasonNotLive_32 : decode b4_reasonNotLive 32 = .ok (.getfield 43, 3) := by decide +kernel
theorem d4_reasonNotLive_35 : decode b4_reasonNotLive 35 = .ok (.getfield 99, 3) := by decide +kernel
theorem d4_reasonNotLive_38 : decode b4_reasonNotLive 38 = .ok (.if_icmp .ge 70, 3) := by decide +kernel
theorem d4_reasonNotLive_108 : decode b4_reasonNotLive 108 = .ok (.iload_n 2, 1) := by decide +kernel
theorem d4_reasonNotLive_109 : decode b4_reasonNotLive 109 = .ok (.ifCond .eq 7, 3) := by decide +kernel
theorem d4_reasonNotLive_116 : decode b4_reasonNotLive 116 = .ok (.iconst 4, 1) := by decide +kernel
theorem d4_reasonNotLive_117 : decode b4_reasonNotLive 117 = .ok (.ireturn, 1) := by decide +kernel
theorem d4_reasonNotLive_112 : decode b4_reasonNotLive 112 = .ok (.iconst 3, 1) := by decide +kernel
theorem d4_reasonNotLive_113 : decode b4_reasonNotLive 113 = .ok (.goto 4, 3) := by decide +kernel
theorem d4_reasonNotLive_41 : decode b4_reasonNotLive 41 = .ok (.aload_n 0, 1) := by decide +kernel
theorem d4_reasonNotLive_42 : decode b4_reasonNotLive 42 = .ok (.getfield 43, 3) := by decide +kernel
theorem d4_reasonNotLive_45 : decode b4_reasonNotLive 45 = .ok (.getfield 102, 3) := by decide +kernel
theorem d4_reasonNotLive_48 : decode b4_reasonNotLive 48 = .ok (.iload_n 3, 1) := by decide +kernel
theorem d4_reasonNotLive_49 : decode b4_reasonNotLive 49 = .ok (.iaload, 1) := by decide +kernel
theorem d4_reasonNotLive_50 : decode b4_reasonNotLive 50 = .ok (.istore 4, 2) := by decide +kernel
theorem d4_reasonNotLive_52 : decode b4_reasonNotLive 52 = .ok (.aload_n 0, 1) := by decide +kernel
theorem d4_reasonNotLive_53 : decode b4_reasonNotLive 53 = .ok (.getfield 43, 3) := by decide +kernel
theorem d4_reasonNotLive_56 : decode b4_reasonNotLive 56 = .ok (.getfield 72, 3) := by decide +kernel
theorem d4_reasonNotLive_59 : decode b4_reasonNotLive 59 = .ok (.iload_n 3, 1) := by decide +kernel
theorem d4_reasonNotLive_60 : decode b4_reasonNotLive 60 = .ok (.iaload, 1) := by decide +kernel
theorem d4_reasonNotLive_61 : decode b4_reasonNotLive 61 = .ok (.iload_n 1, 1) := by decide +kernel
theorem d4_reasonNotLive_62 : decode b4_reasonNotLive 62 = .ok (.if_icmp .ne 40, 3) := by decide +kernel
theorem d4_reasonNotLive_102 : decode b4_reasonNotLive 102 = .ok (.iinc 3 1, 3) := by decide +kernel
theorem d4_reasonNotLive_105 : decode b4_reasonNotLive 105 = .ok (.goto (-75), 3) := by decide +kernel
theorem d4_reasonNotLive_65 : decode b4_reasonNotLive 65 = .ok (.iload 4, 2) := by decide +kernel
theorem d4_reasonNotLive_67 : decode b4_reasonNotLive 67 = .ok (.iconst (-1), 1) := by decide +kernel
theorem d4_reasonNotLive_68 : decode b4_reasonNotLive 68 = .ok (.if_icmp .eq 34, 3) := by decide +kernel
theorem d4_reasonNotLive_71 : decode b4_reasonNotLive 71 = .ok (.aload_n 0, 1) := by decide +kernel
theorem d4_reasonNotLive_72 : decode b4_reasonNotLive 72 = .ok (.getfield 15, 3) := by decide +kernel
theorem d4_reasonNotLive_75 : decode b4_reasonNotLive 75 = .ok (.iload 4, 2) := by decide +kernel
theorem d4_reasonNotLive_77 : decode b4_reasonNotLive 77 = .ok (.baload, 1) := by decide +kernel
theorem d4_reasonNotLive_78 : decode b4_reasonNotLive 78 = .ok (.ifCond .eq 24, 3) := by decide +kernel
theorem d4_reasonNotLive_81 : decode b4_reasonNotLive 81 = .ok (.aload_n 0, 1) := by decide +kernel
theorem d4_reasonNotLive_82 : decode b4_reasonNotLive 82 = .ok (.aload_n 0, 1) := by decide +kernel
theorem d4_reasonNotLive_83 : decode b4_reasonNotLive 83 = .ok (.getfield 43, 3) := by decide +kernel
theorem d4_reasonNotLive_86 : decode b4_reasonNotLive 86 = .ok (.getfield 72, 3) := by decide +kernel
theorem d4_reasonNotLive_89 : decode b4_reasonNotLive 89 = .ok (.iload 4, 2) := by decide +kernel
theorem d4_reasonNotLive_91 : decode b4_reasonNotLive 91 = .ok (.iaload, 1) := by decide +kernel
theorem d4_reasonNotLive_92 : decode b4_reasonNotLive 92 = .ok (.invokevirtual 87, 3) := by decide +kernel
theorem d4_reasonNotLive_95 : decode b4_reasonNotLive 95 = .ok (.ifCond .eq 5, 3) := by decide +kernel
theorem d4_reasonNotLive_100 : decode b4_reasonNotLive 100 = .ok (.iconst 1, 1) := by decide +kernel
theorem d4_reasonNotLive_101 : decode b4_reasonNotLive 101 = .ok (.istore_n 2, 1) := by decide +kernel
theorem d4_reasonNotLive_98 : decode b4_reasonNotLive 98 = .ok (.iconst 2, 1) := by decide +kernel
theorem d4_reasonNotLive_99 : decode b4_reasonNotLive 99 = .ok (.ireturn, 1) := by decide +kernel
theorem d4_countYielded_0 : decode b4_countYielded 0 = .ok (.iconst 0, 1) := by decide +kernel
theorem d4_countYielded_1 : decode b4_countYielded 1 = .ok (.istore_n 1, 1) := by decide +kernel
theorem d4_countYielded_2 : decode b4_countYielded 2 = .ok (.iconst 0, 1) := by decide +kernel
theorem d4_countYielded_3 : decode b4_countYielded 3 = .ok (.istore_n 2, 1) := by decide +kernel
theorem d4_countYielded_4 : decode b4_countYielded 4 = .ok (.iload_n 2, 1) := by decide +kernel
theorem d4_countYielded_5 : decode b4_countYielded 5 = .ok (.aload_n 0, 1) := by decide +kernel
theorem d4_countYielded_6 : decode b4_countYielded 6 = .ok (.getfield 43, 3) := by decide +kernel
theorem d4_countYielded_9 : decode b4_countYielded 9 = .ok (.getfield 99, 3) := by decide +kernel
theorem d4_countYielded_12 : decode b4_countYielded 12 = .ok (.if_icmp .ge 41, 3) := by decide +kernel
theorem d4_countYielded_53 : decode b4_countYielded 53 = .ok (.iload_n 1, 1) := by decide +kernel
theorem d4_countYielded_54 : decode b4_countYielded 54 = .ok (.ireturn, 1) := by decide +kernel
theorem d4_countYielded_15 : decode b4_countYielded 15 = .ok (.aload_n 0, 1) := by decide +kernel
theorem d4_countYielded_16 : decode b4_countYielded 16 = .ok (.getfield 15, 3) := by decide +kernel
theorem d4_countYielded_19 : decode b4_countYielded 19 = .ok (.iload_n 2, 1) := by decide +kernel
theorem d4_countYielded_20 : decode b4_countYielded 20 = .ok (.baload, 1) := by decide +kernel
theorem d4_countYielded_21 : decode b4_countYielded 21 = .ok (.ifCond .eq 26, 3) := by decide +kernel
theorem d4_countYielded_47 : decode b4_countYielded 47 = .ok (.iinc 2 1, 3) := by decide +kernel
theorem d4_countYielded_50 : decode b4_countYielded 50 = .ok (.goto (-46), 3) := by decide +kernel
theorem d4_countYielded_24 : decode b4_countYielded 24 = .ok (.aload_n 0, 1) := by decide +kernel
theorem d4_countYielded_25 : decode b4_countYielded 25 = .ok (.getfield 43, 3) := by decide +kernel
theorem d4_countYielded_28 : decode b4_countYielded 28 = .ok (.getfield 108, 3) := by decide +kernel
theorem d4_countYielded_31 : decode b4_countYielded 31 = .ok (.iload_n 2, 1) := by decide +kernel
theorem d4_countYielded_32 : decode b4_countYielded 32 = .ok (.baload, 1) := by decide +kernel
theorem d4_countYielded_33 : decode b4_countYielded 33 = .ok (.ifCond .eq 14, 3) := by decide +kernel
theorem d4_countYielded_36 : decode b4_countYielded 36 = .ok (.aload_n 0, 1) := by decide +kernel
theorem d4_countYielded_37 : decode b4_countYielded 37 = .ok (.iload_n 2, 1) := by decide +kernel
theorem d4_countYielded_38 : decode b4_countYielded 38 = .ok (.invokevirtual 105, 3) := by decide +kernel
theorem d4_countYielded_41 : decode b4_countYielded 41 = .ok (.ifCond .ne 6, 3) := by decide +kernel
theorem d4_countYielded_44 : decode b4_countYielded 44 = .ok (.iinc 1 1, 3) := by decide +kernel
theorem d4_countMirrored_0 : decode b4_countMirrored 0 = .ok (.iconst 0, 1) := by decide +kernel
theorem d4_countMirrored_1 : decode b4_countMirrored 1 = .ok (.istore_n 1, 1) := by decide +kernel
theorem d4_countMirrored_2 : decode b4_countMirrored 2 = .ok (.iconst 0, 1) := by decide +kernel
theorem d4_countMirrored_3 : decode b4_countMirrored 3 = .ok (.istore_n 2, 1) := by decide +kernel
theorem d4_countMirrored_4 : decode b4_countMirrored 4 = .ok (.iload_n 2, 1) := by decide +kernel
theorem d4_countMirrored_5 : decode b4_countMirrored 5 = .ok (.bipush 10, 2) := by decide +kernel
theorem d4_countMirrored_7 : decode b4_countMirrored 7 = .ok (.if_icmp .ge 22, 3) := by decide +kernel
theorem d4_countMirrored_29 : decode b4_countMirrored 29 = .ok (.iload_n 1, 1) := by decide +kernel
theorem d4_countMirrored_30 : decode b4_countMirrored 30 = .ok (.ireturn, 1) := by decide +kernel
theorem d4_countMirrored_10 : decode b4_countMirrored 10 = .ok (.aload_n 0, 1) := by decide +kernel
theorem d4_countMirrored_11 : decode b4_countMirrored 11 = .ok (.getfield 22, 3) := by decide +kernel
theorem d4_countMirrored_14 : decode b4_countMirrored 14 = .ok (.iload_n 2, 1) := by decide +kernel
theorem d4_countMirrored_15 : decode b4_countMirrored 15 = .ok (.iaload, 1) := by decide +kernel
theorem d4_countMirrored_16 : decode b4_countMirrored 16 = .ok (.iconst 2, 1) := by decide +kernel
theorem d4_countMirrored_17 : decode b4_countMirrored 17 = .ok (.if_icmp .lt 6, 3) := by decide +kernel
theorem d4_countMirrored_23 : decode b4_countMirrored 23 = .ok (.iinc 2 1, 3) := by decide +kernel
theorem d4_countMirrored_26 : decode b4_countMirrored 26 = .ok (.goto (-22), 3) := by decide +kernel
theorem d4_countMirrored_20 : decode b4_countMirrored 20 = .ok (.iinc 1 1, 3) := by decide +kernel
theorem d4_fieldOfLongestValue_0 : decode b4_fieldOfLongestValue 0 = .ok (.iconst (-1), 1) := by decide +kernel
theorem d4_fieldOfLongestValue_1 : decode b4_fieldOfLongestValue 1 = .ok (.istore_n 1, 1) := by decide +kernel
theorem d4_fieldOfLongestValue_2 : decode b4_fieldOfLongestValue 2 = .ok (.iconst 0, 1) := by decide +kernel
theorem d4_fieldOfLongestValue_3 : decode b4_fieldOfLongestValue 3 = .ok (.istore_n 2, 1) := by decide +kernel
theorem d4_fieldOfLongestValue_4 : decode b4_fieldOfLongestValue 4 = .ok (.iload_n 2, 1) := by decide +kernel
theorem d4_fieldOfLongestValue_5 : decode b4_fieldOfLongestValue 5 = .ok (.bipush 10, 2) := by decide +kernel
theorem d4_fieldOfLongestValue_7 : decode b4_fieldOfLongestValue 7 = .ok (.if_icmp .ge 40, 3) := by decide +kernel
theorem d4_fieldOfLongestValue_47 : decode b4_fieldOfLongestValue 47 = .ok (.iload_n 1, 1) := by decide +kernel
theorem d4_fieldOfLongestValue_48 : decode b4_fieldOfLongestValue 48 = .ok (.ireturn, 1) := by decide +kernel
theorem d4_fieldOfLongestValue_10 : decode b4_fieldOfLongestValue 10 = .ok (.aload_n 0, 1) := by decide +kernel
theorem d4_fieldOfLongestValue_11 : decode b4_fieldOfLongestValue 11 = .ok (.iload_n 2, 1) := by decide +kernel
theorem d4_fieldOfLongestValue_12 : decode b4_fieldOfLongestValue 12 = .ok (.invokevirtual 154, 3) := by decide +kernel
theorem d4_fieldOfLongestValue_15 : decode b4_fieldOfLongestValue 15 = .ok (.ifCond .eq 26, 3) := by decide +kernel
theorem d4_fieldOfLongestValue_41 : decode b4_fieldOfLongestValue 41 = .ok (.iinc 2 1, 3) := by decide +kernel
theorem d4_fieldOfLongestValue_44 : decode b4_fieldOfLongestValue 44 = .ok (.goto (-40), 3) := by decide +kernel
theorem d4_fieldOfLongestValue_18 : decode b4_fieldOfLongestValue 18 = .ok (.iload_n 1, 1) := by decide +kernel
theorem d4_fieldOfLongestValue_19 : decode b4_fieldOfLongestValue 19 = .ok (.iconst (-1), 1) := by decide +kernel
theorem d4_fieldOfLongestValue_20 : decode b4_fieldOfLongestValue 20 = .ok (.if_icmp .eq 19, 3) := by decide +kernel
theorem d4_fieldOfLongestValue_39 : decode b4_fieldOfLongestValue 39 = .ok (.iload_n 2, 1) := by decide +kernel
theorem d4_fieldOfLongestValue_40 : decode b4_fieldOfLongestValue 40 = .ok (.istore_n 1, 1) := by decide +kernel
theorem d4_fieldOfLongestValue_23 : decode b4_fieldOfLongestValue 23 = .ok (.aload_n 0, 1) := by decide +kernel
theorem d4_fieldOfLongestValue_24 : decode b4_fieldOfLongestValue 24 = .ok (.getfield 25, 3) := by decide +kernel
theorem d4_fieldOfLongestValue_27 : decode b4_fieldOfLongestValue 27 = .ok (.iload_n 2, 1) := by decide +kernel
theorem d4_fieldOfLongestValue_28 : decode b4_fieldOfLongestValue 28 = .ok (.laload, 1) := by decide +kernel
theorem d4_fieldOfLongestValue_29 : decode b4_fieldOfLongestValue 29 = .ok (.aload_n 0, 1) := by decide +kernel
theorem d4_fieldOfLongestValue_30 : decode b4_fieldOfLongestValue 30 = .ok (.getfield 25, 3) := by decide +kernel
theorem d4_fieldOfLongestValue_33 : decode b4_fieldOfLongestValue 33 = .ok (.iload_n 1, 1) := by decide +kernel
theorem d4_fieldOfLongestValue_34 : decode b4_fieldOfLongestValue 34 = .ok (.laload, 1) := by decide +kernel
theorem d4_fieldOfLongestValue_35 : decode b4_fieldOfLongestValue 35 = .ok (.lcmp, 1) := by decide +kernel
theorem d4_fieldOfLongestValue_36 : decode b4_fieldOfLongestValue 36 = .ok (.ifCond .le 5, 3) := by decide +kernel
theorem d4_lengthOfLiveValues_0 : decode b4_lengthOfLiveValues 0 = .ok (.lconst 0, 1) := by decide +kernel
theorem d4_lengthOfLiveValues_1 : decode b4_lengthOfLiveValues 1 = .ok (.lstore_n 1, 1) := by decide +kernel
theorem d4_lengthOfLiveValues_2 : decode b4_lengthOfLiveValues 2 = .ok (.iconst 0, 1) := by decide +kernel
theorem d4_lengthOfLiveValues_3 : decode b4_lengthOfLiveValues 3 = .ok (.istore_n 3, 1) := by decide +kernel
theorem d4_lengthOfLiveValues_4 : decode b4_lengthOfLiveValues 4 = .ok (.iload_n 3, 1) := by decide +kernel
theorem d4_lengthOfLiveValues_5 : decode b4_lengthOfLiveValues 5 = .ok (.bipush 10, 2) := by decide +kernel
theorem d4_lengthOfLiveValues_7 : decode b4_lengthOfLiveValues 7 = .ok (.if_icmp .ge 26, 3) := by decide +kernel
theorem d4_lengthOfLiveValues_33 : decode b4_lengthOfLiveValues 33 = .ok (.lload_n 1, 1) := by decide +kernel
theorem d4_lengthOfLiveValues_34 : decode b4_lengthOfLiveValues 34 = .ok (.lreturn, 1) := by decide +kernel
theorem d4_lengthOfLiveValues_10 : decode b4_lengthOfLiveValues 10 = .ok (.aload_n 0, 1) := by decide +kernel
theorem d4_lengthOfLiveValues_11 : decode b4_lengthOfLiveValues 11 = .ok (.iload_n 3, 1) := by decide +kernel
theorem d4_lengthOfLiveValues_12 : decode b4_lengthOfLiveValues 12 = .ok (.invokevirtual 154, 3) := by decide +kernel
theorem d4_lengthOfLiveValues_15 : decode b4_lengthOfLiveValues 15 = .ok (.ifCond .eq 12, 3) := by decide +kernel
theorem d4_lengthOfLiveValues_27 : decode b4_lengthOfLiveValues 27 = .ok (.iinc 3 1, 3) := by decide +kernel
theorem d4_lengthOfLiveValues_30 : decode b4_lengthOfLiveValues 30 = .ok (.goto (-26), 3) := by decide +kernel
theorem d4_lengthOfLiveValues_18 : decode b4_lengthOfLiveValues 18 = .ok (.lload_n 1, 1) := by decide +kernel
theorem d4_lengthOfLiveValues_19 : decode b4_lengthOfLiveValues 19 = .ok (.aload_n 0, 1) := by decide +kernel
theorem d4_lengthOfLiveValues_20 : decode b4_lengthOfLiveValues 20 = .ok (.getfield 25, 3) := by decide +kernel
theorem d4_lengthOfLiveValues_23 : decode b4_lengthOfLiveValues 23 = .ok (.iload_n 3, 1) := by decide +kernel
theorem d4_lengthOfLiveValues_24 : decode b4_lengthOfLiveValues 24 = .ok (.laload, 1) := by decide +kernel
theorem d4_lengthOfLiveValues_25 : decode b4_lengthOfLiveValues 25 = .ok (.ladd, 1) := by decide +kernel
theorem d4_lengthOfLiveValues_26 : decode b4_lengthOfLiveValues 26 = .ok (.lstore_n 1, 1) := by decide +kernel
theorem d4_valueByte_0 : decode b4_valueByte 0 = .ok (.iload_n 2, 1) := by decide +kernel
theorem d4_valueByte_1 : decode b4_valueByte 1 = .ok (.ifCond .lt 37, 3) := by decide +kernel
theorem d4_valueByte_38 : decode b4_valueByte 38 = .ok (.iconst (-1), 1) := by decide +kernel
theorem d4_valueByte_39 : decode b4_valueByte 39 = .ok (.ireturn, 1) := by decide +kernel
theorem d4_valueByte_4 : decode b4_valueByte 4 = .ok (.iload_n 2, 1) := by decide +kernel
theorem d4_valueByte_5 : decode b4_valueByte 5 = .ok (.i2l, 1) := by decide +kernel
theorem d4_valueByte_6 : decode b4_valueByte 6 = .ok (.aload_n 0, 1) := by decide +kernel
theorem d4_valueByte_7 : decode b4_valueByte 7 = .ok (.getfield 25, 3) := by decide +kernel
theorem d4_valueByte_10 : decode b4_valueByte 10 = .ok (.iload_n 1, 1) := by decide +kernel
theorem d4_valueByte_11 : decode b4_valueByte 11 = .ok (.laload, 1) := by decide +kernel
theorem d4_valueByte_12 : decode b4_valueByte 12 = .ok (.lcmp, 1) := by decide +kernel
theorem d4_valueByte_13 : decode b4_valueByte 13 = .ok (.ifCond .ge 25, 3) := by decide +kernel
theorem d4_valueByte_16 : decode b4_valueByte 16 = .ok (.iload_n 2, 1) := by decide +kernel
theorem d4_valueByte_17 : decode b4_valueByte 17 = .ok (.sipush 400, 3) := by decide +kernel
theorem d4_valueByte_20 : decode b4_valueByte 20 = .ok (.if_icmp .ge 18, 3) := by decide +kernel
theorem d4_valueByte_23 : decode b4_valueByte 23 = .ok (.aload_n 0, 1) := by decide +kernel
theorem d4_valueByte_24 : decode b4_valueByte 24 = .ok (.getfield 32, 3) := by decide +kernel
theorem d4_valueByte_27 : decode b4_valueByte 27 = .ok (.iload_n 1, 1) := by decide +kernel
theorem d4_valueByte_28 : decode b4_valueByte 28 = .ok (.sipush 400, 3) := by decide +kernel
theorem d4_valueByte_31 : decode b4_valueByte 31 = .ok (.imul, 1) := by decide +kernel
theorem d4_valueByte_32 : decode b4_valueByte 32 = .ok (.iload_n 2, 1) := by decide +kernel
theorem d4_valueByte_33 : decode b4_valueByte 33 = .ok (.iadd, 1) := by decide +kernel
theorem d4_valueByte_34 : decode b4_valueByte 34 = .ok (.iaload, 1) := by decide +kernel
theorem d4_valueByte_35 : decode b4_valueByte 35 = .ok (.goto 4, 3) := by decide +kernel
theorem d4_toUpper_0 : decode b4_toUpper 0 = .ok (.iload_n 0, 1) := by decide +kernel
theorem d4_toUpper_1 : decode b4_toUpper 1 = .ok (.bipush 97, 2) := by decide +kernel
theorem d4_toUpper_3 : decode b4_toUpper 3 = .ok (.if_icmp .lt 19, 3) := by decide +kernel
theorem d4_toUpper_22 : decode b4_toUpper 22 = .ok (.iload_n 0, 1) := by decide +kernel
theorem d4_toUpper_23 : decode b4_toUpper 23 = .ok (.ireturn, 1) := by decide +kernel
theorem d4_toUpper_6 : decode b4_toUpper 6 = .ok (.iload_n 0, 1) := by decide +kernel
theorem d4_toUpper_7 : decode b4_toUpper 7 = .ok (.bipush 122, 2) := by decide +kernel
theorem d4_toUpper_9 : decode b4_toUpper 9 = .ok (.if_icmp .gt 13, 3) := by decide +kernel
theorem d4_toUpper_12 : decode b4_toUpper 12 = .ok (.iload_n 0, 1) := by decide +kernel
theorem d4_toUpper_13 : decode b4_toUpper 13 = .ok (.bipush 97, 2) := by decide +kernel
theorem d4_toUpper_15 : decode b4_toUpper 15 = .ok (.isub, 1) := by decide +kernel
theorem d4_toUpper_16 : decode b4_toUpper 16 = .ok (.bipush 65, 2) := by decide +kernel
theorem d4_toUpper_18 : decode b4_toUpper 18 = .ok (.iadd, 1) := by decide +kernel
theorem d4_toUpper_19 : decode b4_toUpper 19 = .ok (.goto 4, 3) := by decide +kernel
theorem d4_toLower_0 : decode b4_toLower 0 = .ok (.iload_n 0, 1) := by decide +kernel
theorem d4_toLower_1 : decode b4_toLower 1 = .ok (.bipush 65, 2) := by decide +kernel
theorem d4_toLower_3 : decode b4_toLower 3 = .ok (.if_icmp .lt 19, 3) := by decide +kernel
theorem d4_toLower_22 : decode b4_toLower 22 = .ok (.iload_n 0, 1) := by decide +kernel
theorem d4_toLower_23 : decode b4_toLower 23 = .ok (.ireturn, 1) := by decide +kernel
theorem d4_toLower_6 : decode b4_toLower 6 = .ok (.iload_n 0, 1) := by decide +kernel
theorem d4_toLower_7 : decode b4_toLower 7 = .ok (.bipush 90, 2) := by decide +kernel
theorem d4_toLower_9 : decode b4_toLower 9 = .ok (.if_icmp .gt 13, 3) := by decide +kernel
theorem d4_toLower_12 : decode b4_toLower 12 = .ok (.iload_n 0, 1) := by decide +kernel
theorem d4_toLower_13 : decode b4_toLower 13 = .ok (.bipush 65, 2) := by decide +kernel
theorem d4_toLower_15 : decode b4_toLower 15 = .ok (.isub, 1) := by decide +kernel
theorem d4_toLower_16 : decode b4_toLower 16 = .ok (.bipush 97, 2) := by decide +kernel
theorem d4_toLower_18 : decode b4_toLower 18 = .ok (.iadd, 1) := by decide +kernel
theorem d4_toLower_19 : decode b4_toLower 19 = .ok (.goto 4, 3) := by decide +kernel
theorem d4_digitAhead_0 : decode b4_digitAhead 0 = .ok (.lload_n 0, 1) := by decide +kernel
theorem d4_digitAhead_1 : decode b4_digitAhead 1 = .ok (.lstore_n 3, 1) := by decide +kernel
theorem d4_digitAhead_2 : decode b4_digitAhead 2 = .ok (.iconst 0, 1) := by decide +kernel
theorem d4_digitAhead_3 : decode b4_digitAhead 3 = .ok (.istore 5, 2) := by decide +kernel
theorem d4_digitAhead_5 : decode b4_digitAhead 5 = .ok (.iload 5, 2) := by decide +kernel
theorem d4_digitAhead_7 : decode b4_digitAhead 7 = .ok (.iload_n 2, 1) := by decide +kernel
theorem d4_digitAhead_8 : decode b4_digitAhead 8 = .ok (.if_icmp .ge 15, 3) := by decide +kernel
theorem d4_digitAhead_23 : decode b4_digitAhead 23 = .ok (.bipush 48, 2) := by decide +kernel
theorem d4_digitAhead_25 : decode b4_digitAhead 25 = .ok (.lload_n 3, 1) := by decide +kernel
theorem d4_digitAhead_26 : decode b4_digitAhead 26 = .ok (.ldc2_w 130, 3) := by decide +kernel
theorem d4_digitAhead_29 : decode b4_digitAhead 29 = .ok (.lrem, 1) := by decide +kernel
theorem d4_digitAhead_30 : decode b4_digitAhead 30 = .ok (.l2i, 1) := by decide +kernel
theorem d4_digitAhead_31 : decode b4_digitAhead 31 = .ok (.iadd, 1) := by decide +kernel
theorem d4_digitAhead_32 : decode b4_digitAhead 32 = .ok (.ireturn, 1) := by decide +kernel
theorem d4_digitAhead_11 : decode b4_digitAhead 11 = .ok (.lload_n 3, 1) := by decide +kernel
theorem d4_digitAhead_12 : decode b4_digitAhead 12 = .ok (.ldc2_w 130, 3) := by decide +kernel
theorem d4_digitAhead_15 : decode b4_digitAhead 15 = .ok (.ldiv, 1) := by decide +kernel
theorem d4_digitAhead_16 : decode b4_digitAhead 16 = .ok (.lstore_n 3, 1) := by decide +kernel
theorem d4_digitAhead_17 : decode b4_digitAhead 17 = .ok (.iinc 5 1, 3) := by decide +kernel
theorem d4_digitAhead_20 : decode b4_digitAhead 20 = .ok (.goto (-15), 3) := by decide +kernel
theorem d4_changedByte_0 : decode b4_changedByte 0 = .ok (.aload_n 0, 1) := by decide +kernel
theorem d4_changedByte_1 : decode b4_changedByte 1 = .ok (.getfield 43, 3) := by decide +kernel
theorem d4_changedByte_4 : decode b4_changedByte 4 = .ok (.getfield 72, 3) := by decide +kernel
theorem d4_changedByte_7 : decode b4_changedByte 7 = .ok (.iload_n 1, 1) := by decide +kernel
theorem d4_changedByte_8 : decode b4_changedByte 8 = .ok (.iaload, 1) := by decide +kernel
theorem d4_changedByte_9 : decode b4_changedByte 9 = .ok (.istore 4, 2) := by decide +kernel
theorem d4_changedByte_11 : decode b4_changedByte 11 = .ok (.iload 4, 2) := by decide +kernel
theorem d4_changedByte_13 : decode b4_changedByte 13 = .ok (.sipush 400, 3) := by decide +kernel
theorem d4_changedByte_16 : decode b4_changedByte 16 = .ok (.imul, 1) := by decide +kernel
theorem d4_changedByte_17 : decode b4_changedByte 17 = .ok (.istore 5, 2) := by decide +kernel
theorem d4_changedByte_19 : decode b4_changedByte 19 = .ok (.aload_n 0, 1) := by decide +kernel
theorem d4_changedByte_20 : decode b4_changedByte 20 = .ok (.getfield 43, 3) := by decide +kernel
theorem d4_changedByte_23 : decode b4_changedByte 23 = .ok (.getfield 117, 3) := by decide +kernel
theorem d4_changedByte_26 : decode b4_changedByte 26 = .ok (.iload_n 1, 1) := by decide +kernel
theorem d4_changedByte_27 : decode b4_changedByte 27 = .ok (.iaload, 1) := by decide +kernel
theorem d4_changedByte_28 : decode b4_changedByte 28 = .ok (.tableswitch 84 1 5 #[36, 49, 62, 84, 72], 36) := by decide +kernel
theorem d4_changedByte_64 : decode b4_changedByte 64 = .ok (.aload_n 0, 1) := by decide +kernel
theorem d4_changedByte_65 : decode b4_changedByte 65 = .ok (.getfield 32, 3) := by decide +kernel
theorem d4_changedByte_68 : decode b4_changedByte 68 = .ok (.iload 5, 2) := by decide +kernel
theorem d4_changedByte_70 : decode b4_changedByte 70 = .ok (.iload_n 2, 1) := by decide +kernel
theorem d4_changedByte_71 : decode b4_changedByte 71 = .ok (.iadd, 1) := by decide +kernel
theorem d4_changedByte_72 : decode b4_changedByte 72 = .ok (.iaload, 1) := by decide +kernel
theorem d4_changedByte_73 : decode b4_changedByte 73 = .ok (.invokestatic 176, 3) := by decide +kernel
theorem d4_changedByte_76 : decode b4_changedByte 76 = .ok (.ireturn, 1) := by decide +kernel
theorem d4_changedByte_77 : decode b4_changedByte 77 = .ok (.aload_n 0, 1) := by decide +kernel
theorem d4_changedByte_78 : decode b4_changedByte 78 = .ok (.getfield 32, 3) := by decide +kernel
theorem d4_changedByte_81 : decode b4_changedByte 81 = .ok (.iload 5, 2) := by decide +kernel
theorem d4_changedByte_83 : decode b4_changedByte 83 = .ok (.iload_n 2, 1) := by decide +kernel
theorem d4_changedByte_84 : decode b4_changedByte 84 = .ok (.iadd, 1) := by decide +kernel
theorem d4_changedByte_85 : decode b4_changedByte 85 = .ok (.iaload, 1) := by decide +kernel
theorem d4_changedByte_86 : decode b4_changedByte 86 = .ok (.invokestatic 179, 3) := by decide +kernel
theorem d4_changedByte_89 : decode b4_changedByte 89 = .ok (.ireturn, 1) := by decide +kernel
theorem d4_changedByte_90 : decode b4_changedByte 90 = .ok (.aload_n 0, 1) := by decide +kernel
theorem d4_changedByte_91 : decode b4_changedByte 91 = .ok (.getfield 32, 3) := by decide +kernel
theorem d4_changedByte_94 : decode b4_changedByte 94 = .ok (.iload 5, 2) := by decide +kernel
theorem d4_changedByte_96 : decode b4_changedByte 96 = .ok (.iload_n 3, 1) := by decide +kernel
theorem d4_changedByte_97 : decode b4_changedByte 97 = .ok (.iadd, 1) := by decide +kernel
theorem d4_changedByte_98 : decode b4_changedByte 98 = .ok (.iaload, 1) := by decide +kernel
theorem d4_changedByte_99 : decode b4_changedByte 99 = .ok (.ireturn, 1) := by decide +kernel
theorem d4_changedByte_112 : decode b4_changedByte 112 = .ok (.aload_n 0, 1) := by decide +kernel
theorem d4_changedByte_113 : decode b4_changedByte 113 = .ok (.getfield 32, 3) := by decide +kernel
theorem d4_changedByte_116 : decode b4_changedByte 116 = .ok (.iload 5, 2) := by decide +kernel
theorem d4_changedByte_118 : decode b4_changedByte 118 = .ok (.iload_n 2, 1) := by decide +kernel
theorem d4_changedByte_119 : decode b4_changedByte 119 = .ok (.iadd, 1) := by decide +kernel
theorem d4_changedByte_120 : decode b4_changedByte 120 = .ok (.iaload, 1) := by decide +kernel
theorem d4_changedByte_121 : decode b4_changedByte 121 = .ok (.ireturn, 1) := by decide +kernel
theorem d4_changedByte_100 : decode b4_changedByte 100 = .ok (.aload_n 0, 1) := by decide +kernel
theorem d4_changedByte_101 : decode b4_changedByte 101 = .ok (.getfield 25, 3) := by decide +kernel
theorem d4_changedByte_104 : decode b4_changedByte 104 = .ok (.iload 4, 2) := by decide +kernel
theorem d4_changedByte_106 : decode b4_changedByte 106 = .ok (.laload, 1) := by decide +kernel
theorem d4_changedByte_107 : decode b4_changedByte 107 = .ok (.iload_n 3, 1) := by decide +kernel
theorem d4_changedByte_108 : decode b4_changedByte 108 = .ok (.invokestatic 182, 3) := by decide +kernel
theorem d4_changedByte_111 : decode b4_changedByte 111 = .ok (.ireturn, 1) := by decide +kernel
theorem d4_renderPart_0 : decode b4_renderPart 0 = .ok (.iload_n 3, 1) := by decide +kernel
theorem d4_renderPart_1 : decode b4_renderPart 1 = .ok (.istore 4, 2) := by decide +kernel
theorem d4_renderPart_3 : decode b4_renderPart 3 = .ok (.iload_n 3, 1) := by decide +kernel
theorem d4_renderPart_4 : decode b4_renderPart 4 = .ok (.sipush 400, 3) := by decide +kernel
theorem d4_renderPart_7 : decode b4_renderPart 7 = .ok (.iadd, 1) := by decide +kernel
theorem d4_renderPart_8 : decode b4_renderPart 8 = .ok (.istore 5, 2) := by decide +kernel
theorem d4_renderPart_10 : decode b4_renderPart 10 = .ok (.aload_n 0, 1) := by decide +kernel
theorem d4_renderPart_11 : decode b4_renderPart 11 = .ok (.getfield 43, 3) := by decide +kernel
theorem d4_renderPart_14 : decode b4_renderPart 14 = .ok (.iload_n 1, 1) := by decide +kernel
theorem d4_renderPart_15 : decode b4_renderPart 15 = .ok (.invokevirtual 135, 3) := by decide +kernel
theorem d4_renderPart_18 : decode b4_renderPart 18 = .ok (.istore 6, 2) := by decide +kernel
theorem d4_renderPart_20 : decode b4_renderPart 20 = .ok (.iload 6, 2) := by decide +kernel
theorem d4_renderPart_22 : decode b4_renderPart 22 = .ok (.aload_n 0, 1) := by decide +kernel
theorem d4_renderPart_23 : decode b4_renderPart 23 = .ok (.getfield 43, 3) := by decide +kernel
theorem d4_renderPart_26 : decode b4_renderPart 26 = .ok (.iload_n 1, 1) := by decide +kernel
theorem d4_renderPart_27 : decode b4_renderPart 27 = .ok (.invokevirtual 167, 3) := by decide +kernel
theorem d4_renderPart_30 : decode b4_renderPart 30 = .ok (.if_icmp .ge 120, 3) := by decide +kernel
theorem d4_renderPart_150 : decode b4_renderPart 150 = .ok (.return_, 1) := by decide +kernel
theorem d4_renderPart_33 : decode b4_renderPart 33 = .ok (.aload_n 0, 1) := by decide +kernel
theorem d4_renderPart_34 : decode b4_renderPart 34 = .ok (.getfield 43, 3) := by decide +kernel
theorem d4_renderPart_37 : decode b4_renderPart 37 = .ok (.getfield 141, 3) := by decide +kernel
theorem d4_renderPart_40 : decode b4_renderPart 40 = .ok (.iload 6, 2) := by decide +kernel
theorem d4_renderPart_42 : decode b4_renderPart 42 = .ok (.iaload, 1) := by decide +kernel
theorem d4_renderPart_43 : decode b4_renderPart 43 = .ok (.iload_n 1, 1) := by decide +kernel
theorem d4_renderPart_44 : decode b4_renderPart 44 = .ok (.if_icmp .ne 100, 3) := by decide +kernel
theorem d4_renderPart_144 : decode b4_renderPart 144 = .ok (.iinc 6 1, 3) := by decide +kernel
theorem d4_renderPart_147 : decode b4_renderPart 147 = .ok (.goto (-127), 3) := by decide +kernel
theorem d4_renderPart_47 : decode b4_renderPart 47 = .ok (.aload_n 0, 1) := by decide +kernel
theorem d4_renderPart_48 : decode b4_renderPart 48 = .ok (.getfield 43, 3) := by decide +kernel
theorem d4_renderPart_51 : decode b4_renderPart 51 = .ok (.getfield 144, 3) := by decide +kernel
theorem d4_renderPart_54 : decode b4_renderPart 54 = .ok (.iload 6, 2) := by decide +kernel
theorem d4_renderPart_56 : decode b4_renderPart 56 = .ok (.iaload, 1) := by decide +kernel
theorem d4_renderPart_57 : decode b4_renderPart 57 = .ok (.istore 7, 2) := by decide +kernel
theorem d4_renderPart_59 : decode b4_renderPart 59 = .ok (.iload 7, 2) := by decide +kernel
theorem d4_renderPart_61 : decode b4_renderPart 61 = .ok (.ifCond .lt 7, 3) := by decide +kernel
theorem d4_renderPart_68 : decode b4_renderPart 68 = .ok (.aload_n 0, 1) := by decide +kernel
theorem d4_renderPart_69 : decode b4_renderPart 69 = .ok (.iload 7, 2) := by decide +kernel
theorem d4_renderPart_71 : decode b4_renderPart 71 = .ok (.ineg, 1) := by decide +kernel
theorem d4_renderPart_72 : decode b4_renderPart 72 = .ok (.iconst 1, 1) := by decide +kernel
theorem d4_renderPart_73 : decode b4_renderPart 73 = .ok (.isub, 1) := by decide +kernel
theorem d4_renderPart_74 : decode b4_renderPart 74 = .ok (.invokevirtual 114, 3) := by decide +kernel
theorem d4_renderPart_77 : decode b4_renderPart 77 = .ok (.ldc2_w 170, 3) := by decide +kernel
theorem d4_renderPart_80 : decode b4_renderPart 80 = .ok (.invokestatic 120, 3) := by decide +kernel
theorem d4_renderPart_83 : decode b4_renderPart 83 = .ok (.l2i, 1) := by decide +kernel
theorem d4_renderPart_84 : decode b4_renderPart 84 = .ok (.istore 8, 2) := by decide +kernel
theorem d4_renderPart_86 : decode b4_renderPart 86 = .ok (.iconst 0, 1) := by decide +kernel
theorem d4_renderPart_87 : decode b4_renderPart 87 = .ok (.istore 9, 2) := by decide +kernel
theorem d4_renderPart_64 : decode b4_renderPart 64 = .ok (.iconst 1, 1) := by decide +kernel
theorem d4_renderPart_65 : decode b4_renderPart 65 = .ok (.goto 19, 3) := by decide +kernel
theorem d4_renderPart_89 : decode b4_renderPart 89 = .ok (.iload 9, 2) := by decide +kernel
theorem d4_renderPart_91 : decode b4_renderPart 91 = .ok (.iload 8, 2) := by decide +kernel
theorem d4_renderPart_93 : decode b4_renderPart 93 = .ok (.if_icmp .ge 51, 3) := by decide +kernel
theorem d4_renderPart_96 : decode b4_renderPart 96 = .ok (.iload 4, 2) := by decide +kernel
theorem d4_renderPart_98 : decode b4_renderPart 98 = .ok (.iload 5, 2) := by decide +kernel
theorem d4_renderPart_100 : decode b4_renderPart 100 = .ok (.if_icmp .ge 44, 3) := by decide +kernel
theorem d4_renderPart_103 : decode b4_renderPart 103 = .ok (.aload_n 2, 1) := by decide +kernel
theorem d4_renderPart_104 : decode b4_renderPart 104 = .ok (.iload 4, 2) := by decide +kernel
theorem d4_renderPart_106 : decode b4_renderPart 106 = .ok (.iload 7, 2) := by decide +kernel
theorem d4_renderPart_108 : decode b4_renderPart 108 = .ok (.ifCond .lt 8, 3) := by decide +kernel
theorem d4_renderPart_116 : decode b4_renderPart 116 = .ok (.aload_n 0, 1) := by decide +kernel
theorem d4_renderPart_117 : decode b4_renderPart 117 = .ok (.iload 7, 2) := by decide +kernel
theorem d4_renderPart_119 : decode b4_renderPart 119 = .ok (.ineg, 1) := by decide +kernel
theorem d4_renderPart_120 : decode b4_renderPart 120 = .ok (.iconst 1, 1) := by decide +kernel
theorem d4_renderPart_121 : decode b4_renderPart 121 = .ok (.isub, 1) := by decide +kernel
theorem d4_renderPart_122 : decode b4_renderPart 122 = .ok (.iload 9, 2) := by decide +kernel
theorem d4_renderPart_124 : decode b4_renderPart 124 = .ok (.iload 8, 2) := by decide +kernel
theorem d4_renderPart_126 : decode b4_renderPart 126 = .ok (.iconst 1, 1) := by decide +kernel
theorem d4_renderPart_127 : decode b4_renderPart 127 = .ok (.isub, 1) := by decide +kernel
theorem d4_renderPart_128 : decode b4_renderPart 128 = .ok (.iload 9, 2) := by decide +kernel
theorem d4_renderPart_130 : decode b4_renderPart 130 = .ok (.isub, 1) := by decide +kernel
theorem d4_renderPart_131 : decode b4_renderPart 131 = .ok (.invokevirtual 172, 3) := by decide +kernel
theorem d4_renderPart_111 : decode b4_renderPart 111 = .ok (.iload 7, 2) := by decide +kernel
theorem d4_renderPart_113 : decode b4_renderPart 113 = .ok (.goto 21, 3) := by decide +kernel
theorem d4_renderPart_134 : decode b4_renderPart 134 = .ok (.iastore, 1) := by decide +kernel
theorem d4_renderPart_135 : decode b4_renderPart 135 = .ok (.iinc 4 1, 3) := by decide +kernel
theorem d4_renderPart_138 : decode b4_renderPart 138 = .ok (.iinc 9 1, 3) := by decide +kernel
theorem d4_renderPart_141 : decode b4_renderPart 141 = .ok (.goto (-52), 3) := by decide +kernel
theorem d4_renderValues_0 : decode b4_renderValues 0 = .ok (.iconst 0, 1) := by decide +kernel
theorem d4_renderValues_1 : decode b4_renderValues 1 = .ok (.istore_n 1, 1) := by decide +kernel
theorem d4_renderValues_2 : decode b4_renderValues 2 = .ok (.iload_n 1, 1) := by decide +kernel
theorem d4_renderValues_3 : decode b4_renderValues 3 = .ok (.bipush 10, 2) := by decide +kernel
theorem d4_renderValues_5 : decode b4_renderValues 5 = .ok (.if_icmp .ge 78, 3) := by decide +kernel
theorem d4_renderValues_83 : decode b4_renderValues 83 = .ok (.return_, 1) := by decide +kernel
theorem d4_renderValues_8 : decode b4_renderValues 8 = .ok (.iconst 0, 1) := by decide +kernel
theorem d4_renderValues_9 : decode b4_renderValues 9 = .ok (.istore_n 2, 1) := by decide +kernel
theorem d4_renderValues_10 : decode b4_renderValues 10 = .ok (.iload_n 2, 1) := by decide +kernel
theorem d4_renderValues_11 : decode b4_renderValues 11 = .ok (.bipush 10, 2) := by decide +kernel
theorem d4_renderValues_13 : decode b4_renderValues 13 = .ok (.if_icmp .ge 64, 3) := by decide +kernel
theorem d4_renderValues_77 : decode b4_renderValues 77 = .ok (.iinc 1 1, 3) := by decide +kernel
theorem d4_renderValues_80 : decode b4_renderValues 80 = .ok (.goto (-78), 3) := by decide +kernel
theorem d4_renderValues_16 : decode b4_renderValues 16 = .ok (.aload_n 0, 1) := by decide +kernel
theorem d4_renderValues_17 : decode b4_renderValues 17 = .ok (.getfield 43, 3) := by decide +kernel
theorem d4_renderValues_20 : decode b4_renderValues 20 = .ok (.getfield 78, 3) := by decide +kernel
theorem d4_renderValues_23 : decode b4_renderValues 23 = .ok (.iload_n 2, 1) := by decide +kernel
theorem d4_renderValues_24 : decode b4_renderValues 24 = .ok (.iaload, 1) := by decide +kernel
theorem d4_renderValues_25 : decode b4_renderValues 25 = .ok (.invokestatic 81, 3) := by decide +kernel
theorem d4_renderValues_28 : decode b4_renderValues 28 = .ok (.iload_n 1, 1) := by decide +kernel
theorem d4_renderValues_29 : decode b4_renderValues 29 = .ok (.if_icmp .ne 7, 3) := by decide +kernel
theorem d4_renderValues_36 : decode b4_renderValues 36 = .ok (.iconst 0, 1) := by decide +kernel
theorem d4_renderValues_32 : decode b4_renderValues 32 = .ok (.iconst 1, 1) := by decide +kernel
theorem d4_renderValues_33 : decode b4_renderValues 33 = .ok (.goto 4, 3) := by decide +kernel
theorem d4_renderValues_37 : decode b4_renderValues 37 = .ok (.istore_n 3, 1) := by decide +kernel
theorem d4_renderValues_38 : decode b4_renderValues 38 = .ok (.iload_n 3, 1) := by decide +kernel
theorem d4_renderValues_39 : decode b4_renderValues 39 = .ok (.ifCond .eq 32, 3) := by decide +kernel
theorem d4_renderValues_71 : decode b4_renderValues 71 = .ok (.iinc 2 1, 3) := by decide +kernel
theorem d4_renderValues_74 : decode b4_renderValues 74 = .ok (.goto (-64), 3) := by decide +kernel
theorem d4_renderValues_42 : decode b4_renderValues 42 = .ok (.aload_n 0, 1) := by decide +kernel
theorem d4_renderValues_43 : decode b4_renderValues 43 = .ok (.getfield 19, 3) := by decide +kernel
theorem d4_renderValues_46 : decode b4_renderValues 46 = .ok (.iload_n 2, 1) := by decide +kernel
theorem d4_renderValues_47 : decode b4_renderValues 47 = .ok (.iaload, 1) := by decide +kernel
theorem d4_renderValues_48 : decode b4_renderValues 48 = .ok (.iconst (-1), 1) := by decide +kernel
theorem d4_renderValues_49 : decode b4_renderValues 49 = .ok (.if_icmp .eq 22, 3) := by decide +kernel
theorem d4_renderValues_52 : decode b4_renderValues 52 = .ok (.aload_n 0, 1) := by decide +kernel
theorem d4_renderValues_53 : decode b4_renderValues 53 = .ok (.aload_n 0, 1) := by decide +kernel
theorem d4_renderValues_54 : decode b4_renderValues 54 = .ok (.getfield 19, 3) := by decide +kernel
theorem d4_renderValues_57 : decode b4_renderValues 57 = .ok (.iload_n 2, 1) := by decide +kernel
theorem d4_renderValues_58 : decode b4_renderValues 58 = .ok (.iaload, 1) := by decide +kernel
theorem d4_renderValues_59 : decode b4_renderValues 59 = .ok (.aload_n 0, 1) := by decide +kernel
theorem d4_renderValues_60 : decode b4_renderValues 60 = .ok (.getfield 32, 3) := by decide +kernel
theorem d4_renderValues_63 : decode b4_renderValues 63 = .ok (.iload_n 2, 1) := by decide +kernel
theorem d4_renderValues_64 : decode b4_renderValues 64 = .ok (.sipush 400, 3) := by decide +kernel
theorem d4_renderValues_67 : decode b4_renderValues 67 = .ok (.imul, 1) := by decide +kernel
theorem d4_renderValues_68 : decode b4_renderValues 68 = .ok (.invokevirtual 160, 3) := by decide +kernel
theorem d4_renderText_0 : decode b4_renderText 0 = .ok (.aload_n 0, 1) := by decide +kernel
theorem d4_renderText_1 : decode b4_renderText 1 = .ok (.invokevirtual 164, 3) := by decide +kernel
theorem d4_renderText_4 : decode b4_renderText 4 = .ok (.aload_n 0, 1) := by decide +kernel
theorem d4_renderText_5 : decode b4_renderText 5 = .ok (.iconst (-1), 1) := by decide +kernel
theorem d4_renderText_6 : decode b4_renderText 6 = .ok (.aload_n 0, 1) := by decide +kernel
theorem d4_renderText_7 : decode b4_renderText 7 = .ok (.getfield 35, 3) := by decide +kernel
theorem d4_renderText_10 : decode b4_renderText 10 = .ok (.iconst 0, 1) := by decide +kernel
