theorem d7_erase_125 : decode b7_erase 125 = .ok (.ixor, 1) := by decide +kernel
theorem d7_erase_126 : decode b7_erase 126 = .ok (.iand, 1) := by decide +kernel
theorem d7_erase_127 : decode b7_erase 127 = .ok (.iastore, 1) := by decide +kernel
theorem d7_erase_128 : decode b7_erase 128 = .ok (.aload_n 0, 1) := by decide +kernel
theorem d7_erase_129 : decode b7_erase 129 = .ok (.iload_n 1, 1) := by decide +kernel
theorem d7_erase_130 : decode b7_erase 130 = .ok (.aload_n 0, 1) := by decide +kernel
theorem d7_erase_131 : decode b7_erase 131 = .ok (.getfield 76, 3) := by decide +kernel
theorem d7_erase_134 : decode b7_erase 134 = .ok (.iload_n 3, 1) := by decide +kernel
theorem d7_erase_135 : decode b7_erase 135 = .ok (.invokevirtual 386, 3) := by decide +kernel
theorem d7_erase_138 : decode b7_erase 138 = .ok (.ifCond .ne 7, 3) := by decide +kernel
theorem d7_erase_145 : decode b7_erase 145 = .ok (.aload_n 0, 1) := by decide +kernel
theorem d7_erase_146 : decode b7_erase 146 = .ok (.iload_n 1, 1) := by decide +kernel
theorem d7_erase_147 : decode b7_erase 147 = .ok (.invokevirtual 390, 3) := by decide +kernel
theorem d7_erase_150 : decode b7_erase 150 = .ok (.ifCond .eq 7, 3) := by decide +kernel
theorem d7_erase_157 : decode b7_erase 157 = .ok (.iconst 0, 1) := by decide +kernel
theorem d7_erase_153 : decode b7_erase 153 = .ok (.iconst 3, 1) := by decide +kernel
theorem d7_erase_154 : decode b7_erase 154 = .ok (.goto 4, 3) := by decide +kernel
theorem d7_erase_141 : decode b7_erase 141 = .ok (.iconst 4, 1) := by decide +kernel
theorem d7_erase_142 : decode b7_erase 142 = .ok (.goto 16, 3) := by decide +kernel
theorem d7_erase_89 : decode b7_erase 89 = .ok (.aload_n 0, 1) := by decide +kernel
theorem d7_erase_90 : decode b7_erase 90 = .ok (.getfield 76, 3) := by decide +kernel
theorem d7_erase_93 : decode b7_erase 93 = .ok (.iload 4, 2) := by decide +kernel
theorem d7_erase_95 : decode b7_erase 95 = .ok (.aload_n 0, 1) := by decide +kernel
theorem d7_erase_96 : decode b7_erase 96 = .ok (.getfield 61, 3) := by decide +kernel
theorem d7_erase_99 : decode b7_erase 99 = .ok (.iload 4, 2) := by decide +kernel
theorem d7_erase_101 : decode b7_erase 101 = .ok (.iaload, 1) := by decide +kernel
theorem d7_erase_102 : decode b7_erase 102 = .ok (.iastore, 1) := by decide +kernel
theorem d7_erase_103 : decode b7_erase 103 = .ok (.iinc 4 1, 3) := by decide +kernel
theorem d7_erase_106 : decode b7_erase 106 = .ok (.goto (-23), 3) := by decide +kernel
theorem d7_erase_158 : decode b7_erase 158 = .ok (.istore 4, 2) := by decide +kernel
theorem d7_erase_160 : decode b7_erase 160 = .ok (.aload_n 0, 1) := by decide +kernel
theorem d7_erase_161 : decode b7_erase 161 = .ok (.iload 4, 2) := by decide +kernel
theorem d7_erase_163 : decode b7_erase 163 = .ok (.iload_n 3, 1) := by decide +kernel
theorem d7_erase_164 : decode b7_erase 164 = .ok (.invokevirtual 405, 3) := by decide +kernel
theorem d7_erase_167 : decode b7_erase 167 = .ok (.ireturn, 1) := by decide +kernel
theorem d7_reset_0 : decode b7_reset 0 = .ok (.aload_n 0, 1) := by decide +kernel
theorem d7_reset_1 : decode b7_reset 1 = .ok (.iconst 0, 1) := by decide +kernel
theorem d7_reset_2 : decode b7_reset 2 = .ok (.putfield 79, 3) := by decide +kernel
theorem d7_reset_5 : decode b7_reset 5 = .ok (.aload_n 0, 1) := by decide +kernel
theorem d7_reset_6 : decode b7_reset 6 = .ok (.invokevirtual 399, 3) := by decide +kernel
theorem d7_reset_9 : decode b7_reset 9 = .ok (.aload_n 0, 1) := by decide +kernel
theorem d7_reset_10 : decode b7_reset 10 = .ok (.getfield 7, 3) := by decide +kernel
theorem d7_reset_13 : decode b7_reset 13 = .ok (.iconst 0, 1) := by decide +kernel
theorem d7_reset_14 : decode b7_reset 14 = .ok (.iaload, 1) := by decide +kernel
theorem d7_reset_15 : decode b7_reset 15 = .ok (.ifCond .ne 9, 3) := by decide +kernel
theorem d7_reset_24 : decode b7_reset 24 = .ok (.aload_n 0, 1) := by decide +kernel
theorem d7_reset_25 : decode b7_reset 25 = .ok (.getfield 7, 3) := by decide +kernel
theorem d7_reset_28 : decode b7_reset 28 = .ok (.iconst 0, 1) := by decide +kernel
theorem d7_reset_29 : decode b7_reset 29 = .ok (.iaload, 1) := by decide +kernel
theorem d7_reset_30 : decode b7_reset 30 = .ok (.iconst 1, 1) := by decide +kernel
theorem d7_reset_31 : decode b7_reset 31 = .ok (.isub, 1) := by decide +kernel
theorem d7_reset_32 : decode b7_reset 32 = .ok (.istore_n 1, 1) := by decide +kernel
theorem d7_reset_33 : decode b7_reset 33 = .ok (.aload_n 0, 1) := by decide +kernel
theorem d7_reset_34 : decode b7_reset 34 = .ok (.iload_n 1, 1) := by decide +kernel
theorem d7_reset_35 : decode b7_reset 35 = .ok (.invokevirtual 336, 3) := by decide +kernel
theorem d7_reset_38 : decode b7_reset 38 = .ok (.aload_n 0, 1) := by decide +kernel
theorem d7_reset_39 : decode b7_reset 39 = .ok (.getfield 7, 3) := by decide +kernel
theorem d7_reset_42 : decode b7_reset 42 = .ok (.aload_n 0, 1) := by decide +kernel
theorem d7_reset_43 : decode b7_reset 43 = .ok (.getfield 251, 3) := by decide +kernel
theorem d7_reset_46 : decode b7_reset 46 = .ok (.iconst 1, 1) := by decide +kernel
theorem d7_reset_47 : decode b7_reset 47 = .ok (.iadd, 1) := by decide +kernel
theorem d7_reset_48 : decode b7_reset 48 = .ok (.iaload, 1) := by decide +kernel
theorem d7_reset_49 : decode b7_reset 49 = .ok (.istore_n 2, 1) := by decide +kernel
theorem d7_reset_50 : decode b7_reset 50 = .ok (.aload_n 0, 1) := by decide +kernel
theorem d7_reset_51 : decode b7_reset 51 = .ok (.iload_n 2, 1) := by decide +kernel
theorem d7_reset_52 : decode b7_reset 52 = .ok (.invokevirtual 265, 3) := by decide +kernel
theorem d7_reset_55 : decode b7_reset 55 = .ok (.ifCond .ne 10, 3) := by decide +kernel
theorem d7_reset_65 : decode b7_reset 65 = .ok (.aload_n 0, 1) := by decide +kernel
theorem d7_reset_66 : decode b7_reset 66 = .ok (.getfield 7, 3) := by decide +kernel
theorem d7_reset_69 : decode b7_reset 69 = .ok (.aload_n 0, 1) := by decide +kernel
theorem d7_reset_70 : decode b7_reset 70 = .ok (.getfield 251, 3) := by decide +kernel
theorem d7_reset_73 : decode b7_reset 73 = .ok (.iconst 2, 1) := by decide +kernel
theorem d7_reset_74 : decode b7_reset 74 = .ok (.iadd, 1) := by decide +kernel
theorem d7_reset_75 : decode b7_reset 75 = .ok (.dup2, 1) := by decide +kernel
theorem d7_reset_76 : decode b7_reset 76 = .ok (.iaload, 1) := by decide +kernel
theorem d7_reset_77 : decode b7_reset 77 = .ok (.iconst 1, 1) := by decide +kernel
theorem d7_reset_78 : decode b7_reset 78 = .ok (.iload_n 2, 1) := by decide +kernel
theorem d7_reset_79 : decode b7_reset 79 = .ok (.ishl, 1) := by decide +kernel
theorem d7_reset_80 : decode b7_reset 80 = .ok (.iconst (-1), 1) := by decide +kernel
theorem d7_reset_81 : decode b7_reset 81 = .ok (.ixor, 1) := by decide +kernel
theorem d7_reset_82 : decode b7_reset 82 = .ok (.iand, 1) := by decide +kernel
theorem d7_reset_83 : decode b7_reset 83 = .ok (.iastore, 1) := by decide +kernel
theorem d7_reset_84 : decode b7_reset 84 = .ok (.aload_n 0, 1) := by decide +kernel
theorem d7_reset_85 : decode b7_reset 85 = .ok (.getfield 7, 3) := by decide +kernel
theorem d7_reset_88 : decode b7_reset 88 = .ok (.aload_n 0, 1) := by decide +kernel
theorem d7_reset_89 : decode b7_reset 89 = .ok (.getfield 251, 3) := by decide +kernel
theorem d7_reset_92 : decode b7_reset 92 = .ok (.iconst 3, 1) := by decide +kernel
theorem d7_reset_93 : decode b7_reset 93 = .ok (.iadd, 1) := by decide +kernel
theorem d7_reset_94 : decode b7_reset 94 = .ok (.iload_n 2, 1) := by decide +kernel
theorem d7_reset_95 : decode b7_reset 95 = .ok (.iadd, 1) := by decide +kernel
theorem d7_reset_96 : decode b7_reset 96 = .ok (.iconst 0, 1) := by decide +kernel
theorem d7_reset_97 : decode b7_reset 97 = .ok (.iastore, 1) := by decide +kernel
theorem d7_reset_98 : decode b7_reset 98 = .ok (.aload_n 0, 1) := by decide +kernel
theorem d7_reset_99 : decode b7_reset 99 = .ok (.iload_n 1, 1) := by decide +kernel
theorem d7_reset_100 : decode b7_reset 100 = .ok (.invokevirtual 390, 3) := by decide +kernel
theorem d7_reset_103 : decode b7_reset 103 = .ok (.ifCond .eq 7, 3) := by decide +kernel
theorem d7_reset_110 : decode b7_reset 110 = .ok (.iconst 0, 1) := by decide +kernel
theorem d7_reset_106 : decode b7_reset 106 = .ok (.iconst 3, 1) := by decide +kernel
theorem d7_reset_107 : decode b7_reset 107 = .ok (.goto 4, 3) := by decide +kernel
theorem d7_reset_58 : decode b7_reset 58 = .ok (.aload_n 0, 1) := by decide +kernel
theorem d7_reset_59 : decode b7_reset 59 = .ok (.bipush 6, 2) := by decide +kernel
theorem d7_reset_61 : decode b7_reset 61 = .ok (.invokevirtual 393, 3) := by decide +kernel
theorem d7_reset_64 : decode b7_reset 64 = .ok (.ireturn, 1) := by decide +kernel
theorem d7_reset_18 : decode b7_reset 18 = .ok (.aload_n 0, 1) := by decide +kernel
theorem d7_reset_19 : decode b7_reset 19 = .ok (.iconst 1, 1) := by decide +kernel
theorem d7_reset_20 : decode b7_reset 20 = .ok (.invokevirtual 393, 3) := by decide +kernel
theorem d7_reset_23 : decode b7_reset 23 = .ok (.ireturn, 1) := by decide +kernel
theorem d7_reset_111 : decode b7_reset 111 = .ok (.istore_n 3, 1) := by decide +kernel
theorem d7_reset_112 : decode b7_reset 112 = .ok (.aload_n 0, 1) := by decide +kernel
theorem d7_reset_113 : decode b7_reset 113 = .ok (.iload_n 3, 1) := by decide +kernel
theorem d7_reset_114 : decode b7_reset 114 = .ok (.aload_n 0, 1) := by decide +kernel
theorem d7_reset_115 : decode b7_reset 115 = .ok (.iload_n 2, 1) := by decide +kernel
theorem d7_reset_116 : decode b7_reset 116 = .ok (.invokevirtual 273, 3) := by decide +kernel
theorem d7_reset_119 : decode b7_reset 119 = .ok (.invokevirtual 405, 3) := by decide +kernel
theorem d7_reset_122 : decode b7_reset 122 = .ok (.ireturn, 1) := by decide +kernel
theorem d7_currentNow_0 : decode b7_currentNow 0 = .ok (.aload_n 0, 1) := by decide +kernel
theorem d7_currentNow_1 : decode b7_currentNow 1 = .ok (.getfield 7, 3) := by decide +kernel
theorem d7_currentNow_4 : decode b7_currentNow 4 = .ok (.iconst 0, 1) := by decide +kernel
theorem d7_currentNow_5 : decode b7_currentNow 5 = .ok (.iaload, 1) := by decide +kernel
theorem d7_currentNow_6 : decode b7_currentNow 6 = .ok (.ifCond .ne 8, 3) := by decide +kernel
theorem d7_currentNow_14 : decode b7_currentNow 14 = .ok (.aload_n 0, 1) := by decide +kernel
theorem d7_currentNow_15 : decode b7_currentNow 15 = .ok (.getfield 7, 3) := by decide +kernel
theorem d7_currentNow_18 : decode b7_currentNow 18 = .ok (.sipush 604, 3) := by decide +kernel
theorem d7_currentNow_21 : decode b7_currentNow 21 = .ok (.sipush 413, 3) := by decide +kernel
theorem d7_currentNow_24 : decode b7_currentNow 24 = .ok (.aload_n 0, 1) := by decide +kernel
theorem d7_currentNow_25 : decode b7_currentNow 25 = .ok (.getfield 7, 3) := by decide +kernel
theorem d7_currentNow_28 : decode b7_currentNow 28 = .ok (.iconst 0, 1) := by decide +kernel
theorem d7_currentNow_29 : decode b7_currentNow 29 = .ok (.iaload, 1) := by decide +kernel
theorem d7_currentNow_30 : decode b7_currentNow 30 = .ok (.iconst 1, 1) := by decide +kernel
theorem d7_currentNow_31 : decode b7_currentNow 31 = .ok (.isub, 1) := by decide +kernel
theorem d7_currentNow_32 : decode b7_currentNow 32 = .ok (.imul, 1) := by decide +kernel
theorem d7_currentNow_33 : decode b7_currentNow 33 = .ok (.iadd, 1) := by decide +kernel
theorem d7_currentNow_34 : decode b7_currentNow 34 = .ok (.iconst 1, 1) := by decide +kernel
theorem d7_currentNow_35 : decode b7_currentNow 35 = .ok (.iadd, 1) := by decide +kernel
theorem d7_currentNow_36 : decode b7_currentNow 36 = .ok (.iaload, 1) := by decide +kernel
theorem d7_currentNow_37 : decode b7_currentNow 37 = .ok (.ireturn, 1) := by decide +kernel
theorem d7_currentNow_9 : decode b7_currentNow 9 = .ok (.bipush 10, 2) := by decide +kernel
theorem d7_currentNow_11 : decode b7_currentNow 11 = .ok (.goto 26, 3) := by decide +kernel
theorem d7_next_0 : decode b7_next 0 = .ok (.aload_n 0, 1) := by decide +kernel
theorem d7_next_1 : decode b7_next 1 = .ok (.iconst 0, 1) := by decide +kernel
theorem d7_next_2 : decode b7_next 2 = .ok (.putfield 79, 3) := by decide +kernel
theorem d7_next_5 : decode b7_next 5 = .ok (.aload_n 0, 1) := by decide +kernel
theorem d7_next_6 : decode b7_next 6 = .ok (.invokevirtual 399, 3) := by decide +kernel
theorem d7_next_9 : decode b7_next 9 = .ok (.aload_n 0, 1) := by decide +kernel
theorem d7_next_10 : decode b7_next 10 = .ok (.getfield 7, 3) := by decide +kernel
theorem d7_next_13 : decode b7_next 13 = .ok (.iconst 0, 1) := by decide +kernel
theorem d7_next_14 : decode b7_next 14 = .ok (.iaload, 1) := by decide +kernel
theorem d7_next_15 : decode b7_next 15 = .ok (.ifCond .ne 9, 3) := by decide +kernel
theorem d7_next_24 : decode b7_next 24 = .ok (.aload_n 0, 1) := by decide +kernel
theorem d7_next_25 : decode b7_next 25 = .ok (.aload_n 0, 1) := by decide +kernel
theorem d7_next_26 : decode b7_next 26 = .ok (.getfield 7, 3) := by decide +kernel
theorem d7_next_29 : decode b7_next 29 = .ok (.iconst 0, 1) := by decide +kernel
theorem d7_next_30 : decode b7_next 30 = .ok (.iaload, 1) := by decide +kernel
theorem d7_next_31 : decode b7_next 31 = .ok (.iconst 1, 1) := by decide +kernel
theorem d7_next_32 : decode b7_next 32 = .ok (.isub, 1) := by decide +kernel
theorem d7_next_33 : decode b7_next 33 = .ok (.invokevirtual 336, 3) := by decide +kernel
theorem d7_next_36 : decode b7_next 36 = .ok (.aload_n 0, 1) := by decide +kernel
theorem d7_next_37 : decode b7_next 37 = .ok (.invokevirtual 345, 3) := by decide +kernel
theorem d7_next_40 : decode b7_next 40 = .ok (.aload_n 0, 1) := by decide +kernel
theorem d7_next_41 : decode b7_next 41 = .ok (.aload_n 0, 1) := by decide +kernel
theorem d7_next_42 : decode b7_next 42 = .ok (.getfield 7, 3) := by decide +kernel
theorem d7_next_45 : decode b7_next 45 = .ok (.aload_n 0, 1) := by decide +kernel
theorem d7_next_46 : decode b7_next 46 = .ok (.getfield 251, 3) := by decide +kernel
theorem d7_next_49 : decode b7_next 49 = .ok (.iconst 1, 1) := by decide +kernel
theorem d7_next_50 : decode b7_next 50 = .ok (.iadd, 1) := by decide +kernel
theorem d7_next_51 : decode b7_next 51 = .ok (.iaload, 1) := by decide +kernel
theorem d7_next_52 : decode b7_next 52 = .ok (.invokevirtual 351, 3) := by decide +kernel
theorem d7_next_55 : decode b7_next 55 = .ok (.iconst 1, 1) := by decide +kernel
theorem d7_next_56 : decode b7_next 56 = .ok (.iadd, 1) := by decide +kernel
theorem d7_next_57 : decode b7_next 57 = .ok (.istore_n 1, 1) := by decide +kernel
theorem d7_next_58 : decode b7_next 58 = .ok (.iconst 0, 1) := by decide +kernel
theorem d7_next_59 : decode b7_next 59 = .ok (.istore_n 2, 1) := by decide +kernel
theorem d7_next_60 : decode b7_next 60 = .ok (.iload_n 1, 1) := by decide +kernel
theorem d7_next_61 : decode b7_next 61 = .ok (.aload_n 0, 1) := by decide +kernel
theorem d7_next_62 : decode b7_next 62 = .ok (.getfield 310, 3) := by decide +kernel
theorem d7_next_65 : decode b7_next 65 = .ok (.if_icmp .ge 23, 3) := by decide +kernel
theorem d7_next_88 : decode b7_next 88 = .ok (.aload_n 0, 1) := by decide +kernel
theorem d7_next_89 : decode b7_next 89 = .ok (.invokevirtual 402, 3) := by decide +kernel
theorem d7_next_92 : decode b7_next 92 = .ok (.istore_n 2, 1) := by decide +kernel
theorem d7_next_68 : decode b7_next 68 = .ok (.aload_n 0, 1) := by decide +kernel
theorem d7_next_69 : decode b7_next 69 = .ok (.getfield 7, 3) := by decide +kernel
theorem d7_next_72 : decode b7_next 72 = .ok (.aload_n 0, 1) := by decide +kernel
theorem d7_next_73 : decode b7_next 73 = .ok (.getfield 251, 3) := by decide +kernel
theorem d7_next_76 : decode b7_next 76 = .ok (.iconst 1, 1) := by decide +kernel
theorem d7_next_77 : decode b7_next 77 = .ok (.iadd, 1) := by decide +kernel
theorem d7_next_78 : decode b7_next 78 = .ok (.aload_n 0, 1) := by decide +kernel
theorem d7_next_79 : decode b7_next 79 = .ok (.getfield 70, 3) := by decide +kernel
theorem d7_next_82 : decode b7_next 82 = .ok (.iload_n 1, 1) := by decide +kernel
theorem d7_next_83 : decode b7_next 83 = .ok (.iaload, 1) := by decide +kernel
theorem d7_next_84 : decode b7_next 84 = .ok (.iastore, 1) := by decide +kernel
theorem d7_next_85 : decode b7_next 85 = .ok (.goto 8, 3) := by decide +kernel
theorem d7_next_18 : decode b7_next 18 = .ok (.aload_n 0, 1) := by decide +kernel
theorem d7_next_19 : decode b7_next 19 = .ok (.iconst 1, 1) := by decide +kernel
theorem d7_next_20 : decode b7_next 20 = .ok (.invokevirtual 393, 3) := by decide +kernel
theorem d7_next_23 : decode b7_next 23 = .ok (.ireturn, 1) := by decide +kernel
theorem d7_next_93 : decode b7_next 93 = .ok (.aload_n 0, 1) := by decide +kernel
theorem d7_next_94 : decode b7_next 94 = .ok (.iload_n 2, 1) := by decide +kernel
theorem d7_next_95 : decode b7_next 95 = .ok (.aload_n 0, 1) := by decide +kernel
theorem d7_next_96 : decode b7_next 96 = .ok (.invokevirtual 408, 3) := by decide +kernel
theorem d7_next_99 : decode b7_next 99 = .ok (.invokevirtual 405, 3) := by decide +kernel
theorem d7_next_102 : decode b7_next 102 = .ok (.ireturn, 1) := by decide +kernel
theorem d7_previous_0 : decode b7_previous 0 = .ok (.aload_n 0, 1) := by decide +kernel
theorem d7_previous_1 : decode b7_previous 1 = .ok (.iconst 0, 1) := by decide +kernel
theorem d7_previous_2 : decode b7_previous 2 = .ok (.putfield 79, 3) := by decide +kernel
theorem d7_previous_5 : decode b7_previous 5 = .ok (.aload_n 0, 1) := by decide +kernel
theorem d7_previous_6 : decode b7_previous 6 = .ok (.invokevirtual 399, 3) := by decide +kernel
theorem d7_previous_9 : decode b7_previous 9 = .ok (.aload_n 0, 1) := by decide +kernel
theorem d7_previous_10 : decode b7_previous 10 = .ok (.getfield 7, 3) := by decide +kernel
theorem d7_previous_13 : decode b7_previous 13 = .ok (.iconst 0, 1) := by decide +kernel
theorem d7_previous_14 : decode b7_previous 14 = .ok (.iaload, 1) := by decide +kernel
theorem d7_previous_15 : decode b7_previous 15 = .ok (.ifCond .ne 9, 3) := by decide +kernel
theorem d7_previous_24 : decode b7_previous 24 = .ok (.aload_n 0, 1) := by decide +kernel
theorem d7_previous_25 : decode b7_previous 25 = .ok (.aload_n 0, 1) := by decide +kernel
theorem d7_previous_26 : decode b7_previous 26 = .ok (.getfield 7, 3) := by decide +kernel
theorem d7_previous_29 : decode b7_previous 29 = .ok (.iconst 0, 1) := by decide +kernel
theorem d7_previous_30 : decode b7_previous 30 = .ok (.iaload, 1) := by decide +kernel
theorem d7_previous_31 : decode b7_previous 31 = .ok (.iconst 1, 1) := by decide +kernel
theorem d7_previous_32 : decode b7_previous 32 = .ok (.isub, 1) := by decide +kernel
theorem d7_previous_33 : decode b7_previous 33 = .ok (.invokevirtual 336, 3) := by decide +kernel
theorem d7_previous_36 : decode b7_previous 36 = .ok (.aload_n 0, 1) := by decide +kernel
theorem d7_previous_37 : decode b7_previous 37 = .ok (.invokevirtual 345, 3) := by decide +kernel
theorem d7_previous_40 : decode b7_previous 40 = .ok (.aload_n 0, 1) := by decide +kernel
theorem d7_previous_41 : decode b7_previous 41 = .ok (.aload_n 0, 1) := by decide +kernel
theorem d7_previous_42 : decode b7_previous 42 = .ok (.getfield 7, 3) := by decide +kernel
theorem d7_previous_45 : decode b7_previous 45 = .ok (.aload_n 0, 1) := by decide +kernel
theorem d7_previous_46 : decode b7_previous 46 = .ok (.getfield 251, 3) := by decide +kernel
theorem d7_previous_49 : decode b7_previous 49 = .ok (.iconst 1, 1) := by decide +kernel
theorem d7_previous_50 : decode b7_previous 50 = .ok (.iadd, 1) := by decide +kernel
theorem d7_previous_51 : decode b7_previous 51 = .ok (.iaload, 1) := by decide +kernel
theorem d7_previous_52 : decode b7_previous 52 = .ok (.invokevirtual 351, 3) := by decide +kernel
theorem d7_previous_55 : decode b7_previous 55 = .ok (.istore_n 1, 1) := by decide +kernel
theorem d7_previous_56 : decode b7_previous 56 = .ok (.iload_n 1, 1) := by decide +kernel
theorem d7_previous_57 : decode b7_previous 57 = .ok (.ifCond .ne 10, 3) := by decide +kernel
theorem d7_previous_67 : decode b7_previous 67 = .ok (.aload_n 0, 1) := by decide +kernel
theorem d7_previous_68 : decode b7_previous 68 = .ok (.getfield 7, 3) := by decide +kernel
theorem d7_previous_71 : decode b7_previous 71 = .ok (.aload_n 0, 1) := by decide +kernel
theorem d7_previous_72 : decode b7_previous 72 = .ok (.getfield 251, 3) := by decide +kernel
theorem d7_previous_75 : decode b7_previous 75 = .ok (.iconst 1, 1) := by decide +kernel
theorem d7_previous_76 : decode b7_previous 76 = .ok (.iadd, 1) := by decide +kernel
theorem d7_previous_77 : decode b7_previous 77 = .ok (.aload_n 0, 1) := by decide +kernel
theorem d7_previous_78 : decode b7_previous 78 = .ok (.getfield 70, 3) := by decide +kernel
theorem d7_previous_81 : decode b7_previous 81 = .ok (.iload_n 1, 1) := by decide +kernel
theorem d7_previous_82 : decode b7_previous 82 = .ok (.iconst 1, 1) := by decide +kernel
theorem d7_previous_83 : decode b7_previous 83 = .ok (.isub, 1) := by decide +kernel
theorem d7_previous_84 : decode b7_previous 84 = .ok (.iaload, 1) := by decide +kernel
theorem d7_previous_85 : decode b7_previous 85 = .ok (.iastore, 1) := by decide +kernel
theorem d7_previous_86 : decode b7_previous 86 = .ok (.aload_n 0, 1) := by decide +kernel
theorem d7_previous_87 : decode b7_previous 87 = .ok (.aload_n 0, 1) := by decide +kernel
theorem d7_previous_88 : decode b7_previous 88 = .ok (.getfield 70, 3) := by decide +kernel
theorem d7_previous_91 : decode b7_previous 91 = .ok (.iload_n 1, 1) := by decide +kernel
theorem d7_previous_92 : decode b7_previous 92 = .ok (.iconst 1, 1) := by decide +kernel
theorem d7_previous_93 : decode b7_previous 93 = .ok (.isub, 1) := by decide +kernel
theorem d7_previous_94 : decode b7_previous 94 = .ok (.iaload, 1) := by decide +kernel
theorem d7_previous_95 : decode b7_previous 95 = .ok (.invokevirtual 396, 3) := by decide +kernel
theorem d7_previous_98 : decode b7_previous 98 = .ok (.ireturn, 1) := by decide +kernel
theorem d7_previous_60 : decode b7_previous 60 = .ok (.aload_n 0, 1) := by decide +kernel
theorem d7_previous_61 : decode b7_previous 61 = .ok (.bipush 7, 2) := by decide +kernel
theorem d7_previous_63 : decode b7_previous 63 = .ok (.invokevirtual 393, 3) := by decide +kernel
theorem d7_previous_66 : decode b7_previous 66 = .ok (.ireturn, 1) := by decide +kernel
theorem d7_previous_18 : decode b7_previous 18 = .ok (.aload_n 0, 1) := by decide +kernel
theorem d7_previous_19 : decode b7_previous 19 = .ok (.iconst 1, 1) := by decide +kernel
theorem d7_previous_20 : decode b7_previous 20 = .ok (.invokevirtual 393, 3) := by decide +kernel
theorem d7_previous_23 : decode b7_previous 23 = .ok (.ireturn, 1) := by decide +kernel
theorem d7_go_0 : decode b7_go 0 = .ok (.aload_n 0, 1) := by decide +kernel
theorem d7_go_1 : decode b7_go 1 = .ok (.iconst 0, 1) := by decide +kernel
theorem d7_go_2 : decode b7_go 2 = .ok (.putfield 79, 3) := by decide +kernel
theorem d7_go_5 : decode b7_go 5 = .ok (.aload_n 0, 1) := by decide +kernel
theorem d7_go_6 : decode b7_go 6 = .ok (.iload_n 1, 1) := by decide +kernel
theorem d7_go_7 : decode b7_go 7 = .ok (.invokestatic 333, 3) := by decide +kernel
theorem d7_go_10 : decode b7_go 10 = .ok (.ifCond .ne 7, 3) := by decide +kernel
theorem d7_go_17 : decode b7_go 17 = .ok (.iconst 0, 1) := by decide +kernel
theorem d7_go_13 : decode b7_go 13 = .ok (.iconst 1, 1) := by decide +kernel
theorem d7_go_14 : decode b7_go 14 = .ok (.goto 4, 3) := by decide +kernel
theorem d7_go_18 : decode b7_go 18 = .ok (.iconst 1, 1) := by decide +kernel
theorem d7_go_19 : decode b7_go 19 = .ok (.invokevirtual 89, 3) := by decide +kernel
theorem d7_go_22 : decode b7_go 22 = .ok (.ifCond .eq 5, 3) := by decide +kernel
theorem d7_go_27 : decode b7_go 27 = .ok (.aload_n 0, 1) := by decide +kernel
theorem d7_go_28 : decode b7_go 28 = .ok (.invokevirtual 399, 3) := by decide +kernel
theorem d7_go_31 : decode b7_go 31 = .ok (.aload_n 0, 1) := by decide +kernel
theorem d7_go_32 : decode b7_go 32 = .ok (.getfield 7, 3) := by decide +kernel
theorem d7_go_35 : decode b7_go 35 = .ok (.iconst 0, 1) := by decide +kernel
theorem d7_go_36 : decode b7_go 36 = .ok (.iaload, 1) := by decide +kernel
theorem d7_go_37 : decode b7_go 37 = .ok (.ifCond .ne 9, 3) := by decide +kernel
theorem d7_go_46 : decode b7_go 46 = .ok (.aload_n 0, 1) := by decide +kernel
theorem d7_go_47 : decode b7_go 47 = .ok (.aload_n 0, 1) := by decide +kernel
theorem d7_go_48 : decode b7_go 48 = .ok (.getfield 7, 3) := by decide +kernel
theorem d7_go_51 : decode b7_go 51 = .ok (.iconst 0, 1) := by decide +kernel
theorem d7_go_52 : decode b7_go 52 = .ok (.iaload, 1) := by decide +kernel
theorem d7_go_53 : decode b7_go 53 = .ok (.iconst 1, 1) := by decide +kernel
theorem d7_go_54 : decode b7_go 54 = .ok (.isub, 1) := by decide +kernel
theorem d7_go_55 : decode b7_go 55 = .ok (.invokevirtual 336, 3) := by decide +kernel
theorem d7_go_58 : decode b7_go 58 = .ok (.aload_n 0, 1) := by decide +kernel
theorem d7_go_59 : decode b7_go 59 = .ok (.getfield 257, 3) := by decide +kernel
theorem d7_go_62 : decode b7_go 62 = .ok (.iload_n 1, 1) := by decide +kernel
theorem d7_go_63 : decode b7_go 63 = .ok (.invokestatic 168, 3) := by decide +kernel
theorem d7_go_66 : decode b7_go 66 = .ok (.ifCond .ne 10, 3) := by decide +kernel
theorem d7_go_76 : decode b7_go 76 = .ok (.aload_n 0, 1) := by decide +kernel
theorem d7_go_77 : decode b7_go 77 = .ok (.getfield 7, 3) := by decide +kernel
theorem d7_go_80 : decode b7_go 80 = .ok (.aload_n 0, 1) := by decide +kernel
theorem d7_go_81 : decode b7_go 81 = .ok (.getfield 251, 3) := by decide +kernel
theorem d7_go_84 : decode b7_go 84 = .ok (.iconst 1, 1) := by decide +kernel
theorem d7_go_85 : decode b7_go 85 = .ok (.iadd, 1) := by decide +kernel
theorem d7_go_86 : decode b7_go 86 = .ok (.iaload, 1) := by decide +kernel
theorem d7_go_87 : decode b7_go 87 = .ok (.istore_n 2, 1) := by decide +kernel
theorem d7_go_88 : decode b7_go 88 = .ok (.aload_n 0, 1) := by decide +kernel
theorem d7_go_89 : decode b7_go 89 = .ok (.getfield 7, 3) := by decide +kernel
theorem d7_go_92 : decode b7_go 92 = .ok (.aload_n 0, 1) := by decide +kernel
theorem d7_go_93 : decode b7_go 93 = .ok (.getfield 251, 3) := by decide +kernel
theorem d7_go_96 : decode b7_go 96 = .ok (.iconst 1, 1) := by decide +kernel
theorem d7_go_97 : decode b7_go 97 = .ok (.iadd, 1) := by decide +kernel
theorem d7_go_98 : decode b7_go 98 = .ok (.iload_n 1, 1) := by decide +kernel
theorem d7_go_99 : decode b7_go 99 = .ok (.iastore, 1) := by decide +kernel
theorem d7_go_100 : decode b7_go 100 = .ok (.aload_n 0, 1) := by decide +kernel
theorem d7_go_101 : decode b7_go 101 = .ok (.iload_n 2, 1) := by decide +kernel
theorem d7_go_102 : decode b7_go 102 = .ok (.invokevirtual 396, 3) := by decide +kernel
theorem d7_go_105 : decode b7_go 105 = .ok (.ireturn, 1) := by decide +kernel
theorem d7_go_69 : decode b7_go 69 = .ok (.aload_n 0, 1) := by decide +kernel
theorem d7_go_70 : decode b7_go 70 = .ok (.bipush 8, 2) := by decide +kernel
theorem d7_go_72 : decode b7_go 72 = .ok (.invokevirtual 393, 3) := by decide +kernel
theorem d7_go_75 : decode b7_go 75 = .ok (.ireturn, 1) := by decide +kernel
theorem d7_go_40 : decode b7_go 40 = .ok (.aload_n 0, 1) := by decide +kernel
theorem d7_go_41 : decode b7_go 41 = .ok (.iconst 1, 1) := by decide +kernel
theorem d7_go_42 : decode b7_go 42 = .ok (.invokevirtual 393, 3) := by decide +kernel
theorem d7_go_45 : decode b7_go 45 = .ok (.ireturn, 1) := by decide +kernel
theorem d7_go_25 : decode b7_go 25 = .ok (.iconst 0, 1) := by decide +kernel
theorem d7_go_26 : decode b7_go 26 = .ok (.ireturn, 1) := by decide +kernel
theorem d7_finish_0 : decode b7_finish 0 = .ok (.aload_n 0, 1) := by decide +kernel
theorem d7_finish_1 : decode b7_finish 1 = .ok (.iconst 0, 1) := by decide +kernel
theorem d7_finish_2 : decode b7_finish 2 = .ok (.putfield 79, 3) := by decide +kernel
theorem d7_finish_5 : decode b7_finish 5 = .ok (.aload_n 0, 1) := by decide +kernel
theorem d7_finish_6 : decode b7_finish 6 = .ok (.invokevirtual 399, 3) := by decide +kernel
theorem d7_finish_9 : decode b7_finish 9 = .ok (.aload_n 0, 1) := by decide +kernel
theorem d7_finish_10 : decode b7_finish 10 = .ok (.getfield 7, 3) := by decide +kernel
theorem d7_finish_13 : decode b7_finish 13 = .ok (.iconst 0, 1) := by decide +kernel
theorem d7_finish_14 : decode b7_finish 14 = .ok (.iaload, 1) := by decide +kernel
theorem d7_finish_15 : decode b7_finish 15 = .ok (.ifCond .ne 9, 3) := by decide +kernel
theorem d7_finish_24 : decode b7_finish 24 = .ok (.aload_n 0, 1) := by decide +kernel
theorem d7_finish_25 : decode b7_finish 25 = .ok (.invokevirtual 402, 3) := by decide +kernel
theorem d7_finish_28 : decode b7_finish 28 = .ok (.istore_n 1, 1) := by decide +kernel
theorem d7_finish_29 : decode b7_finish 29 = .ok (.aload_n 0, 1) := by decide +kernel
theorem d7_finish_30 : decode b7_finish 30 = .ok (.iload_n 1, 1) := by decide +kernel
theorem d7_finish_31 : decode b7_finish 31 = .ok (.aload_n 0, 1) := by decide +kernel
theorem d7_finish_32 : decode b7_finish 32 = .ok (.getfield 7, 3) := by decide +kernel
theorem d7_finish_35 : decode b7_finish 35 = .ok (.iconst 0, 1) := by decide +kernel
theorem d7_finish_36 : decode b7_finish 36 = .ok (.iaload, 1) := by decide +kernel
theorem d7_finish_37 : decode b7_finish 37 = .ok (.invokevirtual 405, 3) := by decide +kernel
theorem d7_finish_40 : decode b7_finish 40 = .ok (.ireturn, 1) := by decide +kernel
theorem d7_finish_18 : decode b7_finish 18 = .ok (.aload_n 0, 1) := by decide +kernel
theorem d7_finish_19 : decode b7_finish 19 = .ok (.iconst 1, 1) := by decide +kernel
theorem d7_finish_20 : decode b7_finish 20 = .ok (.invokevirtual 393, 3) := by decide +kernel
theorem d7_finish_23 : decode b7_finish 23 = .ok (.ireturn, 1) := by decide +kernel
theorem d7_drop_0 : decode b7_drop 0 = .ok (.aload_n 0, 1) := by decide +kernel
theorem d7_drop_1 : decode b7_drop 1 = .ok (.iconst 0, 1) := by decide +kernel
theorem d7_drop_2 : decode b7_drop 2 = .ok (.putfield 79, 3) := by decide +kernel
theorem d7_drop_5 : decode b7_drop 5 = .ok (.aload_n 0, 1) := by decide +kernel
theorem d7_drop_6 : decode b7_drop 6 = .ok (.invokevirtual 399, 3) := by decide +kernel
theorem d7_drop_9 : decode b7_drop 9 = .ok (.aload_n 0, 1) := by decide +kernel
theorem d7_drop_10 : decode b7_drop 10 = .ok (.getfield 7, 3) := by decide +kernel
theorem d7_drop_13 : decode b7_drop 13 = .ok (.iconst 0, 1) := by decide +kernel
theorem d7_drop_14 : decode b7_drop 14 = .ok (.iaload, 1) := by decide +kernel
theorem d7_drop_15 : decode b7_drop 15 = .ok (.ifCond .ne 9, 3) := by decide +kernel
theorem d7_drop_24 : decode b7_drop 24 = .ok (.aload_n 0, 1) := by decide +kernel
theorem d7_drop_25 : decode b7_drop 25 = .ok (.getfield 7, 3) := by decide +kernel
theorem d7_drop_28 : decode b7_drop 28 = .ok (.iconst 0, 1) := by decide +kernel
theorem d7_drop_29 : decode b7_drop 29 = .ok (.dup2, 1) := by decide +kernel
theorem d7_drop_30 : decode b7_drop 30 = .ok (.iaload, 1) := by decide +kernel
theorem d7_drop_31 : decode b7_drop 31 = .ok (.iconst 1, 1) := by decide +kernel
theorem d7_drop_32 : decode b7_drop 32 = .ok (.isub, 1) := by decide +kernel
theorem d7_drop_33 : decode b7_drop 33 = .ok (.iastore, 1) := by decide +kernel
theorem d7_drop_34 : decode b7_drop 34 = .ok (.aload_n 0, 1) := by decide +kernel
theorem d7_drop_35 : decode b7_drop 35 = .ok (.aload_n 0, 1) := by decide +kernel
theorem d7_drop_36 : decode b7_drop 36 = .ok (.getfield 7, 3) := by decide +kernel
theorem d7_drop_39 : decode b7_drop 39 = .ok (.iconst 0, 1) := by decide +kernel
theorem d7_drop_40 : decode b7_drop 40 = .ok (.iaload, 1) := by decide +kernel
theorem d7_drop_41 : decode b7_drop 41 = .ok (.invokevirtual 396, 3) := by decide +kernel
theorem d7_drop_44 : decode b7_drop 44 = .ok (.ireturn, 1) := by decide +kernel
theorem d7_drop_18 : decode b7_drop 18 = .ok (.aload_n 0, 1) := by decide +kernel
theorem d7_drop_19 : decode b7_drop 19 = .ok (.iconst 1, 1) := by decide +kernel
theorem d7_drop_20 : decode b7_drop 20 = .ok (.invokevirtual 393, 3) := by decide +kernel
theorem d7_drop_23 : decode b7_drop 23 = .ok (.ireturn, 1) := by decide +kernel
theorem d7_setOrder_0 : decode b7_setOrder 0 = .ok (.aload_n 0, 1) := by decide +kernel
theorem d7_setOrder_1 : decode b7_setOrder 1 = .ok (.iconst 0, 1) := by decide +kernel
theorem d7_setOrder_2 : decode b7_setOrder 2 = .ok (.putfield 79, 3) := by decide +kernel
theorem d7_setOrder_5 : decode b7_setOrder 5 = .ok (.aload_n 0, 1) := by decide +kernel
theorem d7_setOrder_6 : decode b7_setOrder 6 = .ok (.invokevirtual 399, 3) := by decide +kernel
theorem d7_setOrder_9 : decode b7_setOrder 9 = .ok (.aload_n 0, 1) := by decide +kernel
theorem d7_setOrder_10 : decode b7_setOrder 10 = .ok (.getfield 7, 3) := by decide +kernel
theorem d7_setOrder_13 : decode b7_setOrder 13 = .ok (.iconst 1, 1) := by decide +kernel
theorem d7_setOrder_14 : decode b7_setOrder 14 = .ok (.iaload, 1) := by decide +kernel
theorem d7_setOrder_15 : decode b7_setOrder 15 = .ok (.istore_n 2, 1) := by decide +kernel
theorem d7_setOrder_16 : decode b7_setOrder 16 = .ok (.aload_n 0, 1) := by decide +kernel
theorem d7_setOrder_17 : decode b7_setOrder 17 = .ok (.getfield 7, 3) := by decide +kernel
theorem d7_setOrder_20 : decode b7_setOrder 20 = .ok (.iconst 1, 1) := by decide +kernel
theorem d7_setOrder_21 : decode b7_setOrder 21 = .ok (.iload_n 1, 1) := by decide +kernel
theorem d7_setOrder_22 : decode b7_setOrder 22 = .ok (.ifCond .eq 7, 3) := by decide +kernel
theorem d7_setOrder_29 : decode b7_setOrder 29 = .ok (.iconst 0, 1) := by decide +kernel
theorem d7_setOrder_25 : decode b7_setOrder 25 = .ok (.iconst 1, 1) := by decide +kernel
theorem d7_setOrder_26 : decode b7_setOrder 26 = .ok (.goto 4, 3) := by decide +kernel
theorem d7_setOrder_30 : decode b7_setOrder 30 = .ok (.iastore, 1) := by decide +kernel
theorem d7_setOrder_31 : decode b7_setOrder 31 = .ok (.aload_n 0, 1) := by decide +kernel
theorem d7_setOrder_32 : decode b7_setOrder 32 = .ok (.iload_n 2, 1) := by decide +kernel
theorem d7_setOrder_33 : decode b7_setOrder 33 = .ok (.invokevirtual 396, 3) := by decide +kernel
theorem d7_setOrder_36 : decode b7_setOrder 36 = .ok (.ireturn, 1) := by decide +kernel
theorem d7_undo_0 : decode b7_undo 0 = .ok (.aload_n 0, 1) := by decide +kernel
theorem d7_undo_1 : decode b7_undo 1 = .ok (.iconst 0, 1) := by decide +kernel
theorem d7_undo_2 : decode b7_undo 2 = .ok (.putfield 79, 3) := by decide +kernel
theorem d7_undo_5 : decode b7_undo 5 = .ok (.aload_n 0, 1) := by decide +kernel
theorem d7_undo_6 : decode b7_undo 6 = .ok (.aload_n 0, 1) := by decide +kernel
theorem d7_undo_7 : decode b7_undo 7 = .ok (.getfield 246, 3) := by decide +kernel
theorem d7_undo_10 : decode b7_undo 10 = .ok (.ifCond .ne 7, 3) := by decide +kernel
theorem d7_undo_17 : decode b7_undo 17 = .ok (.iconst 0, 1) := by decide +kernel
theorem d7_undo_13 : decode b7_undo 13 = .ok (.iconst 1, 1) := by decide +kernel
theorem d7_undo_14 : decode b7_undo 14 = .ok (.goto 4, 3) := by decide +kernel
theorem d7_undo_18 : decode b7_undo 18 = .ok (.iconst 1, 1) := by decide +kernel
theorem d7_undo_19 : decode b7_undo 19 = .ok (.invokevirtual 89, 3) := by decide +kernel
theorem d7_undo_22 : decode b7_undo 22 = .ok (.ifCond .eq 5, 3) := by decide +kernel
theorem d7_undo_27 : decode b7_undo 27 = .ok (.aload_n 0, 1) := by decide +kernel
theorem d7_undo_28 : decode b7_undo 28 = .ok (.dup, 1) := by decide +kernel
theorem d7_undo_29 : decode b7_undo 29 = .ok (.getfield 246, 3) := by decide +kernel
theorem d7_undo_32 : decode b7_undo 32 = .ok (.iconst 1, 1) := by decide +kernel
theorem d7_undo_33 : decode b7_undo 33 = .ok (.isub, 1) := by decide +kernel
theorem d7_undo_34 : decode b7_undo 34 = .ok (.putfield 246, 3) := by decide +kernel
theorem d7_undo_37 : decode b7_undo 37 = .ok (.aload_n 0, 1) := by decide +kernel
theorem d7_undo_38 : decode b7_undo 38 = .ok (.getfield 16, 3) := by decide +kernel
theorem d7_undo_41 : decode b7_undo 41 = .ok (.sipush 2256, 3) := by decide +kernel
theorem d7_undo_44 : decode b7_undo 44 = .ok (.aload_n 0, 1) := by decide +kernel
theorem d7_undo_45 : decode b7_undo 45 = .ok (.getfield 246, 3) := by decide +kernel
theorem d7_undo_48 : decode b7_undo 48 = .ok (.imul, 1) := by decide +kernel
theorem d7_undo_49 : decode b7_undo 49 = .ok (.aload_n 0, 1) := by decide +kernel
theorem d7_undo_50 : decode b7_undo 50 = .ok (.getfield 7, 3) := by decide +kernel
theorem d7_undo_53 : decode b7_undo 53 = .ok (.iconst 0, 1) := by decide +kernel
theorem d7_undo_54 : decode b7_undo 54 = .ok (.invokestatic 376, 3) := by decide +kernel
theorem d7_undo_57 : decode b7_undo 57 = .ok (.aload_n 0, 1) := by decide +kernel
theorem d7_undo_58 : decode b7_undo 58 = .ok (.getfield 246, 3) := by decide +kernel
theorem d7_undo_61 : decode b7_undo 61 = .ok (.ireturn, 1) := by decide +kernel
theorem d7_undo_25 : decode b7_undo 25 = .ok (.iconst 0, 1) := by decide +kernel
theorem d7_undo_26 : decode b7_undo 26 = .ok (.ireturn, 1) := by decide +kernel
theorem d7_noSlot_0 : decode b7_noSlot 0 = .ok (.aload_n 0, 1) := by decide +kernel
theorem d7_noSlot_1 : decode b7_noSlot 1 = .ok (.iconst 0, 1) := by decide +kernel
theorem d7_noSlot_2 : decode b7_noSlot 2 = .ok (.putfield 79, 3) := by decide +kernel
theorem d7_noSlot_5 : decode b7_noSlot 5 = .ok (.aload_n 0, 1) := by decide +kernel
theorem d7_noSlot_6 : decode b7_noSlot 6 = .ok (.iload_n 1, 1) := by decide +kernel
theorem d7_noSlot_7 : decode b7_noSlot 7 = .ok (.iconst 0, 1) := by decide +kernel
theorem d7_noSlot_8 : decode b7_noSlot 8 = .ok (.iconst 1, 1) := by decide +kernel
theorem d7_noSlot_9 : decode b7_noSlot 9 = .ok (.invokestatic 85, 3) := by decide +kernel
theorem d7_noSlot_12 : decode b7_noSlot 12 = .ok (.ifCond .ne 7, 3) := by decide +kernel
theorem d7_noSlot_19 : decode b7_noSlot 19 = .ok (.iconst 0, 1) := by decide +kernel
theorem d7_noSlot_15 : decode b7_noSlot 15 = .ok (.iconst 1, 1) := by decide +kernel
theorem d7_noSlot_16 : decode b7_noSlot 16 = .ok (.goto 4, 3) := by decide +kernel
theorem d7_noSlot_20 : decode b7_noSlot 20 = .ok (.iconst 1, 1) := by decide +kernel
theorem d7_noSlot_21 : decode b7_noSlot 21 = .ok (.invokevirtual 89, 3) := by decide +kernel
theorem d7_noSlot_24 : decode b7_noSlot 24 = .ok (.ireturn, 1) := by decide +kernel
theorem d7_save_0 : decode b7_save 0 = .ok (.aload_n 0, 1) := by decide +kernel
theorem d7_save_1 : decode b7_save 1 = .ok (.iload_n 1, 1) := by decide +kernel
theorem d7_save_2 : decode b7_save 2 = .ok (.invokevirtual 411, 3) := by decide +kernel
theorem d7_save_5 : decode b7_save 5 = .ok (.ifCond .eq 5, 3) := by decide +kernel
theorem d7_save_10 : decode b7_save 10 = .ok (.aload_n 0, 1) := by decide +kernel
theorem d7_save_11 : decode b7_save 11 = .ok (.getfield 7, 3) := by decide +kernel
theorem d7_save_14 : decode b7_save 14 = .ok (.iconst 0, 1) := by decide +kernel
theorem d7_save_15 : decode b7_save 15 = .ok (.aload_n 0, 1) := by decide +kernel
theorem d7_save_16 : decode b7_save 16 = .ok (.getfield 19, 3) := by decide +kernel
theorem d7_save_19 : decode b7_save 19 = .ok (.sipush 2256, 3) := by decide +kernel
theorem d7_save_22 : decode b7_save 22 = .ok (.iload_n 1, 1) := by decide +kernel
theorem d7_save_23 : decode b7_save 23 = .ok (.imul, 1) := by decide +kernel
theorem d7_save_24 : decode b7_save 24 = .ok (.invokestatic 376, 3) := by decide +kernel
theorem d7_save_27 : decode b7_save 27 = .ok (.aload_n 0, 1) := by decide +kernel
theorem d7_save_28 : decode b7_save 28 = .ok (.getfield 22, 3) := by decide +kernel
theorem d7_save_31 : decode b7_save 31 = .ok (.iload_n 1, 1) := by decide +kernel
theorem d7_save_32 : decode b7_save 32 = .ok (.iconst 1, 1) := by decide +kernel
theorem d7_save_33 : decode b7_save 33 = .ok (.bastore, 1) := by decide +kernel
theorem d7_save_34 : decode b7_save 34 = .ok (.aload_n 0, 1) := by decide +kernel
theorem d7_save_35 : decode b7_save 35 = .ok (.getfield 7, 3) := by decide +kernel
theorem d7_save_38 : decode b7_save 38 = .ok (.iconst 0, 1) := by decide +kernel
theorem d7_save_39 : decode b7_save 39 = .ok (.iaload, 1) := by decide +kernel
theorem d7_save_40 : decode b7_save 40 = .ok (.ireturn, 1) := by decide +kernel
theorem d7_save_8 : decode b7_save 8 = .ok (.iconst 0, 1) := by decide +kernel
theorem d7_save_9 : decode b7_save 9 = .ok (.ireturn, 1) := by decide +kernel
theorem d7_restore_0 : decode b7_restore 0 = .ok (.aload_n 0, 1) := by decide +kernel
theorem d7_restore_1 : decode b7_restore 1 = .ok (.iload_n 1, 1) := by decide +kernel
theorem d7_restore_2 : decode b7_restore 2 = .ok (.invokevirtual 411, 3) := by decide +kernel
theorem d7_restore_5 : decode b7_restore 5 = .ok (.ifCond .ne 25, 3) := by decide +kernel
theorem d7_restore_30 : decode b7_restore 30 = .ok (.iconst 0, 1) := by decide +kernel
theorem d7_restore_31 : decode b7_restore 31 = .ok (.ireturn, 1) := by decide +kernel
theorem d7_restore_8 : decode b7_restore 8 = .ok (.aload_n 0, 1) := by decide +kernel
theorem d7_restore_9 : decode b7_restore 9 = .ok (.aload_n 0, 1) := by decide +kernel
theorem d7_restore_10 : decode b7_restore 10 = .ok (.getfield 22, 3) := by decide +kernel
theorem d7_restore_13 : decode b7_restore 13 = .ok (.iload_n 1, 1) := by decide +kernel
theorem d7_restore_14 : decode b7_restore 14 = .ok (.baload, 1) := by decide +kernel
theorem d7_restore_15 : decode b7_restore 15 = .ok (.ifCond .ne 7, 3) := by decide +kernel
theorem d7_restore_22 : decode b7_restore 22 = .ok (.iconst 0, 1) := by decide +kernel
theorem d7_restore_18 : decode b7_restore 18 = .ok (.iconst 1, 1) := by decide +kernel
theorem d7_restore_19 : decode b7_restore 19 = .ok (.goto 4, 3) := by decide +kernel
theorem d7_restore_23 : decode b7_restore 23 = .ok (.iconst 2, 1) := by decide +kernel
theorem d7_restore_24 : decode b7_restore 24 = .ok (.invokevirtual 89, 3) := by decide +kernel
theorem d7_restore_27 : decode b7_restore 27 = .ok (.ifCond .eq 5, 3) := by decide +kernel
theorem d7_restore_32 : decode b7_restore 32 = .ok (.aload_n 0, 1) := by decide +kernel
theorem d7_restore_33 : decode b7_restore 33 = .ok (.getfield 19, 3) := by decide +kernel
theorem d7_restore_36 : decode b7_restore 36 = .ok (.sipush 2256, 3) := by decide +kernel
theorem d7_restore_39 : decode b7_restore 39 = .ok (.iload_n 1, 1) := by decide +kernel
theorem d7_restore_40 : decode b7_restore 40 = .ok (.imul, 1) := by decide +kernel
theorem d7_restore_41 : decode b7_restore 41 = .ok (.aload_n 0, 1) := by decide +kernel
theorem d7_restore_42 : decode b7_restore 42 = .ok (.getfield 7, 3) := by decide +kernel
theorem d7_restore_45 : decode b7_restore 45 = .ok (.iconst 0, 1) := by decide +kernel
theorem d7_restore_46 : decode b7_restore 46 = .ok (.invokestatic 376, 3) := by decide +kernel
theorem d7_restore_49 : decode b7_restore 49 = .ok (.aload_n 0, 1) := by decide +kernel
theorem d7_restore_50 : decode b7_restore 50 = .ok (.iconst 0, 1) := by decide +kernel
theorem d7_restore_51 : decode b7_restore 51 = .ok (.putfield 246, 3) := by decide +kernel
theorem d7_restore_54 : decode b7_restore 54 = .ok (.aload_n 0, 1) := by decide +kernel
theorem d7_restore_55 : decode b7_restore 55 = .ok (.getfield 7, 3) := by decide +kernel
theorem d7_restore_58 : decode b7_restore 58 = .ok (.iconst 0, 1) := by decide +kernel
theorem d7_restore_59 : decode b7_restore 59 = .ok (.iaload, 1) := by decide +kernel
theorem d7_restore_60 : decode b7_restore 60 = .ok (.ireturn, 1) := by decide +kernel
