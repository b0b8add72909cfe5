theorem d3_clear_0 : decode b3_clear 0 = .ok (.aload_n 0, 1) := by decide +kernel
theorem d3_clear_1 : decode b3_clear 1 = .ok (.iload_n 1, 1) := by decide +kernel
theorem d3_clear_2 : decode b3_clear 2 = .ok (.putfield 30, 3) := by decide +kernel
theorem d3_clear_5 : decode b3_clear 5 = .ok (.aload_n 0, 1) := by decide +kernel
theorem d3_clear_6 : decode b3_clear 6 = .ok (.iconst 0, 1) := by decide +kernel
theorem d3_clear_7 : decode b3_clear 7 = .ok (.putfield 34, 3) := by decide +kernel
theorem d3_clear_10 : decode b3_clear 10 = .ok (.aload_n 0, 1) := by decide +kernel
theorem d3_clear_11 : decode b3_clear 11 = .ok (.iconst 0, 1) := by decide +kernel
theorem d3_clear_12 : decode b3_clear 12 = .ok (.putfield 38, 3) := by decide +kernel
theorem d3_clear_15 : decode b3_clear 15 = .ok (.return_, 1) := by decide +kernel
theorem d3_copyFrom_0 : decode b3_copyFrom 0 = .ok (.aload_n 0, 1) := by decide +kernel
theorem d3_copyFrom_1 : decode b3_copyFrom 1 = .ok (.aload_n 1, 1) := by decide +kernel
theorem d3_copyFrom_2 : decode b3_copyFrom 2 = .ok (.getfield 30, 3) := by decide +kernel
theorem d3_copyFrom_5 : decode b3_copyFrom 5 = .ok (.putfield 30, 3) := by decide +kernel
theorem d3_copyFrom_8 : decode b3_copyFrom 8 = .ok (.aload_n 0, 1) := by decide +kernel
theorem d3_copyFrom_9 : decode b3_copyFrom 9 = .ok (.aload_n 1, 1) := by decide +kernel
theorem d3_copyFrom_10 : decode b3_copyFrom 10 = .ok (.getfield 34, 3) := by decide +kernel
theorem d3_copyFrom_13 : decode b3_copyFrom 13 = .ok (.putfield 34, 3) := by decide +kernel
theorem d3_copyFrom_16 : decode b3_copyFrom 16 = .ok (.aload_n 0, 1) := by decide +kernel
theorem d3_copyFrom_17 : decode b3_copyFrom 17 = .ok (.aload_n 1, 1) := by decide +kernel
theorem d3_copyFrom_18 : decode b3_copyFrom 18 = .ok (.getfield 38, 3) := by decide +kernel
theorem d3_copyFrom_21 : decode b3_copyFrom 21 = .ok (.putfield 38, 3) := by decide +kernel
theorem d3_copyFrom_24 : decode b3_copyFrom 24 = .ok (.aload_n 1, 1) := by decide +kernel
theorem d3_copyFrom_25 : decode b3_copyFrom 25 = .ok (.getfield 9, 3) := by decide +kernel
theorem d3_copyFrom_28 : decode b3_copyFrom 28 = .ok (.iconst 0, 1) := by decide +kernel
theorem d3_copyFrom_29 : decode b3_copyFrom 29 = .ok (.aload_n 0, 1) := by decide +kernel
theorem d3_copyFrom_30 : decode b3_copyFrom 30 = .ok (.getfield 9, 3) := by decide +kernel
theorem d3_copyFrom_33 : decode b3_copyFrom 33 = .ok (.iconst 0, 1) := by decide +kernel
theorem d3_copyFrom_34 : decode b3_copyFrom 34 = .ok (.aload_n 0, 1) := by decide +kernel
theorem d3_copyFrom_35 : decode b3_copyFrom 35 = .ok (.getfield 34, 3) := by decide +kernel
theorem d3_copyFrom_38 : decode b3_copyFrom 38 = .ok (.invokestatic 41, 3) := by decide +kernel
theorem d3_copyFrom_41 : decode b3_copyFrom 41 = .ok (.aload_n 1, 1) := by decide +kernel
theorem d3_copyFrom_42 : decode b3_copyFrom 42 = .ok (.getfield 15, 3) := by decide +kernel
theorem d3_copyFrom_45 : decode b3_copyFrom 45 = .ok (.iconst 0, 1) := by decide +kernel
theorem d3_copyFrom_46 : decode b3_copyFrom 46 = .ok (.aload_n 0, 1) := by decide +kernel
theorem d3_copyFrom_47 : decode b3_copyFrom 47 = .ok (.getfield 15, 3) := by decide +kernel
theorem d3_copyFrom_50 : decode b3_copyFrom 50 = .ok (.iconst 0, 1) := by decide +kernel
theorem d3_copyFrom_51 : decode b3_copyFrom 51 = .ok (.aload_n 0, 1) := by decide +kernel
theorem d3_copyFrom_52 : decode b3_copyFrom 52 = .ok (.getfield 34, 3) := by decide +kernel
theorem d3_copyFrom_55 : decode b3_copyFrom 55 = .ok (.invokestatic 41, 3) := by decide +kernel
theorem d3_copyFrom_58 : decode b3_copyFrom 58 = .ok (.aload_n 1, 1) := by decide +kernel
theorem d3_copyFrom_59 : decode b3_copyFrom 59 = .ok (.getfield 18, 3) := by decide +kernel
theorem d3_copyFrom_62 : decode b3_copyFrom 62 = .ok (.iconst 0, 1) := by decide +kernel
theorem d3_copyFrom_63 : decode b3_copyFrom 63 = .ok (.aload_n 0, 1) := by decide +kernel
theorem d3_copyFrom_64 : decode b3_copyFrom 64 = .ok (.getfield 18, 3) := by decide +kernel
theorem d3_copyFrom_67 : decode b3_copyFrom 67 = .ok (.iconst 0, 1) := by decide +kernel
theorem d3_copyFrom_68 : decode b3_copyFrom 68 = .ok (.aload_n 0, 1) := by decide +kernel
theorem d3_copyFrom_69 : decode b3_copyFrom 69 = .ok (.getfield 34, 3) := by decide +kernel
theorem d3_copyFrom_72 : decode b3_copyFrom 72 = .ok (.invokestatic 41, 3) := by decide +kernel
theorem d3_copyFrom_75 : decode b3_copyFrom 75 = .ok (.aload_n 1, 1) := by decide +kernel
theorem d3_copyFrom_76 : decode b3_copyFrom 76 = .ok (.getfield 21, 3) := by decide +kernel
theorem d3_copyFrom_79 : decode b3_copyFrom 79 = .ok (.iconst 0, 1) := by decide +kernel
theorem d3_copyFrom_80 : decode b3_copyFrom 80 = .ok (.aload_n 0, 1) := by decide +kernel
theorem d3_copyFrom_81 : decode b3_copyFrom 81 = .ok (.getfield 21, 3) := by decide +kernel
theorem d3_copyFrom_84 : decode b3_copyFrom 84 = .ok (.iconst 0, 1) := by decide +kernel
theorem d3_copyFrom_85 : decode b3_copyFrom 85 = .ok (.aload_n 0, 1) := by decide +kernel
theorem d3_copyFrom_86 : decode b3_copyFrom 86 = .ok (.getfield 34, 3) := by decide +kernel
theorem d3_copyFrom_89 : decode b3_copyFrom 89 = .ok (.bipush 10, 2) := by decide +kernel
theorem d3_copyFrom_91 : decode b3_copyFrom 91 = .ok (.imul, 1) := by decide +kernel
theorem d3_copyFrom_92 : decode b3_copyFrom 92 = .ok (.invokestatic 41, 3) := by decide +kernel
theorem d3_copyFrom_95 : decode b3_copyFrom 95 = .ok (.aload_n 1, 1) := by decide +kernel
theorem d3_copyFrom_96 : decode b3_copyFrom 96 = .ok (.getfield 24, 3) := by decide +kernel
theorem d3_copyFrom_99 : decode b3_copyFrom 99 = .ok (.iconst 0, 1) := by decide +kernel
theorem d3_copyFrom_100 : decode b3_copyFrom 100 = .ok (.aload_n 0, 1) := by decide +kernel
theorem d3_copyFrom_101 : decode b3_copyFrom 101 = .ok (.getfield 24, 3) := by decide +kernel
theorem d3_copyFrom_104 : decode b3_copyFrom 104 = .ok (.iconst 0, 1) := by decide +kernel
theorem d3_copyFrom_105 : decode b3_copyFrom 105 = .ok (.aload_n 0, 1) := by decide +kernel
theorem d3_copyFrom_106 : decode b3_copyFrom 106 = .ok (.getfield 34, 3) := by decide +kernel
theorem d3_copyFrom_109 : decode b3_copyFrom 109 = .ok (.bipush 10, 2) := by decide +kernel
theorem d3_copyFrom_111 : decode b3_copyFrom 111 = .ok (.imul, 1) := by decide +kernel
theorem d3_copyFrom_112 : decode b3_copyFrom 112 = .ok (.bipush 40, 2) := by decide +kernel
theorem d3_copyFrom_114 : decode b3_copyFrom 114 = .ok (.imul, 1) := by decide +kernel
theorem d3_copyFrom_115 : decode b3_copyFrom 115 = .ok (.invokestatic 41, 3) := by decide +kernel
theorem d3_copyFrom_118 : decode b3_copyFrom 118 = .ok (.aload_n 1, 1) := by decide +kernel
theorem d3_copyFrom_119 : decode b3_copyFrom 119 = .ok (.getfield 27, 3) := by decide +kernel
theorem d3_copyFrom_122 : decode b3_copyFrom 122 = .ok (.iconst 0, 1) := by decide +kernel
theorem d3_copyFrom_123 : decode b3_copyFrom 123 = .ok (.aload_n 0, 1) := by decide +kernel
theorem d3_copyFrom_124 : decode b3_copyFrom 124 = .ok (.getfield 27, 3) := by decide +kernel
theorem d3_copyFrom_127 : decode b3_copyFrom 127 = .ok (.iconst 0, 1) := by decide +kernel
theorem d3_copyFrom_128 : decode b3_copyFrom 128 = .ok (.aload_n 0, 1) := by decide +kernel
theorem d3_copyFrom_129 : decode b3_copyFrom 129 = .ok (.getfield 38, 3) := by decide +kernel
theorem d3_copyFrom_132 : decode b3_copyFrom 132 = .ok (.invokestatic 41, 3) := by decide +kernel
theorem d3_copyFrom_135 : decode b3_copyFrom 135 = .ok (.return_, 1) := by decide +kernel
theorem d3_push_0 : decode b3_push 0 = .ok (.aload_n 0, 1) := by decide +kernel
theorem d3_push_1 : decode b3_push 1 = .ok (.getfield 34, 3) := by decide +kernel
theorem d3_push_4 : decode b3_push 4 = .ok (.iconst 4, 1) := by decide +kernel
theorem d3_push_5 : decode b3_push 5 = .ok (.if_icmp .lt 4, 3) := by decide +kernel
theorem d3_push_9 : decode b3_push 9 = .ok (.aload_n 0, 1) := by decide +kernel
theorem d3_push_10 : decode b3_push 10 = .ok (.getfield 9, 3) := by decide +kernel
theorem d3_push_13 : decode b3_push 13 = .ok (.aload_n 0, 1) := by decide +kernel
theorem d3_push_14 : decode b3_push 14 = .ok (.getfield 34, 3) := by decide +kernel
theorem d3_push_17 : decode b3_push 17 = .ok (.iload_n 1, 1) := by decide +kernel
theorem d3_push_18 : decode b3_push 18 = .ok (.iastore, 1) := by decide +kernel
theorem d3_push_19 : decode b3_push 19 = .ok (.aload_n 0, 1) := by decide +kernel
theorem d3_push_20 : decode b3_push 20 = .ok (.getfield 15, 3) := by decide +kernel
theorem d3_push_23 : decode b3_push 23 = .ok (.aload_n 0, 1) := by decide +kernel
theorem d3_push_24 : decode b3_push 24 = .ok (.getfield 34, 3) := by decide +kernel
theorem d3_push_27 : decode b3_push 27 = .ok (.iload_n 2, 1) := by decide +kernel
theorem d3_push_28 : decode b3_push 28 = .ok (.iastore, 1) := by decide +kernel
theorem d3_push_29 : decode b3_push 29 = .ok (.aload_n 0, 1) := by decide +kernel
theorem d3_push_30 : decode b3_push 30 = .ok (.getfield 18, 3) := by decide +kernel
theorem d3_push_33 : decode b3_push 33 = .ok (.aload_n 0, 1) := by decide +kernel
theorem d3_push_34 : decode b3_push 34 = .ok (.getfield 34, 3) := by decide +kernel
theorem d3_push_37 : decode b3_push 37 = .ok (.iconst 0, 1) := by decide +kernel
theorem d3_push_38 : decode b3_push 38 = .ok (.iastore, 1) := by decide +kernel
theorem d3_push_39 : decode b3_push 39 = .ok (.iconst 0, 1) := by decide +kernel
theorem d3_push_40 : decode b3_push 40 = .ok (.istore_n 3, 1) := by decide +kernel
theorem d3_push_8 : decode b3_push 8 = .ok (.return_, 1) := by decide +kernel
theorem d3_push_41 : decode b3_push 41 = .ok (.iload_n 3, 1) := by decide +kernel
theorem d3_push_42 : decode b3_push 42 = .ok (.bipush 10, 2) := by decide +kernel
theorem d3_push_44 : decode b3_push 44 = .ok (.if_icmp .ge 24, 3) := by decide +kernel
theorem d3_push_68 : decode b3_push 68 = .ok (.aload_n 0, 1) := by decide +kernel
theorem d3_push_69 : decode b3_push 69 = .ok (.dup, 1) := by decide +kernel
theorem d3_push_70 : decode b3_push 70 = .ok (.getfield 34, 3) := by decide +kernel
theorem d3_push_73 : decode b3_push 73 = .ok (.iconst 1, 1) := by decide +kernel
theorem d3_push_74 : decode b3_push 74 = .ok (.iadd, 1) := by decide +kernel
theorem d3_push_75 : decode b3_push 75 = .ok (.putfield 34, 3) := by decide +kernel
theorem d3_push_78 : decode b3_push 78 = .ok (.return_, 1) := by decide +kernel
theorem d3_push_47 : decode b3_push 47 = .ok (.aload_n 0, 1) := by decide +kernel
theorem d3_push_48 : decode b3_push 48 = .ok (.getfield 21, 3) := by decide +kernel
theorem d3_push_51 : decode b3_push 51 = .ok (.aload_n 0, 1) := by decide +kernel
theorem d3_push_52 : decode b3_push 52 = .ok (.getfield 34, 3) := by decide +kernel
theorem d3_push_55 : decode b3_push 55 = .ok (.bipush 10, 2) := by decide +kernel
theorem d3_push_57 : decode b3_push 57 = .ok (.imul, 1) := by decide +kernel
theorem d3_push_58 : decode b3_push 58 = .ok (.iload_n 3, 1) := by decide +kernel
theorem d3_push_59 : decode b3_push 59 = .ok (.iadd, 1) := by decide +kernel
theorem d3_push_60 : decode b3_push 60 = .ok (.iconst 0, 1) := by decide +kernel
theorem d3_push_61 : decode b3_push 61 = .ok (.iastore, 1) := by decide +kernel
theorem d3_push_62 : decode b3_push 62 = .ok (.iinc 3 1, 3) := by decide +kernel
theorem d3_push_65 : decode b3_push 65 = .ok (.goto (-24), 3) := by decide +kernel
theorem d3_isTyped_0 : decode b3_isTyped 0 = .ok (.aload_n 0, 1) := by decide +kernel
theorem d3_isTyped_1 : decode b3_isTyped 1 = .ok (.getfield 18, 3) := by decide +kernel
theorem d3_isTyped_4 : decode b3_isTyped 4 = .ok (.iload_n 1, 1) := by decide +kernel
theorem d3_isTyped_5 : decode b3_isTyped 5 = .ok (.iaload, 1) := by decide +kernel
theorem d3_isTyped_6 : decode b3_isTyped 6 = .ok (.iload_n 2, 1) := by decide +kernel
theorem d3_isTyped_7 : decode b3_isTyped 7 = .ok (.ishr, 1) := by decide +kernel
theorem d3_isTyped_8 : decode b3_isTyped 8 = .ok (.iconst 1, 1) := by decide +kernel
theorem d3_isTyped_9 : decode b3_isTyped 9 = .ok (.iand, 1) := by decide +kernel
theorem d3_isTyped_10 : decode b3_isTyped 10 = .ok (.ifCond .eq 7, 3) := by decide +kernel
theorem d3_isTyped_17 : decode b3_isTyped 17 = .ok (.iconst 0, 1) := by decide +kernel
theorem d3_isTyped_18 : decode b3_isTyped 18 = .ok (.ireturn, 1) := by decide +kernel
theorem d3_isTyped_13 : decode b3_isTyped 13 = .ok (.iconst 1, 1) := by decide +kernel
theorem d3_isTyped_14 : decode b3_isTyped 14 = .ok (.goto 4, 3) := by decide +kernel
theorem d3_typedLength_0 : decode b3_typedLength 0 = .ok (.aload_n 0, 1) := by decide +kernel
theorem d3_typedLength_1 : decode b3_typedLength 1 = .ok (.getfield 21, 3) := by decide +kernel
theorem d3_typedLength_4 : decode b3_typedLength 4 = .ok (.iload_n 1, 1) := by decide +kernel
theorem d3_typedLength_5 : decode b3_typedLength 5 = .ok (.bipush 10, 2) := by decide +kernel
theorem d3_typedLength_7 : decode b3_typedLength 7 = .ok (.imul, 1) := by decide +kernel
theorem d3_typedLength_8 : decode b3_typedLength 8 = .ok (.iload_n 2, 1) := by decide +kernel
theorem d3_typedLength_9 : decode b3_typedLength 9 = .ok (.iadd, 1) := by decide +kernel
theorem d3_typedLength_10 : decode b3_typedLength 10 = .ok (.iaload, 1) := by decide +kernel
theorem d3_typedLength_11 : decode b3_typedLength 11 = .ok (.ireturn, 1) := by decide +kernel
theorem d3_makeNotTyped_0 : decode b3_makeNotTyped 0 = .ok (.aload_n 0, 1) := by decide +kernel
theorem d3_makeNotTyped_1 : decode b3_makeNotTyped 1 = .ok (.getfield 18, 3) := by decide +kernel
theorem d3_makeNotTyped_4 : decode b3_makeNotTyped 4 = .ok (.iload_n 1, 1) := by decide +kernel
theorem d3_makeNotTyped_5 : decode b3_makeNotTyped 5 = .ok (.dup2, 1) := by decide +kernel
theorem d3_makeNotTyped_6 : decode b3_makeNotTyped 6 = .ok (.iaload, 1) := by decide +kernel
theorem d3_makeNotTyped_7 : decode b3_makeNotTyped 7 = .ok (.iconst 1, 1) := by decide +kernel
theorem d3_makeNotTyped_8 : decode b3_makeNotTyped 8 = .ok (.iload_n 2, 1) := by decide +kernel
theorem d3_makeNotTyped_9 : decode b3_makeNotTyped 9 = .ok (.ishl, 1) := by decide +kernel
theorem d3_makeNotTyped_10 : decode b3_makeNotTyped 10 = .ok (.iconst (-1), 1) := by decide +kernel
theorem d3_makeNotTyped_11 : decode b3_makeNotTyped 11 = .ok (.ixor, 1) := by decide +kernel
theorem d3_makeNotTyped_12 : decode b3_makeNotTyped 12 = .ok (.iand, 1) := by decide +kernel
theorem d3_makeNotTyped_13 : decode b3_makeNotTyped 13 = .ok (.iastore, 1) := by decide +kernel
theorem d3_makeNotTyped_14 : decode b3_makeNotTyped 14 = .ok (.aload_n 0, 1) := by decide +kernel
theorem d3_makeNotTyped_15 : decode b3_makeNotTyped 15 = .ok (.getfield 21, 3) := by decide +kernel
theorem d3_makeNotTyped_18 : decode b3_makeNotTyped 18 = .ok (.iload_n 1, 1) := by decide +kernel
theorem d3_makeNotTyped_19 : decode b3_makeNotTyped 19 = .ok (.bipush 10, 2) := by decide +kernel
theorem d3_makeNotTyped_21 : decode b3_makeNotTyped 21 = .ok (.imul, 1) := by decide +kernel
theorem d3_makeNotTyped_22 : decode b3_makeNotTyped 22 = .ok (.iload_n 2, 1) := by decide +kernel
theorem d3_makeNotTyped_23 : decode b3_makeNotTyped 23 = .ok (.iadd, 1) := by decide +kernel
theorem d3_makeNotTyped_24 : decode b3_makeNotTyped 24 = .ok (.iconst 0, 1) := by decide +kernel
theorem d3_makeNotTyped_25 : decode b3_makeNotTyped 25 = .ok (.iastore, 1) := by decide +kernel
theorem d3_makeNotTyped_26 : decode b3_makeNotTyped 26 = .ok (.return_, 1) := by decide +kernel
theorem d3_typeBehind_0 : decode b3_typeBehind 0 = .ok (.iload_n 1, 1) := by decide +kernel
theorem d3_typeBehind_1 : decode b3_typeBehind 1 = .ok (.bipush 10, 2) := by decide +kernel
theorem d3_typeBehind_3 : decode b3_typeBehind 3 = .ok (.imul, 1) := by decide +kernel
theorem d3_typeBehind_4 : decode b3_typeBehind 4 = .ok (.iload_n 2, 1) := by decide +kernel
theorem d3_typeBehind_5 : decode b3_typeBehind 5 = .ok (.iadd, 1) := by decide +kernel
theorem d3_typeBehind_6 : decode b3_typeBehind 6 = .ok (.istore 6, 2) := by decide +kernel
theorem d3_typeBehind_8 : decode b3_typeBehind 8 = .ok (.aload_n 0, 1) := by decide +kernel
theorem d3_typeBehind_9 : decode b3_typeBehind 9 = .ok (.getfield 21, 3) := by decide +kernel
theorem d3_typeBehind_12 : decode b3_typeBehind 12 = .ok (.iload 6, 2) := by decide +kernel
theorem d3_typeBehind_14 : decode b3_typeBehind 14 = .ok (.iaload, 1) := by decide +kernel
theorem d3_typeBehind_15 : decode b3_typeBehind 15 = .ok (.istore 7, 2) := by decide +kernel
theorem d3_typeBehind_17 : decode b3_typeBehind 17 = .ok (.iload 5, 2) := by decide +kernel
theorem d3_typeBehind_19 : decode b3_typeBehind 19 = .ok (.bipush 40, 2) := by decide +kernel
theorem d3_typeBehind_21 : decode b3_typeBehind 21 = .ok (.iload 7, 2) := by decide +kernel
theorem d3_typeBehind_23 : decode b3_typeBehind 23 = .ok (.isub, 1) := by decide +kernel
theorem d3_typeBehind_24 : decode b3_typeBehind 24 = .ok (.invokestatic 47, 3) := by decide +kernel
theorem d3_typeBehind_27 : decode b3_typeBehind 27 = .ok (.istore 8, 2) := by decide +kernel
theorem d3_typeBehind_29 : decode b3_typeBehind 29 = .ok (.aload_n 3, 1) := by decide +kernel
theorem d3_typeBehind_30 : decode b3_typeBehind 30 = .ok (.iload 4, 2) := by decide +kernel
theorem d3_typeBehind_32 : decode b3_typeBehind 32 = .ok (.aload_n 0, 1) := by decide +kernel
theorem d3_typeBehind_33 : decode b3_typeBehind 33 = .ok (.getfield 24, 3) := by decide +kernel
theorem d3_typeBehind_36 : decode b3_typeBehind 36 = .ok (.iload 6, 2) := by decide +kernel
theorem d3_typeBehind_38 : decode b3_typeBehind 38 = .ok (.bipush 40, 2) := by decide +kernel
theorem d3_typeBehind_40 : decode b3_typeBehind 40 = .ok (.imul, 1) := by decide +kernel
theorem d3_typeBehind_41 : decode b3_typeBehind 41 = .ok (.iload 7, 2) := by decide +kernel
theorem d3_typeBehind_43 : decode b3_typeBehind 43 = .ok (.iadd, 1) := by decide +kernel
theorem d3_typeBehind_44 : decode b3_typeBehind 44 = .ok (.iload 8, 2) := by decide +kernel
theorem d3_typeBehind_46 : decode b3_typeBehind 46 = .ok (.invokestatic 41, 3) := by decide +kernel
theorem d3_typeBehind_49 : decode b3_typeBehind 49 = .ok (.aload_n 0, 1) := by decide +kernel
theorem d3_typeBehind_50 : decode b3_typeBehind 50 = .ok (.getfield 21, 3) := by decide +kernel
theorem d3_typeBehind_53 : decode b3_typeBehind 53 = .ok (.iload 6, 2) := by decide +kernel
theorem d3_typeBehind_55 : decode b3_typeBehind 55 = .ok (.iload 7, 2) := by decide +kernel
theorem d3_typeBehind_57 : decode b3_typeBehind 57 = .ok (.iload 8, 2) := by decide +kernel
theorem d3_typeBehind_59 : decode b3_typeBehind 59 = .ok (.iadd, 1) := by decide +kernel
theorem d3_typeBehind_60 : decode b3_typeBehind 60 = .ok (.iastore, 1) := by decide +kernel
theorem d3_typeBehind_61 : decode b3_typeBehind 61 = .ok (.aload_n 0, 1) := by decide +kernel
theorem d3_typeBehind_62 : decode b3_typeBehind 62 = .ok (.getfield 18, 3) := by decide +kernel
theorem d3_typeBehind_65 : decode b3_typeBehind 65 = .ok (.iload_n 1, 1) := by decide +kernel
theorem d3_typeBehind_66 : decode b3_typeBehind 66 = .ok (.dup2, 1) := by decide +kernel
theorem d3_typeBehind_67 : decode b3_typeBehind 67 = .ok (.iaload, 1) := by decide +kernel
theorem d3_typeBehind_68 : decode b3_typeBehind 68 = .ok (.iconst 1, 1) := by decide +kernel
theorem d3_typeBehind_69 : decode b3_typeBehind 69 = .ok (.iload_n 2, 1) := by decide +kernel
theorem d3_typeBehind_70 : decode b3_typeBehind 70 = .ok (.ishl, 1) := by decide +kernel
theorem d3_typeBehind_71 : decode b3_typeBehind 71 = .ok (.ior, 1) := by decide +kernel
theorem d3_typeBehind_72 : decode b3_typeBehind 72 = .ok (.iastore, 1) := by decide +kernel
theorem d3_typeBehind_73 : decode b3_typeBehind 73 = .ok (.return_, 1) := by decide +kernel
theorem d3_appendToDocument_0 : decode b3_appendToDocument 0 = .ok (.iload_n 2, 1) := by decide +kernel
theorem d3_appendToDocument_1 : decode b3_appendToDocument 1 = .ok (.sipush 600, 3) := by decide +kernel
theorem d3_appendToDocument_4 : decode b3_appendToDocument 4 = .ok (.aload_n 0, 1) := by decide +kernel
theorem d3_appendToDocument_5 : decode b3_appendToDocument 5 = .ok (.getfield 38, 3) := by decide +kernel
theorem d3_appendToDocument_8 : decode b3_appendToDocument 8 = .ok (.isub, 1) := by decide +kernel
theorem d3_appendToDocument_9 : decode b3_appendToDocument 9 = .ok (.invokestatic 47, 3) := by decide +kernel
theorem d3_appendToDocument_12 : decode b3_appendToDocument 12 = .ok (.istore_n 3, 1) := by decide +kernel
theorem d3_appendToDocument_13 : decode b3_appendToDocument 13 = .ok (.aload_n 1, 1) := by decide +kernel
theorem d3_appendToDocument_14 : decode b3_appendToDocument 14 = .ok (.iconst 0, 1) := by decide +kernel
theorem d3_appendToDocument_15 : decode b3_appendToDocument 15 = .ok (.aload_n 0, 1) := by decide +kernel
theorem d3_appendToDocument_16 : decode b3_appendToDocument 16 = .ok (.getfield 27, 3) := by decide +kernel
theorem d3_appendToDocument_19 : decode b3_appendToDocument 19 = .ok (.aload_n 0, 1) := by decide +kernel
theorem d3_appendToDocument_20 : decode b3_appendToDocument 20 = .ok (.getfield 38, 3) := by decide +kernel
theorem d3_appendToDocument_23 : decode b3_appendToDocument 23 = .ok (.iload_n 3, 1) := by decide +kernel
theorem d3_appendToDocument_24 : decode b3_appendToDocument 24 = .ok (.invokestatic 41, 3) := by decide +kernel
theorem d3_appendToDocument_27 : decode b3_appendToDocument 27 = .ok (.aload_n 0, 1) := by decide +kernel
theorem d3_appendToDocument_28 : decode b3_appendToDocument 28 = .ok (.dup, 1) := by decide +kernel
theorem d3_appendToDocument_29 : decode b3_appendToDocument 29 = .ok (.getfield 38, 3) := by decide +kernel
theorem d3_appendToDocument_32 : decode b3_appendToDocument 32 = .ok (.iload_n 3, 1) := by decide +kernel
theorem d3_appendToDocument_33 : decode b3_appendToDocument 33 = .ok (.iadd, 1) := by decide +kernel
theorem d3_appendToDocument_34 : decode b3_appendToDocument 34 = .ok (.putfield 38, 3) := by decide +kernel
theorem d3_appendToDocument_37 : decode b3_appendToDocument 37 = .ok (.return_, 1) := by decide +kernel
