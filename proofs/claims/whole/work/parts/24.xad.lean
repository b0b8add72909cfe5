theorem d5_countBytes_0 : decode b5_countBytes 0 = .ok (.iconst 0, 1) := by decide +kernel
theorem d5_countBytes_1 : decode b5_countBytes 1 = .ok (.istore_n 1, 1) := by decide +kernel
theorem d5_countBytes_2 : decode b5_countBytes 2 = .ok (.bipush 24, 2) := by decide +kernel
theorem d5_countBytes_4 : decode b5_countBytes 4 = .ok (.istore_n 2, 1) := by decide +kernel
theorem d5_countBytes_5 : decode b5_countBytes 5 = .ok (.iload_n 2, 1) := by decide +kernel
theorem d5_countBytes_6 : decode b5_countBytes 6 = .ok (.ifCond .lt 22, 3) := by decide +kernel
theorem d5_countBytes_28 : decode b5_countBytes 28 = .ok (.iload_n 1, 1) := by decide +kernel
theorem d5_countBytes_29 : decode b5_countBytes 29 = .ok (.ireturn, 1) := by decide +kernel
theorem d5_countBytes_9 : decode b5_countBytes 9 = .ok (.iload_n 0, 1) := by decide +kernel
theorem d5_countBytes_10 : decode b5_countBytes 10 = .ok (.iload_n 2, 1) := by decide +kernel
theorem d5_countBytes_11 : decode b5_countBytes 11 = .ok (.iushr, 1) := by decide +kernel
theorem d5_countBytes_12 : decode b5_countBytes 12 = .ok (.sipush 255, 3) := by decide +kernel
theorem d5_countBytes_15 : decode b5_countBytes 15 = .ok (.iand, 1) := by decide +kernel
theorem d5_countBytes_16 : decode b5_countBytes 16 = .ok (.ifCond .eq 6, 3) := by decide +kernel
theorem d5_countBytes_22 : decode b5_countBytes 22 = .ok (.iinc 2 (-8), 3) := by decide +kernel
theorem d5_countBytes_25 : decode b5_countBytes 25 = .ok (.goto (-20), 3) := by decide +kernel
theorem d5_countBytes_19 : decode b5_countBytes 19 = .ok (.iinc 1 1, 3) := by decide +kernel
theorem d5_bufferBytes_0 : decode b5_bufferBytes 0 = .ok (.bipush 24, 2) := by decide +kernel
theorem d5_bufferBytes_2 : decode b5_bufferBytes 2 = .ok (.istore_n 2, 1) := by decide +kernel
theorem d5_bufferBytes_3 : decode b5_bufferBytes 3 = .ok (.iload_n 2, 1) := by decide +kernel
theorem d5_bufferBytes_4 : decode b5_bufferBytes 4 = .ok (.ifCond .lt 51, 3) := by decide +kernel
theorem d5_bufferBytes_55 : decode b5_bufferBytes 55 = .ok (.return_, 1) := by decide +kernel
theorem d5_bufferBytes_7 : decode b5_bufferBytes 7 = .ok (.iload_n 1, 1) := by decide +kernel
theorem d5_bufferBytes_8 : decode b5_bufferBytes 8 = .ok (.iload_n 2, 1) := by decide +kernel
theorem d5_bufferBytes_9 : decode b5_bufferBytes 9 = .ok (.iushr, 1) := by decide +kernel
theorem d5_bufferBytes_10 : decode b5_bufferBytes 10 = .ok (.sipush 255, 3) := by decide +kernel
theorem d5_bufferBytes_13 : decode b5_bufferBytes 13 = .ok (.iand, 1) := by decide +kernel
theorem d5_bufferBytes_14 : decode b5_bufferBytes 14 = .ok (.istore_n 3, 1) := by decide +kernel
theorem d5_bufferBytes_15 : decode b5_bufferBytes 15 = .ok (.iload_n 3, 1) := by decide +kernel
theorem d5_bufferBytes_16 : decode b5_bufferBytes 16 = .ok (.ifCond .eq 33, 3) := by decide +kernel
theorem d5_bufferBytes_49 : decode b5_bufferBytes 49 = .ok (.iinc 2 (-8), 3) := by decide +kernel
theorem d5_bufferBytes_52 : decode b5_bufferBytes 52 = .ok (.goto (-49), 3) := by decide +kernel
theorem d5_bufferBytes_19 : decode b5_bufferBytes 19 = .ok (.aload_n 0, 1) := by decide +kernel
theorem d5_bufferBytes_20 : decode b5_bufferBytes 20 = .ok (.getfield 63, 3) := by decide +kernel
theorem d5_bufferBytes_23 : decode b5_bufferBytes 23 = .ok (.sipush 700, 3) := by decide +kernel
theorem d5_bufferBytes_26 : decode b5_bufferBytes 26 = .ok (.if_icmp .ge 23, 3) := by decide +kernel
theorem d5_bufferBytes_29 : decode b5_bufferBytes 29 = .ok (.aload_n 0, 1) := by decide +kernel
theorem d5_bufferBytes_30 : decode b5_bufferBytes 30 = .ok (.getfield 9, 3) := by decide +kernel
theorem d5_bufferBytes_33 : decode b5_bufferBytes 33 = .ok (.aload_n 0, 1) := by decide +kernel
theorem d5_bufferBytes_34 : decode b5_bufferBytes 34 = .ok (.getfield 63, 3) := by decide +kernel
theorem d5_bufferBytes_37 : decode b5_bufferBytes 37 = .ok (.iload_n 3, 1) := by decide +kernel
theorem d5_bufferBytes_38 : decode b5_bufferBytes 38 = .ok (.iastore, 1) := by decide +kernel
theorem d5_bufferBytes_39 : decode b5_bufferBytes 39 = .ok (.aload_n 0, 1) := by decide +kernel
theorem d5_bufferBytes_40 : decode b5_bufferBytes 40 = .ok (.dup, 1) := by decide +kernel
theorem d5_bufferBytes_41 : decode b5_bufferBytes 41 = .ok (.getfield 63, 3) := by decide +kernel
theorem d5_bufferBytes_44 : decode b5_bufferBytes 44 = .ok (.iconst 1, 1) := by decide +kernel
theorem d5_bufferBytes_45 : decode b5_bufferBytes 45 = .ok (.iadd, 1) := by decide +kernel
theorem d5_bufferBytes_46 : decode b5_bufferBytes 46 = .ok (.putfield 63, 3) := by decide +kernel
theorem d5_append_0 : decode b5_append 0 = .ok (.iload_n 1, 1) := by decide +kernel
theorem d5_append_1 : decode b5_append 1 = .ok (.invokestatic 59, 3) := by decide +kernel
theorem d5_append_4 : decode b5_append 4 = .ok (.iload_n 2, 1) := by decide +kernel
theorem d5_append_5 : decode b5_append 5 = .ok (.invokestatic 59, 3) := by decide +kernel
theorem d5_append_8 : decode b5_append 8 = .ok (.iadd, 1) := by decide +kernel
theorem d5_append_9 : decode b5_append 9 = .ok (.iload_n 3, 1) := by decide +kernel
theorem d5_append_10 : decode b5_append 10 = .ok (.invokestatic 59, 3) := by decide +kernel
theorem d5_append_13 : decode b5_append 13 = .ok (.iadd, 1) := by decide +kernel
theorem d5_append_14 : decode b5_append 14 = .ok (.iload 4, 2) := by decide +kernel
theorem d5_append_16 : decode b5_append 16 = .ok (.invokestatic 59, 3) := by decide +kernel
theorem d5_append_19 : decode b5_append 19 = .ok (.iadd, 1) := by decide +kernel
theorem d5_append_20 : decode b5_append 20 = .ok (.iload 5, 2) := by decide +kernel
theorem d5_append_22 : decode b5_append 22 = .ok (.invokestatic 59, 3) := by decide +kernel
theorem d5_append_25 : decode b5_append 25 = .ok (.iadd, 1) := by decide +kernel
theorem d5_append_26 : decode b5_append 26 = .ok (.istore 6, 2) := by decide +kernel
theorem d5_append_28 : decode b5_append 28 = .ok (.aload_n 0, 1) := by decide +kernel
theorem d5_append_29 : decode b5_append 29 = .ok (.getfield 63, 3) := by decide +kernel
theorem d5_append_32 : decode b5_append 32 = .ok (.iload 6, 2) := by decide +kernel
theorem d5_append_34 : decode b5_append 34 = .ok (.iadd, 1) := by decide +kernel
theorem d5_append_35 : decode b5_append 35 = .ok (.sipush 700, 3) := by decide +kernel
theorem d5_append_38 : decode b5_append 38 = .ok (.if_icmp .le 13, 3) := by decide +kernel
theorem d5_append_51 : decode b5_append 51 = .ok (.aload_n 0, 1) := by decide +kernel
theorem d5_append_52 : decode b5_append 52 = .ok (.iload_n 1, 1) := by decide +kernel
theorem d5_append_53 : decode b5_append 53 = .ok (.invokevirtual 73, 3) := by decide +kernel
theorem d5_append_56 : decode b5_append 56 = .ok (.aload_n 0, 1) := by decide +kernel
theorem d5_append_57 : decode b5_append 57 = .ok (.iload_n 2, 1) := by decide +kernel
theorem d5_append_58 : decode b5_append 58 = .ok (.invokevirtual 73, 3) := by decide +kernel
theorem d5_append_61 : decode b5_append 61 = .ok (.aload_n 0, 1) := by decide +kernel
theorem d5_append_62 : decode b5_append 62 = .ok (.iload_n 3, 1) := by decide +kernel
theorem d5_append_63 : decode b5_append 63 = .ok (.invokevirtual 73, 3) := by decide +kernel
theorem d5_append_66 : decode b5_append 66 = .ok (.aload_n 0, 1) := by decide +kernel
theorem d5_append_67 : decode b5_append 67 = .ok (.iload 4, 2) := by decide +kernel
theorem d5_append_69 : decode b5_append 69 = .ok (.invokevirtual 73, 3) := by decide +kernel
theorem d5_append_72 : decode b5_append 72 = .ok (.aload_n 0, 1) := by decide +kernel
theorem d5_append_73 : decode b5_append 73 = .ok (.iload 5, 2) := by decide +kernel
theorem d5_append_75 : decode b5_append 75 = .ok (.invokevirtual 73, 3) := by decide +kernel
theorem d5_append_78 : decode b5_append 78 = .ok (.aload_n 0, 1) := by decide +kernel
theorem d5_append_79 : decode b5_append 79 = .ok (.getfield 63, 3) := by decide +kernel
theorem d5_append_82 : decode b5_append 82 = .ok (.ireturn, 1) := by decide +kernel
theorem d5_append_41 : decode b5_append 41 = .ok (.new 66, 3) := by decide +kernel
theorem d5_append_44 : decode b5_append 44 = .ok (.dup, 1) := by decide +kernel
theorem d5_append_45 : decode b5_append 45 = .ok (.ldc 68, 2) := by decide +kernel
theorem d5_append_47 : decode b5_append 47 = .ok (.invokespecial 70, 3) := by decide +kernel
theorem d5_append_50 : decode b5_append 50 = .ok (.athrow, 1) := by decide +kernel
theorem d5_load_0 : decode b5_load 0 = .ok (.aload_n 0, 1) := by decide +kernel
theorem d5_load_1 : decode b5_load 1 = .ok (.getfield 39, 3) := by decide +kernel
theorem d5_load_4 : decode b5_load 4 = .ok (.aload_n 0, 1) := by decide +kernel
theorem d5_load_5 : decode b5_load 5 = .ok (.getfield 9, 3) := by decide +kernel
theorem d5_load_8 : decode b5_load 8 = .ok (.aload_n 0, 1) := by decide +kernel
theorem d5_load_9 : decode b5_load 9 = .ok (.getfield 63, 3) := by decide +kernel
theorem d5_load_12 : decode b5_load 12 = .ok (.invokevirtual 77, 3) := by decide +kernel
theorem d5_load_15 : decode b5_load 15 = .ok (.aload_n 0, 1) := by decide +kernel
theorem d5_load_16 : decode b5_load 16 = .ok (.iconst 0, 1) := by decide +kernel
theorem d5_load_17 : decode b5_load 17 = .ok (.putfield 63, 3) := by decide +kernel
theorem d5_load_20 : decode b5_load 20 = .ok (.aload_n 0, 1) := by decide +kernel
theorem d5_load_21 : decode b5_load 21 = .ok (.aload_n 0, 1) := by decide +kernel
theorem d5_load_22 : decode b5_load 22 = .ok (.getfield 39, 3) := by decide +kernel
theorem d5_load_25 : decode b5_load 25 = .ok (.getfield 81, 3) := by decide +kernel
theorem d5_load_28 : decode b5_load 28 = .ok (.putfield 84, 3) := by decide +kernel
theorem d5_load_31 : decode b5_load 31 = .ok (.aload_n 0, 1) := by decide +kernel
theorem d5_load_32 : decode b5_load 32 = .ok (.aload_n 0, 1) := by decide +kernel
theorem d5_load_33 : decode b5_load 33 = .ok (.getfield 39, 3) := by decide +kernel
theorem d5_load_36 : decode b5_load 36 = .ok (.getfield 87, 3) := by decide +kernel
theorem d5_load_39 : decode b5_load 39 = .ok (.putfield 55, 3) := by decide +kernel
theorem d5_load_42 : decode b5_load 42 = .ok (.aload_n 0, 1) := by decide +kernel
theorem d5_load_43 : decode b5_load 43 = .ok (.getfield 84, 3) := by decide +kernel
theorem d5_load_46 : decode b5_load 46 = .ok (.ifCond .eq 5, 3) := by decide +kernel
theorem d5_load_51 : decode b5_load 51 = .ok (.aload_n 0, 1) := by decide +kernel
theorem d5_load_52 : decode b5_load 52 = .ok (.aload_n 0, 1) := by decide +kernel
theorem d5_load_53 : decode b5_load 53 = .ok (.getfield 39, 3) := by decide +kernel
theorem d5_load_56 : decode b5_load 56 = .ok (.aload_n 0, 1) := by decide +kernel
theorem d5_load_57 : decode b5_load 57 = .ok (.getfield 32, 3) := by decide +kernel
theorem d5_load_60 : decode b5_load 60 = .ok (.invokevirtual 90, 3) := by decide +kernel
theorem d5_load_63 : decode b5_load 63 = .ok (.putfield 32, 3) := by decide +kernel
theorem d5_load_66 : decode b5_load 66 = .ok (.aload_n 0, 1) := by decide +kernel
theorem d5_load_67 : decode b5_load 67 = .ok (.getfield 44, 3) := by decide +kernel
theorem d5_load_70 : decode b5_load 70 = .ok (.aload_n 0, 1) := by decide +kernel
theorem d5_load_71 : decode b5_load 71 = .ok (.getfield 32, 3) := by decide +kernel
theorem d5_load_74 : decode b5_load 74 = .ok (.getfield 94, 3) := by decide +kernel
theorem d5_load_77 : decode b5_load 77 = .ok (.invokevirtual 98, 3) := by decide +kernel
theorem d5_load_80 : decode b5_load 80 = .ok (.aload_n 0, 1) := by decide +kernel
theorem d5_load_81 : decode b5_load 81 = .ok (.iconst 0, 1) := by decide +kernel
theorem d5_load_82 : decode b5_load 82 = .ok (.putfield 102, 3) := by decide +kernel
theorem d5_load_85 : decode b5_load 85 = .ok (.iconst 0, 1) := by decide +kernel
theorem d5_load_86 : decode b5_load 86 = .ok (.istore_n 1, 1) := by decide +kernel
theorem d5_load_49 : decode b5_load 49 = .ok (.iconst (-1), 1) := by decide +kernel
theorem d5_load_50 : decode b5_load 50 = .ok (.ireturn, 1) := by decide +kernel
theorem d5_load_87 : decode b5_load 87 = .ok (.iload_n 1, 1) := by decide +kernel
theorem d5_load_88 : decode b5_load 88 = .ok (.iconst 2, 1) := by decide +kernel
theorem d5_load_89 : decode b5_load 89 = .ok (.if_icmp .ge 16, 3) := by decide +kernel
theorem d5_load_105 : decode b5_load 105 = .ok (.aload_n 0, 1) := by decide +kernel
theorem d5_load_106 : decode b5_load 106 = .ok (.getfield 32, 3) := by decide +kernel
theorem d5_load_109 : decode b5_load 109 = .ok (.getfield 105, 3) := by decide +kernel
theorem d5_load_112 : decode b5_load 112 = .ok (.ireturn, 1) := by decide +kernel
theorem d5_load_92 : decode b5_load 92 = .ok (.aload_n 0, 1) := by decide +kernel
theorem d5_load_93 : decode b5_load 93 = .ok (.getfield 25, 3) := by decide +kernel
theorem d5_load_96 : decode b5_load 96 = .ok (.iload_n 1, 1) := by decide +kernel
theorem d5_load_97 : decode b5_load 97 = .ok (.iconst 0, 1) := by decide +kernel
theorem d5_load_98 : decode b5_load 98 = .ok (.bastore, 1) := by decide +kernel
theorem d5_load_99 : decode b5_load 99 = .ok (.iinc 1 1, 3) := by decide +kernel
theorem d5_load_102 : decode b5_load 102 = .ok (.goto (-15), 3) := by decide +kernel
theorem d5_errorCode_0 : decode b5_errorCode 0 = .ok (.aload_n 0, 1) := by decide +kernel
theorem d5_errorCode_1 : decode b5_errorCode 1 = .ok (.getfield 84, 3) := by decide +kernel
theorem d5_errorCode_4 : decode b5_errorCode 4 = .ok (.ireturn, 1) := by decide +kernel
theorem d5_errorPosition_0 : decode b5_errorPosition 0 = .ok (.aload_n 0, 1) := by decide +kernel
theorem d5_errorPosition_1 : decode b5_errorPosition 1 = .ok (.getfield 55, 3) := by decide +kernel
theorem d5_errorPosition_4 : decode b5_errorPosition 4 = .ok (.ireturn, 1) := by decide +kernel
theorem d5_find_0 : decode b5_find 0 = .ok (.aload_n 0, 1) := by decide +kernel
theorem d5_find_1 : decode b5_find 1 = .ok (.getfield 32, 3) := by decide +kernel
theorem d5_find_4 : decode b5_find 4 = .ok (.aload_n 0, 1) := by decide +kernel
theorem d5_find_5 : decode b5_find 5 = .ok (.getfield 9, 3) := by decide +kernel
theorem d5_find_8 : decode b5_find 8 = .ok (.iconst 0, 1) := by decide +kernel
theorem d5_find_9 : decode b5_find 9 = .ok (.aload_n 0, 1) := by decide +kernel
theorem d5_find_10 : decode b5_find 10 = .ok (.getfield 63, 3) := by decide +kernel
theorem d5_find_13 : decode b5_find 13 = .ok (.invokevirtual 108, 3) := by decide +kernel
theorem d5_find_16 : decode b5_find 16 = .ok (.istore_n 1, 1) := by decide +kernel
theorem d5_find_17 : decode b5_find 17 = .ok (.aload_n 0, 1) := by decide +kernel
theorem d5_find_18 : decode b5_find 18 = .ok (.iconst 0, 1) := by decide +kernel
theorem d5_find_19 : decode b5_find 19 = .ok (.putfield 63, 3) := by decide +kernel
theorem d5_find_22 : decode b5_find 22 = .ok (.iload_n 1, 1) := by decide +kernel
theorem d5_find_23 : decode b5_find 23 = .ok (.ireturn, 1) := by decide +kernel
theorem d5_size_0 : decode b5_size 0 = .ok (.iload_n 1, 1) := by decide +kernel
theorem d5_size_1 : decode b5_size 1 = .ok (.tableswitch 89 0 5 #[39, 47, 55, 63, 79, 84], 39) := by decide +kernel
theorem d5_size_40 : decode b5_size 40 = .ok (.aload_n 0, 1) := by decide +kernel
theorem d5_size_41 : decode b5_size 41 = .ok (.getfield 32, 3) := by decide +kernel
theorem d5_size_44 : decode b5_size 44 = .ok (.getfield 105, 3) := by decide +kernel
theorem d5_size_47 : decode b5_size 47 = .ok (.ireturn, 1) := by decide +kernel
theorem d5_size_48 : decode b5_size 48 = .ok (.aload_n 0, 1) := by decide +kernel
theorem d5_size_49 : decode b5_size 49 = .ok (.getfield 44, 3) := by decide +kernel
theorem d5_size_52 : decode b5_size 52 = .ok (.getfield 112, 3) := by decide +kernel
theorem d5_size_55 : decode b5_size 55 = .ok (.ireturn, 1) := by decide +kernel
theorem d5_size_56 : decode b5_size 56 = .ok (.aload_n 0, 1) := by decide +kernel
theorem d5_size_57 : decode b5_size 57 = .ok (.getfield 44, 3) := by decide +kernel
theorem d5_size_60 : decode b5_size 60 = .ok (.getfield 115, 3) := by decide +kernel
theorem d5_size_63 : decode b5_size 63 = .ok (.ireturn, 1) := by decide +kernel
theorem d5_size_64 : decode b5_size 64 = .ok (.aload_n 0, 1) := by decide +kernel
theorem d5_size_65 : decode b5_size 65 = .ok (.getfield 44, 3) := by decide +kernel
theorem d5_size_68 : decode b5_size 68 = .ok (.getfield 118, 3) := by decide +kernel
theorem d5_size_71 : decode b5_size 71 = .ok (.ifCond .eq 7, 3) := by decide +kernel
theorem d5_size_78 : decode b5_size 78 = .ok (.iconst 0, 1) := by decide +kernel
theorem d5_size_79 : decode b5_size 79 = .ok (.ireturn, 1) := by decide +kernel
theorem d5_size_74 : decode b5_size 74 = .ok (.iconst 1, 1) := by decide +kernel
theorem d5_size_75 : decode b5_size 75 = .ok (.goto 4, 3) := by decide +kernel
theorem d5_size_80 : decode b5_size 80 = .ok (.aload_n 0, 1) := by decide +kernel
theorem d5_size_81 : decode b5_size 81 = .ok (.getfield 63, 3) := by decide +kernel
theorem d5_size_84 : decode b5_size 84 = .ok (.ireturn, 1) := by decide +kernel
theorem d5_size_85 : decode b5_size 85 = .ok (.aload_n 0, 1) := by decide +kernel
theorem d5_size_86 : decode b5_size 86 = .ok (.getfield 102, 3) := by decide +kernel
theorem d5_size_89 : decode b5_size 89 = .ok (.ireturn, 1) := by decide +kernel
theorem d5_size_90 : decode b5_size 90 = .ok (.new 119, 3) := by decide +kernel
theorem d5_size_93 : decode b5_size 93 = .ok (.dup, 1) := by decide +kernel
theorem d5_size_94 : decode b5_size 94 = .ok (.ldc 121, 2) := by decide +kernel
theorem d5_size_96 : decode b5_size 96 = .ok (.invokespecial 123, 3) := by decide +kernel
theorem d5_size_99 : decode b5_size 99 = .ok (.athrow, 1) := by decide +kernel
theorem d5_requireSnippet_0 : decode b5_requireSnippet 0 = .ok (.iload_n 1, 1) := by decide +kernel
theorem d5_requireSnippet_1 : decode b5_requireSnippet 1 = .ok (.ifCond .lt 14, 3) := by decide +kernel
theorem d5_requireSnippet_4 : decode b5_requireSnippet 4 = .ok (.iload_n 1, 1) := by decide +kernel
theorem d5_requireSnippet_5 : decode b5_requireSnippet 5 = .ok (.aload_n 0, 1) := by decide +kernel
theorem d5_requireSnippet_6 : decode b5_requireSnippet 6 = .ok (.getfield 32, 3) := by decide +kernel
theorem d5_requireSnippet_9 : decode b5_requireSnippet 9 = .ok (.getfield 105, 3) := by decide +kernel
theorem d5_requireSnippet_12 : decode b5_requireSnippet 12 = .ok (.if_icmp .lt 14, 3) := by decide +kernel
theorem d5_requireSnippet_26 : decode b5_requireSnippet 26 = .ok (.aload_n 0, 1) := by decide +kernel
theorem d5_requireSnippet_27 : decode b5_requireSnippet 27 = .ok (.getfield 32, 3) := by decide +kernel
theorem d5_requireSnippet_30 : decode b5_requireSnippet 30 = .ok (.getfield 389, 3) := by decide +kernel
theorem d5_requireSnippet_33 : decode b5_requireSnippet 33 = .ok (.iload_n 1, 1) := by decide +kernel
theorem d5_requireSnippet_34 : decode b5_requireSnippet 34 = .ok (.aaload, 1) := by decide +kernel
theorem d5_requireSnippet_35 : decode b5_requireSnippet 35 = .ok (.areturn, 1) := by decide +kernel
theorem d5_requireSnippet_15 : decode b5_requireSnippet 15 = .ok (.new 158, 3) := by decide +kernel
theorem d5_requireSnippet_18 : decode b5_requireSnippet 18 = .ok (.dup, 1) := by decide +kernel
theorem d5_requireSnippet_19 : decode b5_requireSnippet 19 = .ok (.ldc_w 387, 3) := by decide +kernel
theorem d5_requireSnippet_22 : decode b5_requireSnippet 22 = .ok (.invokespecial 162, 3) := by decide +kernel
theorem d5_requireSnippet_25 : decode b5_requireSnippet 25 = .ok (.athrow, 1) := by decide +kernel
theorem d5_snippet_0 : decode b5_snippet 0 = .ok (.aload_n 0, 1) := by decide +kernel
theorem d5_snippet_1 : decode b5_snippet 1 = .ok (.iload_n 1, 1) := by decide +kernel
theorem d5_snippet_2 : decode b5_snippet 2 = .ok (.invokevirtual 124, 3) := by decide +kernel
theorem d5_snippet_5 : decode b5_snippet 5 = .ok (.astore_n 3, 1) := by decide +kernel
theorem d5_snippet_6 : decode b5_snippet 6 = .ok (.iload_n 2, 1) := by decide +kernel
theorem d5_snippet_7 : decode b5_snippet 7 = .ok (.tableswitch 67 0 5 #[37, 42, 47, 52, 57, 62], 37) := by decide +kernel
theorem d5_snippet_44 : decode b5_snippet 44 = .ok (.aload_n 3, 1) := by decide +kernel
theorem d5_snippet_45 : decode b5_snippet 45 = .ok (.getfield 128, 3) := by decide +kernel
theorem d5_snippet_48 : decode b5_snippet 48 = .ok (.ireturn, 1) := by decide +kernel
theorem d5_snippet_49 : decode b5_snippet 49 = .ok (.aload_n 3, 1) := by decide +kernel
theorem d5_snippet_50 : decode b5_snippet 50 = .ok (.getfield 133, 3) := by decide +kernel
theorem d5_snippet_53 : decode b5_snippet 53 = .ok (.ireturn, 1) := by decide +kernel
theorem d5_snippet_54 : decode b5_snippet 54 = .ok (.aload_n 3, 1) := by decide +kernel
theorem d5_snippet_55 : decode b5_snippet 55 = .ok (.getfield 136, 3) := by decide +kernel
theorem d5_snippet_58 : decode b5_snippet 58 = .ok (.ireturn, 1) := by decide +kernel
theorem d5_snippet_59 : decode b5_snippet 59 = .ok (.aload_n 3, 1) := by decide +kernel
theorem d5_snippet_60 : decode b5_snippet 60 = .ok (.invokevirtual 139, 3) := by decide +kernel
theorem d5_snippet_63 : decode b5_snippet 63 = .ok (.ireturn, 1) := by decide +kernel
theorem d5_snippet_64 : decode b5_snippet 64 = .ok (.aload_n 3, 1) := by decide +kernel
theorem d5_snippet_65 : decode b5_snippet 65 = .ok (.invokevirtual 143, 3) := by decide +kernel
theorem d5_snippet_68 : decode b5_snippet 68 = .ok (.ireturn, 1) := by decide +kernel
theorem d5_snippet_69 : decode b5_snippet 69 = .ok (.aload_n 3, 1) := by decide +kernel
theorem d5_snippet_70 : decode b5_snippet 70 = .ok (.invokevirtual 146, 3) := by decide +kernel
theorem d5_snippet_73 : decode b5_snippet 73 = .ok (.ireturn, 1) := by decide +kernel
theorem d5_snippet_74 : decode b5_snippet 74 = .ok (.new 119, 3) := by decide +kernel
theorem d5_snippet_77 : decode b5_snippet 77 = .ok (.dup, 1) := by decide +kernel
theorem d5_snippet_78 : decode b5_snippet 78 = .ok (.ldc 121, 2) := by decide +kernel
theorem d5_snippet_80 : decode b5_snippet 80 = .ok (.invokespecial 123, 3) := by decide +kernel
theorem d5_snippet_83 : decode b5_snippet 83 = .ok (.athrow, 1) := by decide +kernel
theorem d5_letter_0 : decode b5_letter 0 = .ok (.aload_n 0, 1) := by decide +kernel
theorem d5_letter_1 : decode b5_letter 1 = .ok (.iload_n 1, 1) := by decide +kernel
theorem d5_letter_2 : decode b5_letter 2 = .ok (.invokevirtual 124, 3) := by decide +kernel
theorem d5_letter_5 : decode b5_letter 5 = .ok (.astore_n 3, 1) := by decide +kernel
theorem d5_letter_6 : decode b5_letter 6 = .ok (.iload_n 2, 1) := by decide +kernel
theorem d5_letter_7 : decode b5_letter 7 = .ok (.ifCond .lt 20, 3) := by decide +kernel
theorem d5_letter_27 : decode b5_letter 27 = .ok (.iconst (-1), 1) := by decide +kernel
theorem d5_letter_28 : decode b5_letter 28 = .ok (.ireturn, 1) := by decide +kernel
theorem d5_letter_10 : decode b5_letter 10 = .ok (.iload_n 2, 1) := by decide +kernel
theorem d5_letter_11 : decode b5_letter 11 = .ok (.aload_n 3, 1) := by decide +kernel
theorem d5_letter_12 : decode b5_letter 12 = .ok (.getfield 128, 3) := by decide +kernel
theorem d5_letter_15 : decode b5_letter 15 = .ok (.if_icmp .ge 12, 3) := by decide +kernel
theorem d5_letter_18 : decode b5_letter 18 = .ok (.aload_n 3, 1) := by decide +kernel
theorem d5_letter_19 : decode b5_letter 19 = .ok (.getfield 149, 3) := by decide +kernel
theorem d5_letter_22 : decode b5_letter 22 = .ok (.iload_n 2, 1) := by decide +kernel
theorem d5_letter_23 : decode b5_letter 23 = .ok (.iaload, 1) := by decide +kernel
theorem d5_letter_24 : decode b5_letter 24 = .ok (.goto 4, 3) := by decide +kernel
theorem d5_requireField_0 : decode b5_requireField 0 = .ok (.iload_n 0, 1) := by decide +kernel
theorem d5_requireField_1 : decode b5_requireField 1 = .ok (.ifCond .lt 9, 3) := by decide +kernel
theorem d5_requireField_4 : decode b5_requireField 4 = .ok (.iload_n 0, 1) := by decide +kernel
theorem d5_requireField_5 : decode b5_requireField 5 = .ok (.bipush 10, 2) := by decide +kernel
theorem d5_requireField_7 : decode b5_requireField 7 = .ok (.if_icmp .lt 14, 3) := by decide +kernel
theorem d5_requireField_21 : decode b5_requireField 21 = .ok (.return_, 1) := by decide +kernel
theorem d5_requireField_10 : decode b5_requireField 10 = .ok (.new 158, 3) := by decide +kernel
theorem d5_requireField_13 : decode b5_requireField 13 = .ok (.dup, 1) := by decide +kernel
theorem d5_requireField_14 : decode b5_requireField 14 = .ok (.ldc_w 392, 3) := by decide +kernel
theorem d5_requireField_17 : decode b5_requireField 17 = .ok (.invokespecial 162, 3) := by decide +kernel
theorem d5_requireField_20 : decode b5_requireField 20 = .ok (.athrow, 1) := by decide +kernel
theorem d5_depends_0 : decode b5_depends 0 = .ok (.aload_n 0, 1) := by decide +kernel
theorem d5_depends_1 : decode b5_depends 1 = .ok (.iload_n 1, 1) := by decide +kernel
theorem d5_depends_2 : decode b5_depends 2 = .ok (.invokevirtual 124, 3) := by decide +kernel
theorem d5_depends_5 : decode b5_depends 5 = .ok (.astore_n 3, 1) := by decide +kernel
theorem d5_depends_6 : decode b5_depends 6 = .ok (.iload_n 2, 1) := by decide +kernel
theorem d5_depends_7 : decode b5_depends 7 = .ok (.invokestatic 152, 3) := by decide +kernel
theorem d5_depends_10 : decode b5_depends 10 = .ok (.aload_n 3, 1) := by decide +kernel
theorem d5_depends_11 : decode b5_depends 11 = .ok (.getfield 155, 3) := by decide +kernel
theorem d5_depends_14 : decode b5_depends 14 = .ok (.iload_n 2, 1) := by decide +kernel
theorem d5_depends_15 : decode b5_depends 15 = .ok (.iaload, 1) := by decide +kernel
theorem d5_depends_16 : decode b5_depends 16 = .ok (.ireturn, 1) := by decide +kernel
theorem d5_document_0 : decode b5_document 0 = .ok (.iload_n 1, 1) := by decide +kernel
theorem d5_document_1 : decode b5_document 1 = .ok (.ifCond .lt 14, 3) := by decide +kernel
theorem d5_document_4 : decode b5_document 4 = .ok (.iload_n 1, 1) := by decide +kernel
theorem d5_document_5 : decode b5_document 5 = .ok (.aload_n 0, 1) := by decide +kernel
theorem d5_document_6 : decode b5_document 6 = .ok (.getfield 44, 3) := by decide +kernel
theorem d5_document_9 : decode b5_document 9 = .ok (.getfield 115, 3) := by decide +kernel
theorem d5_document_12 : decode b5_document 12 = .ok (.if_icmp .lt 13, 3) := by decide +kernel
theorem d5_document_25 : decode b5_document 25 = .ok (.aload_n 0, 1) := by decide +kernel
theorem d5_document_26 : decode b5_document 26 = .ok (.getfield 44, 3) := by decide +kernel
theorem d5_document_29 : decode b5_document 29 = .ok (.getfield 163, 3) := by decide +kernel
theorem d5_document_32 : decode b5_document 32 = .ok (.iload_n 1, 1) := by decide +kernel
theorem d5_document_33 : decode b5_document 33 = .ok (.iaload, 1) := by decide +kernel
theorem d5_document_34 : decode b5_document 34 = .ok (.ireturn, 1) := by decide +kernel
theorem d5_document_15 : decode b5_document 15 = .ok (.new 158, 3) := by decide +kernel
theorem d5_document_18 : decode b5_document 18 = .ok (.dup, 1) := by decide +kernel
theorem d5_document_19 : decode b5_document 19 = .ok (.ldc 160, 2) := by decide +kernel
theorem d5_document_21 : decode b5_document 21 = .ok (.invokespecial 162, 3) := by decide +kernel
theorem d5_document_24 : decode b5_document 24 = .ok (.athrow, 1) := by decide +kernel
theorem d5_takeSession_0 : decode b5_takeSession 0 = .ok (.aload_n 0, 1) := by decide +kernel
theorem d5_takeSession_1 : decode b5_takeSession 1 = .ok (.getfield 51, 3) := by decide +kernel
theorem d5_takeSession_4 : decode b5_takeSession 4 = .ok (.aload_n 0, 1) := by decide +kernel
theorem d5_takeSession_5 : decode b5_takeSession 5 = .ok (.getfield 32, 3) := by decide +kernel
theorem d5_takeSession_8 : decode b5_takeSession 8 = .ok (.getfield 389, 3) := by decide +kernel
theorem d5_takeSession_11 : decode b5_takeSession 11 = .ok (.aload_n 0, 1) := by decide +kernel
theorem d5_takeSession_12 : decode b5_takeSession 12 = .ok (.getfield 44, 3) := by decide +kernel
theorem d5_takeSession_15 : decode b5_takeSession 15 = .ok (.getfield 168, 3) := by decide +kernel
theorem d5_takeSession_18 : decode b5_takeSession 18 = .ok (.iload_n 1, 1) := by decide +kernel
theorem d5_takeSession_19 : decode b5_takeSession 19 = .ok (.iaload, 1) := by decide +kernel
theorem d5_takeSession_20 : decode b5_takeSession 20 = .ok (.aaload, 1) := by decide +kernel
theorem d5_takeSession_21 : decode b5_takeSession 21 = .ok (.aload_n 0, 1) := by decide +kernel
theorem d5_takeSession_22 : decode b5_takeSession 22 = .ok (.getfield 44, 3) := by decide +kernel
theorem d5_takeSession_25 : decode b5_takeSession 25 = .ok (.iload_n 1, 1) := by decide +kernel
theorem d5_takeSession_26 : decode b5_takeSession 26 = .ok (.invokevirtual 402, 3) := by decide +kernel
theorem d5_takeSession_29 : decode b5_takeSession 29 = .ok (.return_, 1) := by decide +kernel
theorem d5_measuredText_0 : decode b5_measuredText 0 = .ok (.aload_n 0, 1) := by decide +kernel
theorem d5_measuredText_1 : decode b5_measuredText 1 = .ok (.iload_n 1, 1) := by decide +kernel
theorem d5_measuredText_2 : decode b5_measuredText 2 = .ok (.invokevirtual 367, 3) := by decide +kernel
theorem d5_measuredText_5 : decode b5_measuredText 5 = .ok (.aload_n 0, 1) := by decide +kernel
theorem d5_measuredText_6 : decode b5_measuredText 6 = .ok (.getfield 51, 3) := by decide +kernel
theorem d5_measuredText_9 : decode b5_measuredText 9 = .ok (.invokevirtual 309, 3) := by decide +kernel
theorem d5_measuredText_12 : decode b5_measuredText 12 = .ok (.aload_n 0, 1) := by decide +kernel
theorem d5_measuredText_13 : decode b5_measuredText 13 = .ok (.getfield 51, 3) := by decide +kernel
theorem d5_measuredText_16 : decode b5_measuredText 16 = .ok (.getfield 247, 3) := by decide +kernel
theorem d5_measuredText_19 : decode b5_measuredText 19 = .ok (.lreturn, 1) := by decide +kernel
theorem d5_liveFields_0 : decode b5_liveFields 0 = .ok (.aload_n 0, 1) := by decide +kernel
theorem d5_liveFields_1 : decode b5_liveFields 1 = .ok (.iload_n 1, 1) := by decide +kernel
theorem d5_liveFields_2 : decode b5_liveFields 2 = .ok (.invokevirtual 367, 3) := by decide +kernel
theorem d5_liveFields_5 : decode b5_liveFields 5 = .ok (.aload_n 0, 1) := by decide +kernel
theorem d5_liveFields_6 : decode b5_liveFields 6 = .ok (.getfield 51, 3) := by decide +kernel
theorem d5_liveFields_9 : decode b5_liveFields 9 = .ok (.invokevirtual 309, 3) := by decide +kernel
theorem d5_liveFields_12 : decode b5_liveFields 12 = .ok (.aload_n 0, 1) := by decide +kernel
theorem d5_liveFields_13 : decode b5_liveFields 13 = .ok (.getfield 51, 3) := by decide +kernel
theorem d5_liveFields_16 : decode b5_liveFields 16 = .ok (.getfield 275, 3) := by decide +kernel
theorem d5_liveFields_19 : decode b5_liveFields 19 = .ok (.ireturn, 1) := by decide +kernel
theorem d5_session_0 : decode b5_session 0 = .ok (.iload_n 1, 1) := by decide +kernel
theorem d5_session_1 : decode b5_session 1 = .ok (.ifCond .lt 14, 3) := by decide +kernel
theorem d5_session_4 : decode b5_session 4 = .ok (.iload_n 1, 1) := by decide +kernel
theorem d5_session_5 : decode b5_session 5 = .ok (.aload_n 0, 1) := by decide +kernel
theorem d5_session_6 : decode b5_session 6 = .ok (.getfield 44, 3) := by decide +kernel
theorem d5_session_9 : decode b5_session 9 = .ok (.getfield 112, 3) := by decide +kernel
theorem d5_session_12 : decode b5_session 12 = .ok (.if_icmp .lt 13, 3) := by decide +kernel
theorem d5_session_25 : decode b5_session 25 = .ok (.iload_n 2, 1) := by decide +kernel
theorem d5_session_26 : decode b5_session 26 = .ok (.tableswitch 77 0 4 #[34, 44, 54, 64, 71], 34) := by decide +kernel
theorem d5_session_60 : decode b5_session 60 = .ok (.aload_n 0, 1) := by decide +kernel
theorem d5_session_61 : decode b5_session 61 = .ok (.getfield 44, 3) := by decide +kernel
theorem d5_session_64 : decode b5_session 64 = .ok (.getfield 168, 3) := by decide +kernel
theorem d5_session_67 : decode b5_session 67 = .ok (.iload_n 1, 1) := by decide +kernel
theorem d5_session_68 : decode b5_session 68 = .ok (.iaload, 1) := by decide +kernel
theorem d5_session_69 : decode b5_session 69 = .ok (.ireturn, 1) := by decide +kernel
theorem d5_session_70 : decode b5_session 70 = .ok (.aload_n 0, 1) := by decide +kernel
theorem d5_session_71 : decode b5_session 71 = .ok (.getfield 44, 3) := by decide +kernel
theorem d5_session_74 : decode b5_session 74 = .ok (.getfield 171, 3) := by decide +kernel
theorem d5_session_77 : decode b5_session 77 = .ok (.iload_n 1, 1) := by decide +kernel
theorem d5_session_78 : decode b5_session 78 = .ok (.iaload, 1) := by decide +kernel
theorem d5_session_79 : decode b5_session 79 = .ok (.ireturn, 1) := by decide +kernel
theorem d5_session_80 : decode b5_session 80 = .ok (.aload_n 0, 1) := by decide +kernel
theorem d5_session_81 : decode b5_session 81 = .ok (.getfield 44, 3) := by decide +kernel
theorem d5_session_84 : decode b5_session 84 = .ok (.getfield 174, 3) := by decide +kernel
theorem d5_session_87 : decode b5_session 87 = .ok (.iload_n 1, 1) := by decide +kernel
theorem d5_session_88 : decode b5_session 88 = .ok (.iaload, 1) := by decide +kernel
theorem d5_session_89 : decode b5_session 89 = .ok (.ireturn, 1) := by decide +kernel
theorem d5_session_90 : decode b5_session 90 = .ok (.aload_n 0, 1) := by decide +kernel
theorem d5_session_91 : decode b5_session 91 = .ok (.iload_n 1, 1) := by decide +kernel
theorem d5_session_92 : decode b5_session 92 = .ok (.invokevirtual 177, 3) := by decide +kernel
theorem d5_session_95 : decode b5_session 95 = .ok (.l2i, 1) := by decide +kernel
theorem d5_session_96 : decode b5_session 96 = .ok (.ireturn, 1) := by decide +kernel
theorem d5_session_97 : decode b5_session 97 = .ok (.aload_n 0, 1) := by decide +kernel
theorem d5_session_98 : decode b5_session 98 = .ok (.iload_n 1, 1) := by decide +kernel
theorem d5_session_99 : decode b5_session 99 = .ok (.invokevirtual 181, 3) := by decide +kernel
theorem d5_session_102 : decode b5_session 102 = .ok (.ireturn, 1) := by decide +kernel
theorem d5_session_103 : decode b5_session 103 = .ok (.new 119, 3) := by decide +kernel
theorem d5_session_106 : decode b5_session 106 = .ok (.dup, 1) := by decide +kernel
theorem d5_session_107 : decode b5_session 107 = .ok (.ldc 121, 2) := by decide +kernel
theorem d5_session_109 : decode b5_session 109 = .ok (.invokespecial 123, 3) := by decide +kernel
theorem d5_session_112 : decode b5_session 112 = .ok (.athrow, 1) := by decide +kernel
theorem d5_session_15 : decode b5_session 15 = .ok (.new 158, 3) := by decide +kernel
theorem d5_session_18 : decode b5_session 18 = .ok (.dup, 1) := by decide +kernel
theorem d5_session_19 : decode b5_session 19 = .ok (.ldc 166, 2) := by decide +kernel
theorem d5_session_21 : decode b5_session 21 = .ok (.invokespecial 162, 3) := by decide +kernel
theorem d5_session_24 : decode b5_session 24 = .ok (.athrow, 1) := by decide +kernel
theorem d5_account_0 : decode b5_account 0 = .ok (.iload_n 1, 1) := by decide +kernel
theorem d5_account_1 : decode b5_account 1 = .ok (.ifCond .lt 9, 3) := by decide +kernel
theorem d5_account_4 : decode b5_account 4 = .ok (.iload_n 1, 1) := by decide +kernel
theorem d5_account_5 : decode b5_account 5 = .ok (.bipush 9, 2) := by decide +kernel
theorem d5_account_7 : decode b5_account 7 = .ok (.if_icmp .le 13, 3) := by decide +kernel
theorem d5_account_20 : decode b5_account 20 = .ok (.aload_n 0, 1) := by decide +kernel
theorem d5_account_21 : decode b5_account 21 = .ok (.getfield 13, 3) := by decide +kernel
theorem d5_account_24 : decode b5_account 24 = .ok (.iload_n 1, 1) := by decide +kernel
theorem d5_account_25 : decode b5_account 25 = .ok (.iaload, 1) := by decide +kernel
theorem d5_account_26 : decode b5_account 26 = .ok (.ireturn, 1) := by decide +kernel
theorem d5_account_10 : decode b5_account 10 = .ok (.new 119, 3) := by decide +kernel
theorem d5_account_13 : decode b5_account 13 = .ok (.dup, 1) := by decide +kernel
theorem d5_account_14 : decode b5_account 14 = .ok (.ldc 121, 2) := by decide +kernel
theorem d5_account_16 : decode b5_account 16 = .ok (.invokespecial 123, 3) := by decide +kernel
theorem d5_account_19 : decode b5_account 19 = .ok (.athrow, 1) := by decide +kernel
theorem d5_requireSession_0 : decode b5_requireSession 0 = .ok (.aload_n 0, 1) := by decide +kernel
theorem d5_requireSession_1 : decode b5_requireSession 1 = .ok (.getfield 44, 3) := by decide +kernel
theorem d5_requireSession_4 : decode b5_requireSession 4 = .ok (.getfield 112, 3) := by decide +kernel
theorem d5_requireSession_7 : decode b5_requireSession 7 = .ok (.ifCond .ne 14, 3) := by decide +kernel
theorem d5_requireSession_21 : decode b5_requireSession 21 = .ok (.aload_n 0, 1) := by decide +kernel
theorem d5_requireSession_22 : decode b5_requireSession 22 = .ok (.getfield 44, 3) := by decide +kernel
theorem d5_requireSession_25 : decode b5_requireSession 25 = .ok (.getfield 112, 3) := by decide +kernel
theorem d5_requireSession_28 : decode b5_requireSession 28 = .ok (.iconst 1, 1) := by decide +kernel
theorem d5_requireSession_29 : decode b5_requireSession 29 = .ok (.isub, 1) := by decide +kernel
theorem d5_requireSession_30 : decode b5_requireSession 30 = .ok (.ireturn, 1) := by decide +kernel
theorem d5_requireSession_10 : decode b5_requireSession 10 = .ok (.new 66, 3) := by decide +kernel
theorem d5_requireSession_13 : decode b5_requireSession 13 = .ok (.dup, 1) := by decide +kernel
theorem d5_requireSession_14 : decode b5_requireSession 14 = .ok (.ldc_w 398, 3) := by decide +kernel
theorem d5_requireSession_17 : decode b5_requireSession 17 = .ok (.invokespecial 70, 3) := by decide +kernel
theorem d5_requireSession_20 : decode b5_requireSession 20 = .ok (.athrow, 1) := by decide +kernel
theorem d5_lookAt_0 : decode b5_lookAt 0 = .ok (.aload_n 0, 1) := by decide +kernel
theorem d5_lookAt_1 : decode b5_lookAt 1 = .ok (.iload_n 1, 1) := by decide +kernel
theorem d5_lookAt_2 : decode b5_lookAt 2 = .ok (.invokevirtual 367, 3) := by decide +kernel
theorem d5_lookAt_5 : decode b5_lookAt 5 = .ok (.aload_n 0, 1) := by decide +kernel
theorem d5_lookAt_6 : decode b5_lookAt 6 = .ok (.getfield 51, 3) := by decide +kernel
theorem d5_lookAt_9 : decode b5_lookAt 9 = .ok (.invokevirtual 309, 3) := by decide +kernel
theorem d5_lookAt_12 : decode b5_lookAt 12 = .ok (.aload_n 0, 1) := by decide +kernel
theorem d5_lookAt_13 : decode b5_lookAt 13 = .ok (.getfield 51, 3) := by decide +kernel
theorem d5_lookAt_16 : decode b5_lookAt 16 = .ok (.aload_n 0, 1) := by decide +kernel
theorem d5_lookAt_17 : decode b5_lookAt 17 = .ok (.getfield 44, 3) := by decide +kernel
theorem d5_lookAt_20 : decode b5_lookAt 20 = .ok (.getfield 118, 3) := by decide +kernel
theorem d5_lookAt_23 : decode b5_lookAt 23 = .ok (.invokevirtual 331, 3) := by decide +kernel
theorem d5_lookAt_26 : decode b5_lookAt 26 = .ok (.return_, 1) := by decide +kernel
theorem d5_lookAtInnermost_0 : decode b5_lookAtInnermost 0 = .ok (.aload_n 0, 1) := by decide +kernel
theorem d5_lookAtInnermost_1 : decode b5_lookAtInnermost 1 = .ok (.aload_n 0, 1) := by decide +kernel
theorem d5_lookAtInnermost_2 : decode b5_lookAtInnermost 2 = .ok (.invokevirtual 293, 3) := by decide +kernel
theorem d5_lookAtInnermost_5 : decode b5_lookAtInnermost 5 = .ok (.invokevirtual 351, 3) := by decide +kernel
theorem d5_lookAtInnermost_8 : decode b5_lookAtInnermost 8 = .ok (.return_, 1) := by decide +kernel
theorem d5_field_0 : decode b5_field 0 = .ok (.iload_n 1, 1) := by decide +kernel
theorem d5_field_1 : decode b5_field 1 = .ok (.invokestatic 152, 3) := by decide +kernel
theorem d5_field_4 : decode b5_field 4 = .ok (.iload_n 2, 1) := by decide +kernel
theorem d5_field_5 : decode b5_field 5 = .ok (.ifCond .lt 9, 3) := by decide +kernel
theorem d5_field_8 : decode b5_field 8 = .ok (.iload_n 2, 1) := by decide +kernel
theorem d5_field_9 : decode b5_field 9 = .ok (.bipush 6, 2) := by decide +kernel
theorem d5_field_11 : decode b5_field 11 = .ok (.if_icmp .le 13, 3) := by decide +kernel
theorem d5_field_24 : decode b5_field 24 = .ok (.aload_n 0, 1) := by decide +kernel
theorem d5_field_25 : decode b5_field 25 = .ok (.invokevirtual 184, 3) := by decide +kernel
theorem d5_field_28 : decode b5_field 28 = .ok (.iload_n 2, 1) := by decide +kernel
theorem d5_field_29 : decode b5_field 29 = .ok (.tableswitch 113 0 5 #[39, 56, 73, 83, 93, 102], 39) := by decide +kernel
theorem d5_field_68 : decode b5_field 68 = .ok (.aload_n 0, 1) := by decide +kernel
theorem d5_field_69 : decode b5_field 69 = .ok (.getfield 51, 3) := by decide +kernel
theorem d5_field_72 : decode b5_field 72 = .ok (.iload_n 1, 1) := by decide +kernel
theorem d5_field_73 : decode b5_field 73 = .ok (.invokevirtual 187, 3) := by decide +kernel
theorem d5_field_76 : decode b5_field 76 = .ok (.ifCond .eq 7, 3) := by decide +kernel
theorem d5_field_83 : decode b5_field 83 = .ok (.iconst 0, 1) := by decide +kernel
theorem d5_field_84 : decode b5_field 84 = .ok (.ireturn, 1) := by decide +kernel
theorem d5_field_79 : decode b5_field 79 = .ok (.iconst 1, 1) := by decide +kernel
theorem d5_field_80 : decode b5_field 80 = .ok (.goto 4, 3) := by decide +kernel
theorem d5_field_85 : decode b5_field 85 = .ok (.aload_n 0, 1) := by decide +kernel
theorem d5_field_86 : decode b5_field 86 = .ok (.getfield 51, 3) := by decide +kernel
theorem d5_field_89 : decode b5_field 89 = .ok (.iload_n 1, 1) := by decide +kernel
theorem d5_field_90 : decode b5_field 90 = .ok (.invokevirtual 191, 3) := by decide +kernel
theorem d5_field_93 : decode b5_field 93 = .ok (.ifCond .eq 7, 3) := by decide +kernel
theorem d5_field_100 : decode b5_field 100 = .ok (.iconst 0, 1) := by decide +kernel
theorem d5_field_101 : decode b5_field 101 = .ok (.ireturn, 1) := by decide +kernel
theorem d5_field_96 : decode b5_field 96 = .ok (.iconst 1, 1) := by decide +kernel
theorem d5_field_97 : decode b5_field 97 = .ok (.goto 4, 3) := by decide +kernel
theorem d5_field_102 : decode b5_field 102 = .ok (.aload_n 0, 1) := by decide +kernel
theorem d5_field_103 : decode b5_field 103 = .ok (.getfield 51, 3) := by decide +kernel
theorem d5_field_106 : decode b5_field 106 = .ok (.getfield 194, 3) := by decide +kernel
theorem d5_field_109 : decode b5_field 109 = .ok (.iload_n 1, 1) := by decide +kernel
theorem d5_field_110 : decode b5_field 110 = .ok (.iaload, 1) := by decide +kernel
theorem d5_field_111 : decode b5_field 111 = .ok (.ireturn, 1) := by decide +kernel
theorem d5_field_112 : decode b5_field 112 = .ok (.aload_n 0, 1) := by decide +kernel
theorem d5_field_113 : decode b5_field 113 = .ok (.getfield 51, 3) := by decide +kernel
theorem d5_field_116 : decode b5_field 116 = .ok (.getfield 197, 3) := by decide +kernel
theorem d5_field_119 : decode b5_field 119 = .ok (.iload_n 1, 1) := by decide +kernel
theorem d5_field_120 : decode b5_field 120 = .ok (.iaload, 1) := by decide +kernel
theorem d5_field_121 : decode b5_field 121 = .ok (.ireturn, 1) := by decide +kernel
theorem d5_field_122 : decode b5_field 122 = .ok (.aload_n 0, 1) := by decide +kernel
theorem d5_field_123 : decode b5_field 123 = .ok (.getfield 51, 3) := by decide +kernel
theorem d5_field_126 : decode b5_field 126 = .ok (.iload_n 1, 1) := by decide +kernel
theorem d5_field_127 : decode b5_field 127 = .ok (.invokevirtual 200, 3) := by decide +kernel
theorem d5_field_130 : decode b5_field 130 = .ok (.ireturn, 1) := by decide +kernel
theorem d5_field_131 : decode b5_field 131 = .ok (.aload_n 0, 1) := by decide +kernel
theorem d5_field_132 : decode b5_field 132 = .ok (.getfield 51, 3) := by decide +kernel
theorem d5_field_135 : decode b5_field 135 = .ok (.getfield 203, 3) := by decide +kernel
theorem d5_field_138 : decode b5_field 138 = .ok (.iload_n 1, 1) := by decide +kernel
theorem d5_field_139 : decode b5_field 139 = .ok (.laload, 1) := by decide +kernel
theorem d5_field_140 : decode b5_field 140 = .ok (.l2i, 1) := by decide +kernel
theorem d5_field_141 : decode b5_field 141 = .ok (.ireturn, 1) := by decide +kernel
theorem d5_field_142 : decode b5_field 142 = .ok (.aload_n 0, 1) := by decide +kernel
theorem d5_field_143 : decode b5_field 143 = .ok (.getfield 51, 3) := by decide +kernel
theorem d5_field_146 : decode b5_field 146 = .ok (.getfield 207, 3) := by decide +kernel
theorem d5_field_149 : decode b5_field 149 = .ok (.iload_n 1, 1) := by decide +kernel
theorem d5_field_150 : decode b5_field 150 = .ok (.invokevirtual 211, 3) := by decide +kernel
theorem d5_field_153 : decode b5_field 153 = .ok (.ireturn, 1) := by decide +kernel
theorem d5_field_14 : decode b5_field 14 = .ok (.new 119, 3) := by decide +kernel
theorem d5_field_17 : decode b5_field 17 = .ok (.dup, 1) := by decide +kernel
theorem d5_field_18 : decode b5_field 18 = .ok (.ldc 121, 2) := by decide +kernel
theorem d5_field_20 : decode b5_field 20 = .ok (.invokespecial 123, 3) := by decide +kernel
theorem d5_field_23 : decode b5_field 23 = .ok (.athrow, 1) := by decide +kernel
theorem d5_value_0 : decode b5_value 0 = .ok (.iload_n 1, 1) := by decide +kernel
theorem d5_value_1 : decode b5_value 1 = .ok (.invokestatic 152, 3) := by decide +kernel
theorem d5_value_4 : decode b5_value 4 = .ok (.aload_n 0, 1) := by decide +kernel
theorem d5_value_5 : decode b5_value 5 = .ok (.invokevirtual 184, 3) := by decide +kernel
theorem d5_value_8 : decode b5_value 8 = .ok (.aload_n 0, 1) := by decide +kernel
theorem d5_value_9 : decode b5_value 9 = .ok (.getfield 51, 3) := by decide +kernel
theorem d5_value_12 : decode b5_value 12 = .ok (.invokevirtual 214, 3) := by decide +kernel
theorem d5_value_15 : decode b5_value 15 = .ok (.aload_n 0, 1) := by decide +kernel
theorem d5_value_16 : decode b5_value 16 = .ok (.getfield 51, 3) := by decide +kernel
theorem d5_value_19 : decode b5_value 19 = .ok (.iload_n 1, 1) := by decide +kernel
theorem d5_value_20 : decode b5_value 20 = .ok (.iload_n 2, 1) := by decide +kernel
theorem d5_value_21 : decode b5_value 21 = .ok (.invokevirtual 217, 3) := by decide +kernel
theorem d5_value_24 : decode b5_value 24 = .ok (.ireturn, 1) := by decide +kernel
theorem d5_occurrence_0 : decode b5_occurrence 0 = .ok (.aload_n 0, 1) := by decide +kernel
theorem d5_occurrence_1 : decode b5_occurrence 1 = .ok (.invokevirtual 184, 3) := by decide +kernel
theorem d5_occurrence_4 : decode b5_occurrence 4 = .ok (.aload_n 0, 1) := by decide +kernel
theorem d5_occurrence_5 : decode b5_occurrence 5 = .ok (.getfield 51, 3) := by decide +kernel
theorem d5_occurrence_8 : decode b5_occurrence 8 = .ok (.getfield 207, 3) := by decide +kernel
theorem d5_occurrence_11 : decode b5_occurrence 11 = .ok (.astore_n 3, 1) := by decide +kernel
theorem d5_occurrence_12 : decode b5_occurrence 12 = .ok (.iload_n 1, 1) := by decide +kernel
theorem d5_occurrence_13 : decode b5_occurrence 13 = .ok (.ifCond .lt 11, 3) := by decide +kernel
theorem d5_occurrence_16 : decode b5_occurrence 16 = .ok (.iload_n 1, 1) := by decide +kernel
theorem d5_occurrence_17 : decode b5_occurrence 17 = .ok (.aload_n 3, 1) := by decide +kernel
theorem d5_occurrence_18 : decode b5_occurrence 18 = .ok (.getfield 133, 3) := by decide +kernel
theorem d5_occurrence_21 : decode b5_occurrence 21 = .ok (.if_icmp .lt 13, 3) := by decide +kernel
theorem d5_occurrence_34 : decode b5_occurrence 34 = .ok (.iload_n 2, 1) := by decide +kernel
theorem d5_occurrence_35 : decode b5_occurrence 35 = .ok (.tableswitch 135 0 7 #[45, 52, 59, 74, 81, 99, 116, 126], 45) := by decide +kernel
theorem d5_occurrence_80 : decode b5_occurrence 80 = .ok (.aload_n 3, 1) := by decide +kernel
theorem d5_occurrence_81 : decode b5_occurrence 81 = .ok (.getfield 223, 3) := by decide +kernel
theorem d5_occurrence_84 : decode b5_occurrence 84 = .ok (.iload_n 1, 1) := by decide +kernel
theorem d5_occurrence_85 : decode b5_occurrence 85 = .ok (.iaload, 1) := by decide +kernel
theorem d5_occurrence_86 : decode b5_occurrence 86 = .ok (.ireturn, 1) := by decide +kernel
theorem d5_occurrence_87 : decode b5_occurrence 87 = .ok (.aload_n 3, 1) := by decide +kernel
theorem d5_occurrence_88 : decode b5_occurrence 88 = .ok (.getfield 226, 3) := by decide +kernel
theorem d5_occurrence_91 : decode b5_occurrence 91 = .ok (.iload_n 1, 1) := by decide +kernel
theorem d5_occurrence_92 : decode b5_occurrence 92 = .ok (.iaload, 1) := by decide +kernel
theorem d5_occurrence_93 : decode b5_occurrence 93 = .ok (.ireturn, 1) := by decide +kernel
theorem d5_occurrence_94 : decode b5_occurrence 94 = .ok (.aload_n 3, 1) := by decide +kernel
theorem d5_occurrence_95 : decode b5_occurrence 95 = .ok (.getfield 229, 3) := by decide +kernel
theorem d5_occurrence_98 : decode b5_occurrence 98 = .ok (.iload_n 1, 1) := by decide +kernel
theorem d5_occurrence_99 : decode b5_occurrence 99 = .ok (.baload, 1) := by decide +kernel
theorem d5_occurrence_100 : decode b5_occurrence 100 = .ok (.ifCond .eq 7, 3) := by decide +kernel
theorem d5_occurrence_107 : decode b5_occurrence 107 = .ok (.iconst 0, 1) := by decide +kernel
theorem d5_occurrence_108 : decode b5_occurrence 108 = .ok (.ireturn, 1) := by decide +kernel
theorem d5_occurrence_103 : decode b5_occurrence 103 = .ok (.iconst 1, 1) := by decide +kernel
theorem d5_occurrence_104 : decode b5_occurrence 104 = .ok (.goto 4, 3) := by decide +kernel
theorem d5_occurrence_109 : decode b5_occurrence 109 = .ok (.aload_n 3, 1) := by decide +kernel
theorem d5_occurrence_110 : decode b5_occurrence 110 = .ok (.getfield 232, 3) := by decide +kernel
theorem d5_occurrence_113 : decode b5_occurrence 113 = .ok (.iload_n 1, 1) := by decide +kernel
theorem d5_occurrence_114 : decode b5_occurrence 114 = .ok (.iaload, 1) := by decide +kernel
theorem d5_occurrence_115 : decode b5_occurrence 115 = .ok (.ireturn, 1) := by decide +kernel
theorem d5_occurrence_116 : decode b5_occurrence 116 = .ok (.aload_n 0, 1) := by decide +kernel
theorem d5_occurrence_117 : decode b5_occurrence 117 = .ok (.getfield 51, 3) := by decide +kernel
theorem d5_occurrence_120 : decode b5_occurrence 120 = .ok (.getfield 235, 3) := by decide +kernel
theorem d5_occurrence_123 : decode b5_occurrence 123 = .ok (.iload_n 1, 1) := by decide +kernel
theorem d5_occurrence_124 : decode b5_occurrence 124 = .ok (.baload, 1) := by decide +kernel
theorem d5_occurrence_125 : decode b5_occurrence 125 = .ok (.ifCond .eq 7, 3) := by decide +kernel
theorem d5_occurrence_132 : decode b5_occurrence 132 = .ok (.iconst 0, 1) := by decide +kernel
theorem d5_occurrence_133 : decode b5_occurrence 133 = .ok (.ireturn, 1) := by decide +kernel
theorem d5_occurrence_128 : decode b5_occurrence 128 = .ok (.iconst 1, 1) := by decide +kernel
theorem d5_occurrence_129 : decode b5_occurrence 129 = .ok (.goto 4, 3) := by decide +kernel
theorem d5_occurrence_134 : decode b5_occurrence 134 = .ok (.aload_n 0, 1) := by decide +kernel
theorem d5_occurrence_135 : decode b5_occurrence 135 = .ok (.getfield 51, 3) := by decide +kernel
theorem d5_occurrence_138 : decode b5_occurrence 138 = .ok (.iload_n 1, 1) := by decide +kernel
theorem d5_occurrence_139 : decode b5_occurrence 139 = .ok (.invokevirtual 238, 3) := by decide +kernel
theorem d5_occurrence_142 : decode b5_occurrence 142 = .ok (.ifCond .eq 7, 3) := by decide +kernel
theorem d5_occurrence_149 : decode b5_occurrence 149 = .ok (.iconst 0, 1) := by decide +kernel
theorem d5_occurrence_150 : decode b5_occurrence 150 = .ok (.ireturn, 1) := by decide +kernel
theorem d5_occurrence_145 : decode b5_occurrence 145 = .ok (.iconst 1, 1) := by decide +kernel
theorem d5_occurrence_146 : decode b5_occurrence 146 = .ok (.goto 4, 3) := by decide +kernel
theorem d5_occurrence_151 : decode b5_occurrence 151 = .ok (.aload_n 0, 1) := by decide +kernel
theorem d5_occurrence_152 : decode b5_occurrence 152 = .ok (.getfield 51, 3) := by decide +kernel
theorem d5_occurrence_155 : decode b5_occurrence 155 = .ok (.iload_n 1, 1) := by decide +kernel
theorem d5_occurrence_156 : decode b5_occurrence 156 = .ok (.invokevirtual 241, 3) := by decide +kernel
theorem d5_occurrence_159 : decode b5_occurrence 159 = .ok (.l2i, 1) := by decide +kernel
theorem d5_occurrence_160 : decode b5_occurrence 160 = .ok (.ireturn, 1) := by decide +kernel
theorem d5_occurrence_161 : decode b5_occurrence 161 = .ok (.aload_n 0, 1) := by decide +kernel
theorem d5_occurrence_162 : decode b5_occurrence 162 = .ok (.getfield 51, 3) := by decide +kernel
theorem d5_occurrence_165 : decode b5_occurrence 165 = .ok (.iload_n 1, 1) := by decide +kernel
theorem d5_occurrence_166 : decode b5_occurrence 166 = .ok (.invokevirtual 244, 3) := by decide +kernel
theorem d5_occurrence_169 : decode b5_occurrence 169 = .ok (.ireturn, 1) := by decide +kernel
theorem d5_occurrence_170 : decode b5_occurrence 170 = .ok (.new 119, 3) := by decide +kernel
theorem d5_occurrence_173 : decode b5_occurrence 173 = .ok (.dup, 1) := by decide +kernel
theorem d5_occurrence_174 : decode b5_occurrence 174 = .ok (.ldc 121, 2) := by decide +kernel
theorem d5_occurrence_176 : decode b5_occurrence 176 = .ok (.invokespecial 123, 3) := by decide +kernel
theorem d5_occurrence_179 : decode b5_occurrence 179 = .ok (.athrow, 1) := by decide +kernel
theorem d5_occurrence_24 : decode b5_occurrence 24 = .ok (.new 158, 3) := by decide +kernel
theorem d5_occurrence_27 : decode b5_occurrence 27 = .ok (.dup, 1) := by decide +kernel
theorem d5_occurrence_28 : decode b5_occurrence 28 = .ok (.ldc 221, 2) := by decide +kernel
theorem d5_occurrence_30 : decode b5_occurrence 30 = .ok (.invokespecial 162, 3) := by decide +kernel
theorem d5_occurrence_33 : decode b5_occurrence 33 = .ok (.athrow, 1) := by decide +kernel
theorem d5_text_0 : decode b5_text 0 = .ok (.aload_n 0, 1) := by decide +kernel
theorem d5_text_1 : decode b5_text 1 = .ok (.invokevirtual 184, 3) := by decide +kernel
theorem d5_text_4 : decode b5_text 4 = .ok (.iload_n 1, 1) := by decide +kernel
theorem d5_text_5 : decode b5_text 5 = .ok (.ifCond .lt 16, 3) := by decide +kernel
theorem d5_text_21 : decode b5_text 21 = .ok (.iconst (-1), 1) := by decide +kernel
theorem d5_text_22 : decode b5_text 22 = .ok (.ireturn, 1) := by decide +kernel
theorem d5_text_8 : decode b5_text 8 = .ok (.iload_n 1, 1) := by decide +kernel
theorem d5_text_9 : decode b5_text 9 = .ok (.i2l, 1) := by decide +kernel
theorem d5_text_10 : decode b5_text 10 = .ok (.aload_n 0, 1) := by decide +kernel
theorem d5_text_11 : decode b5_text 11 = .ok (.getfield 51, 3) := by decide +kernel
theorem d5_text_14 : decode b5_text 14 = .ok (.getfield 247, 3) := by decide +kernel
theorem d5_text_17 : decode b5_text 17 = .ok (.lcmp, 1) := by decide +kernel
theorem d5_text_18 : decode b5_text 18 = .ok (.ifCond .lt 5, 3) := by decide +kernel
theorem d5_text_23 : decode b5_text 23 = .ok (.aload_n 0, 1) := by decide +kernel
theorem d5_text_24 : decode b5_text 24 = .ok (.getfield 51, 3) := by decide +kernel
theorem d5_text_27 : decode b5_text 27 = .ok (.invokevirtual 251, 3) := by decide +kernel
theorem d5_text_30 : decode b5_text 30 = .ok (.aload_n 0, 1) := by decide +kernel
theorem d5_text_31 : decode b5_text 31 = .ok (.getfield 51, 3) := by decide +kernel
theorem d5_text_34 : decode b5_text 34 = .ok (.getfield 254, 3) := by decide +kernel
theorem d5_text_37 : decode b5_text 37 = .ok (.iload_n 1, 1) := by decide +kernel
theorem d5_text_38 : decode b5_text 38 = .ok (.iaload, 1) := by decide +kernel
theorem d5_text_39 : decode b5_text 39 = .ok (.ireturn, 1) := by decide +kernel
theorem d5_orderAt_0 : decode b5_orderAt 0 = .ok (.aload_n 0, 1) := by decide +kernel
theorem d5_orderAt_1 : decode b5_orderAt 1 = .ok (.invokevirtual 184, 3) := by decide +kernel
theorem d5_orderAt_4 : decode b5_orderAt 4 = .ok (.iload_n 1, 1) := by decide +kernel
theorem d5_orderAt_5 : decode b5_orderAt 5 = .ok (.ifCond .lt 26, 3) := by decide +kernel
theorem d5_orderAt_31 : decode b5_orderAt 31 = .ok (.iconst (-1), 1) := by decide +kernel
theorem d5_orderAt_32 : decode b5_orderAt 32 = .ok (.ireturn, 1) := by decide +kernel
theorem d5_orderAt_8 : decode b5_orderAt 8 = .ok (.iload_n 1, 1) := by decide +kernel
theorem d5_orderAt_9 : decode b5_orderAt 9 = .ok (.aload_n 0, 1) := by decide +kernel
theorem d5_orderAt_10 : decode b5_orderAt 10 = .ok (.getfield 51, 3) := by decide +kernel
theorem d5_orderAt_13 : decode b5_orderAt 13 = .ok (.getfield 257, 3) := by decide +kernel
theorem d5_orderAt_16 : decode b5_orderAt 16 = .ok (.if_icmp .ge 15, 3) := by decide +kernel
theorem d5_orderAt_19 : decode b5_orderAt 19 = .ok (.aload_n 0, 1) := by decide +kernel
theorem d5_orderAt_20 : decode b5_orderAt 20 = .ok (.getfield 51, 3) := by decide +kernel
theorem d5_orderAt_23 : decode b5_orderAt 23 = .ok (.getfield 260, 3) := by decide +kernel
theorem d5_orderAt_26 : decode b5_orderAt 26 = .ok (.iload_n 1, 1) := by decide +kernel
theorem d5_orderAt_27 : decode b5_orderAt 27 = .ok (.iaload, 1) := by decide +kernel
theorem d5_orderAt_28 : decode b5_orderAt 28 = .ok (.goto 4, 3) := by decide +kernel
theorem d5_why_0 : decode b5_why 0 = .ok (.iload_n 1, 1) := by decide +kernel
theorem d5_why_1 : decode b5_why 1 = .ok (.invokestatic 152, 3) := by decide +kernel
theorem d5_why_4 : decode b5_why 4 = .ok (.aload_n 0, 1) := by decide +kernel
theorem d5_why_5 : decode b5_why 5 = .ok (.invokevirtual 184, 3) := by decide +kernel
theorem d5_why_8 : decode b5_why 8 = .ok (.aload_n 0, 1) := by decide +kernel
theorem d5_why_9 : decode b5_why 9 = .ok (.getfield 51, 3) := by decide +kernel
theorem d5_why_12 : decode b5_why 12 = .ok (.iload_n 1, 1) := by decide +kernel
theorem d5_why_13 : decode b5_why 13 = .ok (.invokevirtual 263, 3) := by decide +kernel
theorem d5_why_16 : decode b5_why 16 = .ok (.ireturn, 1) := by decide +kernel
theorem d5_yielded_0 : decode b5_yielded 0 = .ok (.aload_n 0, 1) := by decide +kernel
theorem d5_yielded_1 : decode b5_yielded 1 = .ok (.invokevirtual 184, 3) := by decide +kernel
theorem d5_yielded_4 : decode b5_yielded 4 = .ok (.aload_n 0, 1) := by decide +kernel
theorem d5_yielded_5 : decode b5_yielded 5 = .ok (.getfield 51, 3) := by decide +kernel
theorem d5_yielded_8 : decode b5_yielded 8 = .ok (.invokevirtual 266, 3) := by decide +kernel
theorem d5_yielded_11 : decode b5_yielded 11 = .ok (.ireturn, 1) := by decide +kernel
theorem d5_mirrored_0 : decode b5_mirrored 0 = .ok (.aload_n 0, 1) := by decide +kernel
theorem d5_mirrored_1 : decode b5_mirrored 1 = .ok (.invokevirtual 184, 3) := by decide +kernel
theorem d5_mirrored_4 : decode b5_mirrored 4 = .ok (.aload_n 0, 1) := by decide +kernel
theorem d5_mirrored_5 : decode b5_mirrored 5 = .ok (.getfield 51, 3) := by decide +kernel
theorem d5_mirrored_8 : decode b5_mirrored 8 = .ok (.invokevirtual 269, 3) := by decide +kernel
theorem d5_mirrored_11 : decode b5_mirrored 11 = .ok (.ireturn, 1) := by decide +kernel
theorem d5_longest_0 : decode b5_longest 0 = .ok (.aload_n 0, 1) := by decide +kernel
theorem d5_longest_1 : decode b5_longest 1 = .ok (.invokevirtual 184, 3) := by decide +kernel
theorem d5_longest_4 : decode b5_longest 4 = .ok (.aload_n 0, 1) := by decide +kernel
theorem d5_longest_5 : decode b5_longest 5 = .ok (.getfield 51, 3) := by decide +kernel
theorem d5_longest_8 : decode b5_longest 8 = .ok (.invokevirtual 272, 3) := by decide +kernel
theorem d5_longest_11 : decode b5_longest 11 = .ok (.ireturn, 1) := by decide +kernel
theorem d5_untouched_0 : decode b5_untouched 0 = .ok (.aload_n 0, 1) := by decide +kernel
theorem d5_untouched_1 : decode b5_untouched 1 = .ok (.invokevirtual 184, 3) := by decide +kernel
theorem d5_untouched_4 : decode b5_untouched 4 = .ok (.aload_n 0, 1) := by decide +kernel
theorem d5_untouched_5 : decode b5_untouched 5 = .ok (.getfield 51, 3) := by decide +kernel
theorem d5_untouched_8 : decode b5_untouched 8 = .ok (.getfield 275, 3) := by decide +kernel
theorem d5_untouched_11 : decode b5_untouched 11 = .ok (.invokestatic 278, 3) := by decide +kernel
theorem d5_untouched_14 : decode b5_untouched 14 = .ok (.istore_n 1, 1) := by decide +kernel
theorem d5_untouched_15 : decode b5_untouched 15 = .ok (.aload_n 0, 1) := by decide +kernel
theorem d5_untouched_16 : decode b5_untouched 16 = .ok (.getfield 51, 3) := by decide +kernel
theorem d5_untouched_19 : decode b5_untouched 19 = .ok (.getfield 275, 3) := by decide +kernel
theorem d5_untouched_22 : decode b5_untouched 22 = .ok (.aload_n 0, 1) := by decide +kernel
theorem d5_untouched_23 : decode b5_untouched 23 = .ok (.getfield 51, 3) := by decide +kernel
theorem d5_untouched_26 : decode b5_untouched 26 = .ok (.getfield 283, 3) := by decide +kernel
theorem d5_untouched_29 : decode b5_untouched 29 = .ok (.iconst (-1), 1) := by decide +kernel
theorem d5_untouched_30 : decode b5_untouched 30 = .ok (.ixor, 1) := by decide +kernel
theorem d5_untouched_31 : decode b5_untouched 31 = .ok (.iand, 1) := by decide +kernel
theorem d5_untouched_32 : decode b5_untouched 32 = .ok (.invokestatic 278, 3) := by decide +kernel
theorem d5_untouched_35 : decode b5_untouched 35 = .ok (.istore_n 2, 1) := by decide +kernel
theorem d5_untouched_36 : decode b5_untouched 36 = .ok (.iload_n 1, 1) := by decide +kernel
theorem d5_untouched_37 : decode b5_untouched 37 = .ok (.ifCond .ne 7, 3) := by decide +kernel
theorem d5_untouched_44 : decode b5_untouched 44 = .ok (.iload_n 2, 1) := by decide +kernel
theorem d5_untouched_45 : decode b5_untouched 45 = .ok (.i2f, 1) := by decide +kernel
theorem d5_untouched_46 : decode b5_untouched 46 = .ok (.iload_n 1, 1) := by decide +kernel
theorem d5_untouched_47 : decode b5_untouched 47 = .ok (.i2f, 1) := by decide +kernel
theorem d5_untouched_48 : decode b5_untouched 48 = .ok (.fdiv, 1) := by decide +kernel
theorem d5_untouched_49 : decode b5_untouched 49 = .ok (.freturn, 1) := by decide +kernel
theorem d5_untouched_40 : decode b5_untouched 40 = .ok (.fconst 0, 1) := by decide +kernel
theorem d5_untouched_41 : decode b5_untouched 41 = .ok (.goto 8, 3) := by decide +kernel
theorem d5_meanLength_0 : decode b5_meanLength 0 = .ok (.aload_n 0, 1) := by decide +kernel
theorem d5_meanLength_1 : decode b5_meanLength 1 = .ok (.invokevirtual 184, 3) := by decide +kernel
theorem d5_meanLength_4 : decode b5_meanLength 4 = .ok (.aload_n 0, 1) := by decide +kernel
theorem d5_meanLength_5 : decode b5_meanLength 5 = .ok (.getfield 51, 3) := by decide +kernel
theorem d5_meanLength_8 : decode b5_meanLength 8 = .ok (.getfield 275, 3) := by decide +kernel
theorem d5_meanLength_11 : decode b5_meanLength 11 = .ok (.invokestatic 278, 3) := by decide +kernel
theorem d5_meanLength_14 : decode b5_meanLength 14 = .ok (.istore_n 1, 1) := by decide +kernel
theorem d5_meanLength_15 : decode b5_meanLength 15 = .ok (.iload_n 1, 1) := by decide +kernel
theorem d5_meanLength_16 : decode b5_meanLength 16 = .ok (.ifCond .ne 7, 3) := by decide +kernel
theorem d5_meanLength_23 : decode b5_meanLength 23 = .ok (.aload_n 0, 1) := by decide +kernel
theorem d5_meanLength_24 : decode b5_meanLength 24 = .ok (.getfield 51, 3) := by decide +kernel
theorem d5_meanLength_27 : decode b5_meanLength 27 = .ok (.invokevirtual 286, 3) := by decide +kernel
theorem d5_meanLength_30 : decode b5_meanLength 30 = .ok (.l2d, 1) := by decide +kernel
theorem d5_meanLength_31 : decode b5_meanLength 31 = .ok (.iload_n 1, 1) := by decide +kernel
theorem d5_meanLength_32 : decode b5_meanLength 32 = .ok (.i2d, 1) := by decide +kernel
theorem d5_meanLength_33 : decode b5_meanLength 33 = .ok (.ddiv, 1) := by decide +kernel
theorem d5_meanLength_34 : decode b5_meanLength 34 = .ok (.dreturn, 1) := by decide +kernel
theorem d5_meanLength_19 : decode b5_meanLength 19 = .ok (.dconst 0, 1) := by decide +kernel
theorem d5_meanLength_20 : decode b5_meanLength 20 = .ok (.goto 14, 3) := by decide +kernel
theorem d5_requireBytesAtOnce_0 : decode b5_requireBytesAtOnce 0 = .ok (.iload_n 0, 1) := by decide +kernel
theorem d5_requireBytesAtOnce_1 : decode b5_requireBytesAtOnce 1 = .ok (.iconst 1, 1) := by decide +kernel
theorem d5_requireBytesAtOnce_2 : decode b5_requireBytesAtOnce 2 = .ok (.if_icmp .lt 9, 3) := by decide +kernel
theorem d5_requireBytesAtOnce_5 : decode b5_requireBytesAtOnce 5 = .ok (.iload_n 0, 1) := by decide +kernel
theorem d5_requireBytesAtOnce_6 : decode b5_requireBytesAtOnce 6 = .ok (.bipush 20, 2) := by decide +kernel
theorem d5_requireBytesAtOnce_8 : decode b5_requireBytesAtOnce 8 = .ok (.if_icmp .le 14, 3) := by decide +kernel
theorem d5_requireBytesAtOnce_22 : decode b5_requireBytesAtOnce 22 = .ok (.return_, 1) := by decide +kernel
theorem d5_requireBytesAtOnce_11 : decode b5_requireBytesAtOnce 11 = .ok (.new 119, 3) := by decide +kernel
theorem d5_requireBytesAtOnce_14 : decode b5_requireBytesAtOnce 14 = .ok (.dup, 1) := by decide +kernel
theorem d5_requireBytesAtOnce_15 : decode b5_requireBytesAtOnce 15 = .ok (.ldc_w 394, 3) := by decide +kernel
theorem d5_requireBytesAtOnce_18 : decode b5_requireBytesAtOnce 18 = .ok (.invokespecial 123, 3) := by decide +kernel
theorem d5_requireBytesAtOnce_21 : decode b5_requireBytesAtOnce 21 = .ok (.athrow, 1) := by decide +kernel
theorem d5_textIfTyped_0 : decode b5_textIfTyped 0 = .ok (.aload_n 0, 1) := by decide +kernel
theorem d5_textIfTyped_1 : decode b5_textIfTyped 1 = .ok (.iload_n 1, 1) := by decide +kernel
theorem d5_textIfTyped_2 : decode b5_textIfTyped 2 = .ok (.invokevirtual 367, 3) := by decide +kernel
theorem d5_textIfTyped_5 : decode b5_textIfTyped 5 = .ok (.aload_n 0, 1) := by decide +kernel
theorem d5_textIfTyped_6 : decode b5_textIfTyped 6 = .ok (.getfield 51, 3) := by decide +kernel
theorem d5_textIfTyped_9 : decode b5_textIfTyped 9 = .ok (.iload_n 2, 1) := by decide +kernel
theorem d5_textIfTyped_10 : decode b5_textIfTyped 10 = .ok (.iload_n 3, 1) := by decide +kernel
theorem d5_textIfTyped_11 : decode b5_textIfTyped 11 = .ok (.invokevirtual 305, 3) := by decide +kernel
theorem d5_textIfTyped_14 : decode b5_textIfTyped 14 = .ok (.aload_n 0, 1) := by decide +kernel
theorem d5_textIfTyped_15 : decode b5_textIfTyped 15 = .ok (.getfield 51, 3) := by decide +kernel
theorem d5_textIfTyped_18 : decode b5_textIfTyped 18 = .ok (.invokevirtual 309, 3) := by decide +kernel
theorem d5_textIfTyped_21 : decode b5_textIfTyped 21 = .ok (.aload_n 0, 1) := by decide +kernel
theorem d5_textIfTyped_22 : decode b5_textIfTyped 22 = .ok (.getfield 51, 3) := by decide +kernel
theorem d5_textIfTyped_25 : decode b5_textIfTyped 25 = .ok (.getfield 247, 3) := by decide +kernel
theorem d5_textIfTyped_28 : decode b5_textIfTyped 28 = .ok (.lreturn, 1) := by decide +kernel
theorem d5_lengthIf_0 : decode b5_lengthIf 0 = .ok (.iload_n 1, 1) := by decide +kernel
theorem d5_lengthIf_1 : decode b5_lengthIf 1 = .ok (.invokestatic 290, 3) := by decide +kernel
theorem d5_lengthIf_4 : decode b5_lengthIf 4 = .ok (.aload_n 0, 1) := by decide +kernel
theorem d5_lengthIf_5 : decode b5_lengthIf 5 = .ok (.invokevirtual 293, 3) := by decide +kernel
theorem d5_lengthIf_8 : decode b5_lengthIf 8 = .ok (.istore_n 2, 1) := by decide +kernel
theorem d5_lengthIf_9 : decode b5_lengthIf 9 = .ok (.aload_n 0, 1) := by decide +kernel
theorem d5_lengthIf_10 : decode b5_lengthIf 10 = .ok (.getfield 44, 3) := by decide +kernel
theorem d5_lengthIf_13 : decode b5_lengthIf 13 = .ok (.getfield 171, 3) := by decide +kernel
theorem d5_lengthIf_16 : decode b5_lengthIf 16 = .ok (.iload_n 2, 1) := by decide +kernel
theorem d5_lengthIf_17 : decode b5_lengthIf 17 = .ok (.iaload, 1) := by decide +kernel
theorem d5_lengthIf_18 : decode b5_lengthIf 18 = .ok (.istore_n 3, 1) := by decide +kernel
theorem d5_lengthIf_19 : decode b5_lengthIf 19 = .ok (.aload_n 0, 1) := by decide +kernel
theorem d5_lengthIf_20 : decode b5_lengthIf 20 = .ok (.getfield 44, 3) := by decide +kernel
theorem d5_lengthIf_23 : decode b5_lengthIf 23 = .ok (.iload_n 2, 1) := by decide +kernel
theorem d5_lengthIf_24 : decode b5_lengthIf 24 = .ok (.iload_n 3, 1) := by decide +kernel
theorem d5_lengthIf_25 : decode b5_lengthIf 25 = .ok (.invokevirtual 296, 3) := by decide +kernel
theorem d5_lengthIf_28 : decode b5_lengthIf 28 = .ok (.iload_n 1, 1) := by decide +kernel
theorem d5_lengthIf_29 : decode b5_lengthIf 29 = .ok (.iadd, 1) := by decide +kernel
theorem d5_lengthIf_30 : decode b5_lengthIf 30 = .ok (.istore 4, 2) := by decide +kernel
theorem d5_lengthIf_32 : decode b5_lengthIf 32 = .ok (.iload 4, 2) := by decide +kernel
theorem d5_lengthIf_34 : decode b5_lengthIf 34 = .ok (.bipush 40, 2) := by decide +kernel
theorem d5_lengthIf_36 : decode b5_lengthIf 36 = .ok (.if_icmp .le 5, 3) := by decide +kernel
theorem d5_lengthIf_41 : decode b5_lengthIf 41 = .ok (.aload_n 0, 1) := by decide +kernel
theorem d5_lengthIf_42 : decode b5_lengthIf 42 = .ok (.iload_n 2, 1) := by decide +kernel
theorem d5_lengthIf_43 : decode b5_lengthIf 43 = .ok (.iload_n 3, 1) := by decide +kernel
theorem d5_lengthIf_44 : decode b5_lengthIf 44 = .ok (.iload 4, 2) := by decide +kernel
theorem d5_lengthIf_46 : decode b5_lengthIf 46 = .ok (.invokevirtual 299, 3) := by decide +kernel
theorem d5_lengthIf_49 : decode b5_lengthIf 49 = .ok (.lstore 5, 2) := by decide +kernel
theorem d5_lengthIf_51 : decode b5_lengthIf 51 = .ok (.lload 5, 2) := by decide +kernel
theorem d5_lengthIf_53 : decode b5_lengthIf 53 = .ok (.ldc2_w 303, 3) := by decide +kernel
theorem d5_lengthIf_56 : decode b5_lengthIf 56 = .ok (.lcmp, 1) := by decide +kernel
theorem d5_lengthIf_57 : decode b5_lengthIf 57 = .ok (.ifCond .le 7, 3) := by decide +kernel
theorem d5_lengthIf_64 : decode b5_lengthIf 64 = .ok (.lload 5, 2) := by decide +kernel
theorem d5_lengthIf_66 : decode b5_lengthIf 66 = .ok (.l2i, 1) := by decide +kernel
theorem d5_lengthIf_67 : decode b5_lengthIf 67 = .ok (.ireturn, 1) := by decide +kernel
theorem d5_lengthIf_60 : decode b5_lengthIf 60 = .ok (.iconst (-1), 1) := by decide +kernel
theorem d5_lengthIf_61 : decode b5_lengthIf 61 = .ok (.goto 6, 3) := by decide +kernel
theorem d5_lengthIf_39 : decode b5_lengthIf 39 = .ok (.iconst (-1), 1) := by decide +kernel
theorem d5_lengthIf_40 : decode b5_lengthIf 40 = .ok (.ireturn, 1) := by decide +kernel
theorem d5_wouldHide_0 : decode b5_wouldHide 0 = .ok (.iload_n 1, 1) := by decide +kernel
theorem d5_wouldHide_1 : decode b5_wouldHide 1 = .ok (.invokestatic 152, 3) := by decide +kernel
theorem d5_wouldHide_4 : decode b5_wouldHide 4 = .ok (.aload_n 0, 1) := by decide +kernel
theorem d5_wouldHide_5 : decode b5_wouldHide 5 = .ok (.invokevirtual 184, 3) := by decide +kernel
theorem d5_wouldHide_8 : decode b5_wouldHide 8 = .ok (.aload_n 0, 1) := by decide +kernel
theorem d5_wouldHide_9 : decode b5_wouldHide 9 = .ok (.getfield 51, 3) := by decide +kernel
theorem d5_wouldHide_12 : decode b5_wouldHide 12 = .ok (.iload_n 1, 1) := by decide +kernel
theorem d5_wouldHide_13 : decode b5_wouldHide 13 = .ok (.invokevirtual 191, 3) := by decide +kernel
theorem d5_wouldHide_16 : decode b5_wouldHide 16 = .ok (.ifCond .eq 5, 3) := by decide +kernel
theorem d5_wouldHide_21 : decode b5_wouldHide 21 = .ok (.aload_n 0, 1) := by decide +kernel
theorem d5_wouldHide_22 : decode b5_wouldHide 22 = .ok (.getfield 51, 3) := by decide +kernel
theorem d5_wouldHide_25 : decode b5_wouldHide 25 = .ok (.getfield 275, 3) := by decide +kernel
theorem d5_wouldHide_28 : decode b5_wouldHide 28 = .ok (.istore_n 2, 1) := by decide +kernel
theorem d5_wouldHide_29 : decode b5_wouldHide 29 = .ok (.aload_n 0, 1) := by decide +kernel
theorem d5_wouldHide_30 : decode b5_wouldHide 30 = .ok (.getfield 51, 3) := by decide +kernel
theorem d5_wouldHide_33 : decode b5_wouldHide 33 = .ok (.iload_n 1, 1) := by decide +kernel
theorem d5_wouldHide_34 : decode b5_wouldHide 34 = .ok (.iconst 0, 1) := by decide +kernel
theorem d5_wouldHide_35 : decode b5_wouldHide 35 = .ok (.invokevirtual 305, 3) := by decide +kernel
theorem d5_wouldHide_38 : decode b5_wouldHide 38 = .ok (.aload_n 0, 1) := by decide +kernel
theorem d5_wouldHide_39 : decode b5_wouldHide 39 = .ok (.getfield 51, 3) := by decide +kernel
theorem d5_wouldHide_42 : decode b5_wouldHide 42 = .ok (.invokevirtual 309, 3) := by decide +kernel
theorem d5_wouldHide_45 : decode b5_wouldHide 45 = .ok (.iload_n 2, 1) := by decide +kernel
theorem d5_wouldHide_46 : decode b5_wouldHide 46 = .ok (.aload_n 0, 1) := by decide +kernel
theorem d5_wouldHide_47 : decode b5_wouldHide 47 = .ok (.getfield 51, 3) := by decide +kernel
theorem d5_wouldHide_50 : decode b5_wouldHide 50 = .ok (.getfield 275, 3) := by decide +kernel
theorem d5_wouldHide_53 : decode b5_wouldHide 53 = .ok (.iconst (-1), 1) := by decide +kernel
theorem d5_wouldHide_54 : decode b5_wouldHide 54 = .ok (.ixor, 1) := by decide +kernel
theorem d5_wouldHide_55 : decode b5_wouldHide 55 = .ok (.iand, 1) := by decide +kernel
theorem d5_wouldHide_56 : decode b5_wouldHide 56 = .ok (.ireturn, 1) := by decide +kernel
theorem d5_wouldHide_19 : decode b5_wouldHide 19 = .ok (.iconst 0, 1) := by decide +kernel
theorem d5_wouldHide_20 : decode b5_wouldHide 20 = .ok (.ireturn, 1) := by decide +kernel
theorem d5_lengthOf_0 : decode b5_lengthOf 0 = .ok (.aload_n 0, 1) := by decide +kernel
theorem d5_lengthOf_1 : decode b5_lengthOf 1 = .ok (.getfield 51, 3) := by decide +kernel
theorem d5_lengthOf_4 : decode b5_lengthOf 4 = .ok (.aload_n 0, 1) := by decide +kernel
theorem d5_lengthOf_5 : decode b5_lengthOf 5 = .ok (.iload_n 1, 1) := by decide +kernel
theorem d5_lengthOf_6 : decode b5_lengthOf 6 = .ok (.invokevirtual 124, 3) := by decide +kernel
theorem d5_lengthOf_9 : decode b5_lengthOf 9 = .ok (.invokevirtual 312, 3) := by decide +kernel
theorem d5_lengthOf_12 : decode b5_lengthOf 12 = .ok (.aload_n 0, 1) := by decide +kernel
theorem d5_lengthOf_13 : decode b5_lengthOf 13 = .ok (.getfield 51, 3) := by decide +kernel
theorem d5_lengthOf_16 : decode b5_lengthOf 16 = .ok (.invokevirtual 309, 3) := by decide +kernel
theorem d5_lengthOf_19 : decode b5_lengthOf 19 = .ok (.aload_n 0, 1) := by decide +kernel
theorem d5_lengthOf_20 : decode b5_lengthOf 20 = .ok (.getfield 51, 3) := by decide +kernel
theorem d5_lengthOf_23 : decode b5_lengthOf 23 = .ok (.getfield 247, 3) := by decide +kernel
theorem d5_lengthOf_26 : decode b5_lengthOf 26 = .ok (.ldc2_w 316, 3) := by decide +kernel
theorem d5_lengthOf_29 : decode b5_lengthOf 29 = .ok (.invokestatic 318, 3) := by decide +kernel
theorem d5_lengthOf_32 : decode b5_lengthOf 32 = .ok (.l2i, 1) := by decide +kernel
theorem d5_lengthOf_33 : decode b5_lengthOf 33 = .ok (.ireturn, 1) := by decide +kernel
theorem d5_refuse_0 : decode b5_refuse 0 = .ok (.aload_n 0, 1) := by decide +kernel
theorem d5_refuse_1 : decode b5_refuse 1 = .ok (.getfield 13, 3) := by decide +kernel
theorem d5_refuse_4 : decode b5_refuse 4 = .ok (.iload_n 1, 1) := by decide +kernel
theorem d5_refuse_5 : decode b5_refuse 5 = .ok (.dup2, 1) := by decide +kernel
theorem d5_refuse_6 : decode b5_refuse 6 = .ok (.iaload, 1) := by decide +kernel
theorem d5_refuse_7 : decode b5_refuse 7 = .ok (.iconst 1, 1) := by decide +kernel
theorem d5_refuse_8 : decode b5_refuse 8 = .ok (.iadd, 1) := by decide +kernel
theorem d5_refuse_9 : decode b5_refuse 9 = .ok (.iastore, 1) := by decide +kernel
theorem d5_refuse_10 : decode b5_refuse 10 = .ok (.iload_n 1, 1) := by decide +kernel
theorem d5_refuse_11 : decode b5_refuse 11 = .ok (.ineg, 1) := by decide +kernel
theorem d5_refuse_12 : decode b5_refuse 12 = .ok (.ireturn, 1) := by decide +kernel
theorem d5_reasonNotToEnd_0 : decode b5_reasonNotToEnd 0 = .ok (.iload_n 1, 1) := by decide +kernel
theorem d5_reasonNotToEnd_1 : decode b5_reasonNotToEnd 1 = .ok (.ifCond .ne 27, 3) := by decide +kernel
theorem d5_reasonNotToEnd_28 : decode b5_reasonNotToEnd 28 = .ok (.iload_n 1, 1) := by decide +kernel
theorem d5_reasonNotToEnd_29 : decode b5_reasonNotToEnd 29 = .ok (.iconst 1, 1) := by decide +kernel
theorem d5_reasonNotToEnd_30 : decode b5_reasonNotToEnd 30 = .ok (.isub, 1) := by decide +kernel
theorem d5_reasonNotToEnd_31 : decode b5_reasonNotToEnd 31 = .ok (.istore 4, 2) := by decide +kernel
theorem d5_reasonNotToEnd_33 : decode b5_reasonNotToEnd 33 = .ok (.aload_n 0, 1) := by decide +kernel
theorem d5_reasonNotToEnd_34 : decode b5_reasonNotToEnd 34 = .ok (.getfield 44, 3) := by decide +kernel
theorem d5_reasonNotToEnd_37 : decode b5_reasonNotToEnd 37 = .ok (.getfield 171, 3) := by decide +kernel
theorem d5_reasonNotToEnd_40 : decode b5_reasonNotToEnd 40 = .ok (.iload 4, 2) := by decide +kernel
theorem d5_reasonNotToEnd_42 : decode b5_reasonNotToEnd 42 = .ok (.iaload, 1) := by decide +kernel
theorem d5_reasonNotToEnd_43 : decode b5_reasonNotToEnd 43 = .ok (.istore 5, 2) := by decide +kernel
theorem d5_reasonNotToEnd_45 : decode b5_reasonNotToEnd 45 = .ok (.aload_n 0, 1) := by decide +kernel
theorem d5_reasonNotToEnd_46 : decode b5_reasonNotToEnd 46 = .ok (.getfield 44, 3) := by decide +kernel
theorem d5_reasonNotToEnd_49 : decode b5_reasonNotToEnd 49 = .ok (.iload 4, 2) := by decide +kernel
theorem d5_reasonNotToEnd_51 : decode b5_reasonNotToEnd 51 = .ok (.iload 5, 2) := by decide +kernel
theorem d5_reasonNotToEnd_53 : decode b5_reasonNotToEnd 53 = .ok (.invokevirtual 296, 3) := by decide +kernel
theorem d5_reasonNotToEnd_56 : decode b5_reasonNotToEnd 56 = .ok (.i2l, 1) := by decide +kernel
theorem d5_reasonNotToEnd_57 : decode b5_reasonNotToEnd 57 = .ok (.lload_n 2, 1) := by decide +kernel
theorem d5_reasonNotToEnd_58 : decode b5_reasonNotToEnd 58 = .ok (.ladd, 1) := by decide +kernel
theorem d5_reasonNotToEnd_59 : decode b5_reasonNotToEnd 59 = .ok (.lstore 6, 2) := by decide +kernel
theorem d5_reasonNotToEnd_61 : decode b5_reasonNotToEnd 61 = .ok (.lload 6, 2) := by decide +kernel
theorem d5_reasonNotToEnd_63 : decode b5_reasonNotToEnd 63 = .ok (.ldc2_w 408, 3) := by decide +kernel
theorem d5_reasonNotToEnd_66 : decode b5_reasonNotToEnd 66 = .ok (.lcmp, 1) := by decide +kernel
theorem d5_reasonNotToEnd_67 : decode b5_reasonNotToEnd 67 = .ok (.ifCond .le 5, 3) := by decide +kernel
theorem d5_reasonNotToEnd_72 : decode b5_reasonNotToEnd 72 = .ok (.aload_n 0, 1) := by decide +kernel
theorem d5_reasonNotToEnd_73 : decode b5_reasonNotToEnd 73 = .ok (.iload 4, 2) := by decide +kernel
theorem d5_reasonNotToEnd_75 : decode b5_reasonNotToEnd 75 = .ok (.iload 5, 2) := by decide +kernel
theorem d5_reasonNotToEnd_77 : decode b5_reasonNotToEnd 77 = .ok (.lload 6, 2) := by decide +kernel
theorem d5_reasonNotToEnd_79 : decode b5_reasonNotToEnd 79 = .ok (.l2i, 1) := by decide +kernel
theorem d5_reasonNotToEnd_80 : decode b5_reasonNotToEnd 80 = .ok (.invokevirtual 299, 3) := by decide +kernel
theorem d5_reasonNotToEnd_83 : decode b5_reasonNotToEnd 83 = .ok (.ldc2_w 303, 3) := by decide +kernel
theorem d5_reasonNotToEnd_86 : decode b5_reasonNotToEnd 86 = .ok (.lcmp, 1) := by decide +kernel
theorem d5_reasonNotToEnd_87 : decode b5_reasonNotToEnd 87 = .ok (.ifCond .le 7, 3) := by decide +kernel
theorem d5_reasonNotToEnd_94 : decode b5_reasonNotToEnd 94 = .ok (.iconst 0, 1) := by decide +kernel
theorem d5_reasonNotToEnd_95 : decode b5_reasonNotToEnd 95 = .ok (.ireturn, 1) := by decide +kernel
theorem d5_reasonNotToEnd_90 : decode b5_reasonNotToEnd 90 = .ok (.iconst 3, 1) := by decide +kernel
theorem d5_reasonNotToEnd_91 : decode b5_reasonNotToEnd 91 = .ok (.goto 4, 3) := by decide +kernel
theorem d5_reasonNotToEnd_70 : decode b5_reasonNotToEnd 70 = .ok (.iconst 4, 1) := by decide +kernel
theorem d5_reasonNotToEnd_71 : decode b5_reasonNotToEnd 71 = .ok (.ireturn, 1) := by decide +kernel
theorem d5_reasonNotToEnd_4 : decode b5_reasonNotToEnd 4 = .ok (.aload_n 0, 1) := by decide +kernel
theorem d5_reasonNotToEnd_5 : decode b5_reasonNotToEnd 5 = .ok (.getfield 44, 3) := by decide +kernel
theorem d5_reasonNotToEnd_8 : decode b5_reasonNotToEnd 8 = .ok (.getfield 115, 3) := by decide +kernel
theorem d5_reasonNotToEnd_11 : decode b5_reasonNotToEnd 11 = .ok (.i2l, 1) := by decide +kernel
theorem d5_reasonNotToEnd_12 : decode b5_reasonNotToEnd 12 = .ok (.lload_n 2, 1) := by decide +kernel
theorem d5_reasonNotToEnd_13 : decode b5_reasonNotToEnd 13 = .ok (.ladd, 1) := by decide +kernel
theorem d5_reasonNotToEnd_14 : decode b5_reasonNotToEnd 14 = .ok (.ldc2_w 406, 3) := by decide +kernel
theorem d5_reasonNotToEnd_17 : decode b5_reasonNotToEnd 17 = .ok (.lcmp, 1) := by decide +kernel
theorem d5_reasonNotToEnd_18 : decode b5_reasonNotToEnd 18 = .ok (.ifCond .le 8, 3) := by decide +kernel
theorem d5_reasonNotToEnd_26 : decode b5_reasonNotToEnd 26 = .ok (.iconst 0, 1) := by decide +kernel
theorem d5_reasonNotToEnd_27 : decode b5_reasonNotToEnd 27 = .ok (.ireturn, 1) := by decide +kernel
theorem d5_reasonNotToEnd_21 : decode b5_reasonNotToEnd 21 = .ok (.bipush 9, 2) := by decide +kernel
theorem d5_reasonNotToEnd_23 : decode b5_reasonNotToEnd 23 = .ok (.goto 4, 3) := by decide +kernel
theorem d5_keepForUndo_0 : decode b5_keepForUndo 0 = .ok (.aload_n 0, 1) := by decide +kernel
theorem d5_keepForUndo_1 : decode b5_keepForUndo 1 = .ok (.getfield 13, 3) := by decide +kernel
theorem d5_keepForUndo_4 : decode b5_keepForUndo 4 = .ok (.iconst 0, 1) := by decide +kernel
theorem d5_keepForUndo_5 : decode b5_keepForUndo 5 = .ok (.dup2, 1) := by decide +kernel
theorem d5_keepForUndo_6 : decode b5_keepForUndo 6 = .ok (.iaload, 1) := by decide +kernel
theorem d5_keepForUndo_7 : decode b5_keepForUndo 7 = .ok (.iconst 1, 1) := by decide +kernel
theorem d5_keepForUndo_8 : decode b5_keepForUndo 8 = .ok (.iadd, 1) := by decide +kernel
theorem d5_keepForUndo_9 : decode b5_keepForUndo 9 = .ok (.iastore, 1) := by decide +kernel
theorem d5_keepForUndo_10 : decode b5_keepForUndo 10 = .ok (.aload_n 0, 1) := by decide +kernel
theorem d5_keepForUndo_11 : decode b5_keepForUndo 11 = .ok (.getfield 18, 3) := by decide +kernel
theorem d5_keepForUndo_14 : decode b5_keepForUndo 14 = .ok (.aload_n 0, 1) := by decide +kernel
theorem d5_keepForUndo_15 : decode b5_keepForUndo 15 = .ok (.getfield 375, 3) := by decide +kernel
theorem d5_keepForUndo_18 : decode b5_keepForUndo 18 = .ok (.aaload, 1) := by decide +kernel
theorem d5_keepForUndo_19 : decode b5_keepForUndo 19 = .ok (.aload_n 0, 1) := by decide +kernel
theorem d5_keepForUndo_20 : decode b5_keepForUndo 20 = .ok (.getfield 44, 3) := by decide +kernel
theorem d5_keepForUndo_23 : decode b5_keepForUndo 23 = .ok (.invokevirtual 378, 3) := by decide +kernel
theorem d5_keepForUndo_26 : decode b5_keepForUndo 26 = .ok (.aload_n 0, 1) := by decide +kernel
theorem d5_keepForUndo_27 : decode b5_keepForUndo 27 = .ok (.aload_n 0, 1) := by decide +kernel
theorem d5_keepForUndo_28 : decode b5_keepForUndo 28 = .ok (.getfield 375, 3) := by decide +kernel
theorem d5_keepForUndo_31 : decode b5_keepForUndo 31 = .ok (.iconst 1, 1) := by decide +kernel
theorem d5_keepForUndo_32 : decode b5_keepForUndo 32 = .ok (.iadd, 1) := by decide +kernel
theorem d5_keepForUndo_33 : decode b5_keepForUndo 33 = .ok (.bipush 8, 2) := by decide +kernel
theorem d5_keepForUndo_35 : decode b5_keepForUndo 35 = .ok (.irem, 1) := by decide +kernel
theorem d5_keepForUndo_36 : decode b5_keepForUndo 36 = .ok (.putfield 375, 3) := by decide +kernel
theorem d5_keepForUndo_39 : decode b5_keepForUndo 39 = .ok (.aload_n 0, 1) := by decide +kernel
theorem d5_keepForUndo_40 : decode b5_keepForUndo 40 = .ok (.aload_n 0, 1) := by decide +kernel
theorem d5_keepForUndo_41 : decode b5_keepForUndo 41 = .ok (.getfield 102, 3) := by decide +kernel
theorem d5_keepForUndo_44 : decode b5_keepForUndo 44 = .ok (.iconst 1, 1) := by decide +kernel
theorem d5_keepForUndo_45 : decode b5_keepForUndo 45 = .ok (.iadd, 1) := by decide +kernel
theorem d5_keepForUndo_46 : decode b5_keepForUndo 46 = .ok (.bipush 8, 2) := by decide +kernel
theorem d5_keepForUndo_48 : decode b5_keepForUndo 48 = .ok (.invokestatic 400, 3) := by decide +kernel
theorem d5_keepForUndo_51 : decode b5_keepForUndo 51 = .ok (.putfield 102, 3) := by decide +kernel
theorem d5_keepForUndo_54 : decode b5_keepForUndo 54 = .ok (.return_, 1) := by decide +kernel
theorem d5_endSession_0 : decode b5_endSession 0 = .ok (.aload_n 0, 1) := by decide +kernel
theorem d5_endSession_1 : decode b5_endSession 1 = .ok (.getfield 44, 3) := by decide +kernel
theorem d5_endSession_4 : decode b5_endSession 4 = .ok (.getfield 112, 3) := by decide +kernel
theorem d5_endSession_7 : decode b5_endSession 7 = .ok (.iconst 1, 1) := by decide +kernel
theorem d5_endSession_8 : decode b5_endSession 8 = .ok (.isub, 1) := by decide +kernel
theorem d5_endSession_9 : decode b5_endSession 9 = .ok (.istore_n 1, 1) := by decide +kernel
theorem d5_endSession_10 : decode b5_endSession 10 = .ok (.aload_n 0, 1) := by decide +kernel
theorem d5_endSession_11 : decode b5_endSession 11 = .ok (.iload_n 1, 1) := by decide +kernel
theorem d5_endSession_12 : decode b5_endSession 12 = .ok (.invokevirtual 177, 3) := by decide +kernel
theorem d5_endSession_15 : decode b5_endSession 15 = .ok (.l2i, 1) := by decide +kernel
theorem d5_endSession_16 : decode b5_endSession 16 = .ok (.istore_n 2, 1) := by decide +kernel
theorem d5_endSession_17 : decode b5_endSession 17 = .ok (.aload_n 0, 1) := by decide +kernel
theorem d5_endSession_18 : decode b5_endSession 18 = .ok (.getfield 51, 3) := by decide +kernel
theorem d5_endSession_21 : decode b5_endSession 21 = .ok (.invokevirtual 251, 3) := by decide +kernel
theorem d5_endSession_24 : decode b5_endSession 24 = .ok (.iload_n 1, 1) := by decide +kernel
theorem d5_endSession_25 : decode b5_endSession 25 = .ok (.ifCond .ne 21, 3) := by decide +kernel
theorem d5_endSession_46 : decode b5_endSession 46 = .ok (.aload_n 0, 1) := by decide +kernel
theorem d5_endSession_47 : decode b5_endSession 47 = .ok (.getfield 44, 3) := by decide +kernel
theorem d5_endSession_50 : decode b5_endSession 50 = .ok (.iload_n 1, 1) := by decide +kernel
theorem d5_endSession_51 : decode b5_endSession 51 = .ok (.iconst 1, 1) := by decide +kernel
theorem d5_endSession_52 : decode b5_endSession 52 = .ok (.isub, 1) := by decide +kernel
theorem d5_endSession_53 : decode b5_endSession 53 = .ok (.aload_n 0, 1) := by decide +kernel
theorem d5_endSession_54 : decode b5_endSession 54 = .ok (.getfield 44, 3) := by decide +kernel
theorem d5_endSession_57 : decode b5_endSession 57 = .ok (.getfield 171, 3) := by decide +kernel
theorem d5_endSession_60 : decode b5_endSession 60 = .ok (.iload_n 1, 1) := by decide +kernel
theorem d5_endSession_61 : decode b5_endSession 61 = .ok (.iconst 1, 1) := by decide +kernel
theorem d5_endSession_62 : decode b5_endSession 62 = .ok (.isub, 1) := by decide +kernel
theorem d5_endSession_63 : decode b5_endSession 63 = .ok (.iaload, 1) := by decide +kernel
theorem d5_endSession_64 : decode b5_endSession 64 = .ok (.aload_n 0, 1) := by decide +kernel
theorem d5_endSession_65 : decode b5_endSession 65 = .ok (.getfield 51, 3) := by decide +kernel
theorem d5_endSession_68 : decode b5_endSession 68 = .ok (.getfield 254, 3) := by decide +kernel
theorem d5_endSession_71 : decode b5_endSession 71 = .ok (.iconst 0, 1) := by decide +kernel
theorem d5_endSession_72 : decode b5_endSession 72 = .ok (.iload_n 2, 1) := by decide +kernel
theorem d5_endSession_73 : decode b5_endSession 73 = .ok (.invokevirtual 360, 3) := by decide +kernel
theorem d5_endSession_28 : decode b5_endSession 28 = .ok (.aload_n 0, 1) := by decide +kernel
theorem d5_endSession_29 : decode b5_endSession 29 = .ok (.getfield 44, 3) := by decide +kernel
theorem d5_endSession_32 : decode b5_endSession 32 = .ok (.aload_n 0, 1) := by decide +kernel
theorem d5_endSession_33 : decode b5_endSession 33 = .ok (.getfield 51, 3) := by decide +kernel
theorem d5_endSession_36 : decode b5_endSession 36 = .ok (.getfield 254, 3) := by decide +kernel
theorem d5_endSession_39 : decode b5_endSession 39 = .ok (.iload_n 2, 1) := by decide +kernel
theorem d5_endSession_40 : decode b5_endSession 40 = .ok (.invokevirtual 410, 3) := by decide +kernel
theorem d5_endSession_43 : decode b5_endSession 43 = .ok (.goto 33, 3) := by decide +kernel
theorem d5_endSession_76 : decode b5_endSession 76 = .ok (.aload_n 0, 1) := by decide +kernel
theorem d5_endSession_77 : decode b5_endSession 77 = .ok (.getfield 44, 3) := by decide +kernel
theorem d5_endSession_80 : decode b5_endSession 80 = .ok (.iload_n 1, 1) := by decide +kernel
theorem d5_endSession_81 : decode b5_endSession 81 = .ok (.putfield 112, 3) := by decide +kernel
theorem d5_endSession_84 : decode b5_endSession 84 = .ok (.return_, 1) := by decide +kernel
theorem d5_expand_0 : decode b5_expand 0 = .ok (.aload_n 0, 1) := by decide +kernel
theorem d5_expand_1 : decode b5_expand 1 = .ok (.iload_n 1, 1) := by decide +kernel
theorem d5_expand_2 : decode b5_expand 2 = .ok (.invokevirtual 124, 3) := by decide +kernel
theorem d5_expand_5 : decode b5_expand 5 = .ok (.astore_n 2, 1) := by decide +kernel
theorem d5_expand_6 : decode b5_expand 6 = .ok (.aload_n 0, 1) := by decide +kernel
theorem d5_expand_7 : decode b5_expand 7 = .ok (.getfield 44, 3) := by decide +kernel
theorem d5_expand_10 : decode b5_expand 10 = .ok (.getfield 112, 3) := by decide +kernel
theorem d5_expand_13 : decode b5_expand 13 = .ok (.iconst 4, 1) := by decide +kernel
theorem d5_expand_14 : decode b5_expand 14 = .ok (.if_icmp .lt 9, 3) := by decide +kernel
theorem d5_expand_23 : decode b5_expand 23 = .ok (.aload_n 0, 1) := by decide +kernel
theorem d5_expand_24 : decode b5_expand 24 = .ok (.getfield 51, 3) := by decide +kernel
theorem d5_expand_27 : decode b5_expand 27 = .ok (.aload_n 2, 1) := by decide +kernel
theorem d5_expand_28 : decode b5_expand 28 = .ok (.invokevirtual 312, 3) := by decide +kernel
theorem d5_expand_31 : decode b5_expand 31 = .ok (.aload_n 0, 1) := by decide +kernel
theorem d5_expand_32 : decode b5_expand 32 = .ok (.getfield 51, 3) := by decide +kernel
theorem d5_expand_35 : decode b5_expand 35 = .ok (.invokevirtual 309, 3) := by decide +kernel
theorem d5_expand_38 : decode b5_expand 38 = .ok (.aload_n 0, 1) := by decide +kernel
theorem d5_expand_39 : decode b5_expand 39 = .ok (.getfield 51, 3) := by decide +kernel
theorem d5_expand_42 : decode b5_expand 42 = .ok (.getfield 247, 3) := by decide +kernel
theorem d5_expand_45 : decode b5_expand 45 = .ok (.ldc2_w 303, 3) := by decide +kernel
theorem d5_expand_48 : decode b5_expand 48 = .ok (.lcmp, 1) := by decide +kernel
theorem d5_expand_49 : decode b5_expand 49 = .ok (.ifCond .le 9, 3) := by decide +kernel
theorem d5_expand_58 : decode b5_expand 58 = .ok (.aload_n 0, 1) := by decide +kernel
theorem d5_expand_59 : decode b5_expand 59 = .ok (.getfield 51, 3) := by decide +kernel
theorem d5_expand_62 : decode b5_expand 62 = .ok (.getfield 275, 3) := by decide +kernel
theorem d5_expand_65 : decode b5_expand 65 = .ok (.ifCond .ne 7, 3) := by decide +kernel
theorem d5_expand_72 : decode b5_expand 72 = .ok (.iconst 0, 1) := by decide +kernel
theorem d5_expand_68 : decode b5_expand 68 = .ok (.iconst 1, 1) := by decide +kernel
theorem d5_expand_69 : decode b5_expand 69 = .ok (.goto 4, 3) := by decide +kernel
theorem d5_expand_52 : decode b5_expand 52 = .ok (.aload_n 0, 1) := by decide +kernel
theorem d5_expand_53 : decode b5_expand 53 = .ok (.iconst 3, 1) := by decide +kernel
theorem d5_expand_54 : decode b5_expand 54 = .ok (.invokevirtual 324, 3) := by decide +kernel
theorem d5_expand_57 : decode b5_expand 57 = .ok (.ireturn, 1) := by decide +kernel
theorem d5_expand_17 : decode b5_expand 17 = .ok (.aload_n 0, 1) := by decide +kernel
theorem d5_expand_18 : decode b5_expand 18 = .ok (.iconst 2, 1) := by decide +kernel
theorem d5_expand_19 : decode b5_expand 19 = .ok (.invokevirtual 324, 3) := by decide +kernel
theorem d5_expand_22 : decode b5_expand 22 = .ok (.ireturn, 1) := by decide +kernel
theorem d5_expand_73 : decode b5_expand 73 = .ok (.istore_n 3, 1) := by decide +kernel
theorem d5_expand_74 : decode b5_expand 74 = .ok (.iload_n 3, 1) := by decide +kernel
