theorem d2_clear_0 : decode b2_clear 0 = .ok (.aload_n 0, 1) := by decide +kernel
theorem d2_clear_1 : decode b2_clear 1 = .ok (.iconst 0, 1) := by decide +kernel
theorem d2_clear_2 : decode b2_clear 2 = .ok (.putfield 49, 3) := by decide +kernel
theorem d2_clear_5 : decode b2_clear 5 = .ok (.aload_n 0, 1) := by decide +kernel
theorem d2_clear_6 : decode b2_clear 6 = .ok (.iconst 0, 1) := by decide +kernel
theorem d2_clear_7 : decode b2_clear 7 = .ok (.putfield 53, 3) := by decide +kernel
theorem d2_clear_10 : decode b2_clear 10 = .ok (.aload_n 0, 1) := by decide +kernel
theorem d2_clear_11 : decode b2_clear 11 = .ok (.iload_n 1, 1) := by decide +kernel
theorem d2_clear_12 : decode b2_clear 12 = .ok (.putfield 56, 3) := by decide +kernel
theorem d2_clear_15 : decode b2_clear 15 = .ok (.aload_n 0, 1) := by decide +kernel
theorem d2_clear_16 : decode b2_clear 16 = .ok (.iload_n 1, 1) := by decide +kernel
theorem d2_clear_17 : decode b2_clear 17 = .ok (.putfield 59, 3) := by decide +kernel
theorem d2_clear_20 : decode b2_clear 20 = .ok (.iconst 0, 1) := by decide +kernel
theorem d2_clear_21 : decode b2_clear 21 = .ok (.istore_n 2, 1) := by decide +kernel
theorem d2_clear_22 : decode b2_clear 22 = .ok (.iload_n 2, 1) := by decide +kernel
theorem d2_clear_23 : decode b2_clear 23 = .ok (.bipush 10, 2) := by decide +kernel
theorem d2_clear_25 : decode b2_clear 25 = .ok (.if_icmp .ge 16, 3) := by decide +kernel
theorem d2_clear_41 : decode b2_clear 41 = .ok (.iconst 0, 1) := by decide +kernel
theorem d2_clear_42 : decode b2_clear 42 = .ok (.istore_n 2, 1) := by decide +kernel
theorem d2_clear_28 : decode b2_clear 28 = .ok (.aload_n 0, 1) := by decide +kernel
theorem d2_clear_29 : decode b2_clear 29 = .ok (.getfield 31, 3) := by decide +kernel
theorem d2_clear_32 : decode b2_clear 32 = .ok (.iload_n 2, 1) := by decide +kernel
theorem d2_clear_33 : decode b2_clear 33 = .ok (.iconst 0, 1) := by decide +kernel
theorem d2_clear_34 : decode b2_clear 34 = .ok (.iastore, 1) := by decide +kernel
theorem d2_clear_35 : decode b2_clear 35 = .ok (.iinc 2 1, 3) := by decide +kernel
theorem d2_clear_38 : decode b2_clear 38 = .ok (.goto (-16), 3) := by decide +kernel
theorem d2_clear_43 : decode b2_clear 43 = .ok (.iload_n 2, 1) := by decide +kernel
theorem d2_clear_44 : decode b2_clear 44 = .ok (.bipush 60, 2) := by decide +kernel
theorem d2_clear_46 : decode b2_clear 46 = .ok (.if_icmp .gt 16, 3) := by decide +kernel
theorem d2_clear_62 : decode b2_clear 62 = .ok (.return_, 1) := by decide +kernel
theorem d2_clear_49 : decode b2_clear 49 = .ok (.aload_n 0, 1) := by decide +kernel
theorem d2_clear_50 : decode b2_clear 50 = .ok (.getfield 34, 3) := by decide +kernel
theorem d2_clear_53 : decode b2_clear 53 = .ok (.iload_n 2, 1) := by decide +kernel
theorem d2_clear_54 : decode b2_clear 54 = .ok (.iconst 0, 1) := by decide +kernel
theorem d2_clear_55 : decode b2_clear 55 = .ok (.iastore, 1) := by decide +kernel
theorem d2_clear_56 : decode b2_clear 56 = .ok (.iinc 2 1, 3) := by decide +kernel
theorem d2_clear_59 : decode b2_clear 59 = .ok (.goto (-16), 3) := by decide +kernel
theorem d2_setName_0 : decode b2_setName 0 = .ok (.aload_n 0, 1) := by decide +kernel
theorem d2_setName_1 : decode b2_setName 1 = .ok (.iload_n 3, 1) := by decide +kernel
theorem d2_setName_2 : decode b2_setName 2 = .ok (.bipush 8, 2) := by decide +kernel
theorem d2_setName_4 : decode b2_setName 4 = .ok (.invokestatic 62, 3) := by decide +kernel
theorem d2_setName_7 : decode b2_setName 7 = .ok (.putfield 68, 3) := by decide +kernel
theorem d2_setName_10 : decode b2_setName 10 = .ok (.iconst 0, 1) := by decide +kernel
theorem d2_setName_11 : decode b2_setName 11 = .ok (.istore 4, 2) := by decide +kernel
theorem d2_setName_13 : decode b2_setName 13 = .ok (.iload 4, 2) := by decide +kernel
theorem d2_setName_15 : decode b2_setName 15 = .ok (.aload_n 0, 1) := by decide +kernel
theorem d2_setName_16 : decode b2_setName 16 = .ok (.getfield 68, 3) := by decide +kernel
theorem d2_setName_19 : decode b2_setName 19 = .ok (.if_icmp .ge 22, 3) := by decide +kernel
theorem d2_setName_41 : decode b2_setName 41 = .ok (.return_, 1) := by decide +kernel
theorem d2_setName_22 : decode b2_setName 22 = .ok (.aload_n 0, 1) := by decide +kernel
theorem d2_setName_23 : decode b2_setName 23 = .ok (.getfield 9, 3) := by decide +kernel
theorem d2_setName_26 : decode b2_setName 26 = .ok (.iload 4, 2) := by decide +kernel
theorem d2_setName_28 : decode b2_setName 28 = .ok (.aload_n 1, 1) := by decide +kernel
theorem d2_setName_29 : decode b2_setName 29 = .ok (.iload_n 2, 1) := by decide +kernel
theorem d2_setName_30 : decode b2_setName 30 = .ok (.iload 4, 2) := by decide +kernel
theorem d2_setName_32 : decode b2_setName 32 = .ok (.iadd, 1) := by decide +kernel
theorem d2_setName_33 : decode b2_setName 33 = .ok (.iaload, 1) := by decide +kernel
theorem d2_setName_34 : decode b2_setName 34 = .ok (.iastore, 1) := by decide +kernel
theorem d2_setName_35 : decode b2_setName 35 = .ok (.iinc 4 1, 3) := by decide +kernel
theorem d2_setName_38 : decode b2_setName 38 = .ok (.goto (-25), 3) := by decide +kernel
theorem d2_isNamed_0 : decode b2_isNamed 0 = .ok (.iload_n 3, 1) := by decide +kernel
theorem d2_isNamed_1 : decode b2_isNamed 1 = .ok (.aload_n 0, 1) := by decide +kernel
theorem d2_isNamed_2 : decode b2_isNamed 2 = .ok (.getfield 68, 3) := by decide +kernel
theorem d2_isNamed_5 : decode b2_isNamed 5 = .ok (.if_icmp .eq 5, 3) := by decide +kernel
theorem d2_isNamed_10 : decode b2_isNamed 10 = .ok (.iconst 0, 1) := by decide +kernel
theorem d2_isNamed_11 : decode b2_isNamed 11 = .ok (.istore 4, 2) := by decide +kernel
theorem d2_isNamed_8 : decode b2_isNamed 8 = .ok (.iconst 0, 1) := by decide +kernel
theorem d2_isNamed_9 : decode b2_isNamed 9 = .ok (.ireturn, 1) := by decide +kernel
theorem d2_isNamed_13 : decode b2_isNamed 13 = .ok (.iload 4, 2) := by decide +kernel
theorem d2_isNamed_15 : decode b2_isNamed 15 = .ok (.aload_n 0, 1) := by decide +kernel
theorem d2_isNamed_16 : decode b2_isNamed 16 = .ok (.getfield 68, 3) := by decide +kernel
theorem d2_isNamed_19 : decode b2_isNamed 19 = .ok (.if_icmp .ge 27, 3) := by decide +kernel
theorem d2_isNamed_46 : decode b2_isNamed 46 = .ok (.iconst 1, 1) := by decide +kernel
theorem d2_isNamed_47 : decode b2_isNamed 47 = .ok (.ireturn, 1) := by decide +kernel
theorem d2_isNamed_22 : decode b2_isNamed 22 = .ok (.aload_n 0, 1) := by decide +kernel
theorem d2_isNamed_23 : decode b2_isNamed 23 = .ok (.getfield 9, 3) := by decide +kernel
theorem d2_isNamed_26 : decode b2_isNamed 26 = .ok (.iload 4, 2) := by decide +kernel
theorem d2_isNamed_28 : decode b2_isNamed 28 = .ok (.iaload, 1) := by decide +kernel
theorem d2_isNamed_29 : decode b2_isNamed 29 = .ok (.aload_n 1, 1) := by decide +kernel
theorem d2_isNamed_30 : decode b2_isNamed 30 = .ok (.iload_n 2, 1) := by decide +kernel
theorem d2_isNamed_31 : decode b2_isNamed 31 = .ok (.iload 4, 2) := by decide +kernel
theorem d2_isNamed_33 : decode b2_isNamed 33 = .ok (.iadd, 1) := by decide +kernel
theorem d2_isNamed_34 : decode b2_isNamed 34 = .ok (.iaload, 1) := by decide +kernel
theorem d2_isNamed_35 : decode b2_isNamed 35 = .ok (.if_icmp .eq 5, 3) := by decide +kernel
theorem d2_isNamed_40 : decode b2_isNamed 40 = .ok (.iinc 4 1, 3) := by decide +kernel
theorem d2_isNamed_43 : decode b2_isNamed 43 = .ok (.goto (-30), 3) := by decide +kernel
theorem d2_isNamed_38 : decode b2_isNamed 38 = .ok (.iconst 0, 1) := by decide +kernel
theorem d2_isNamed_39 : decode b2_isNamed 39 = .ok (.ireturn, 1) := by decide +kernel
theorem d2_addLiteral_0 : decode b2_addLiteral 0 = .ok (.aload_n 0, 1) := by decide +kernel
theorem d2_addLiteral_1 : decode b2_addLiteral 1 = .ok (.getfield 59, 3) := by decide +kernel
theorem d2_addLiteral_4 : decode b2_addLiteral 4 = .ok (.aload_n 0, 1) := by decide +kernel
theorem d2_addLiteral_5 : decode b2_addLiteral 5 = .ok (.getfield 43, 3) := by decide +kernel
theorem d2_addLiteral_8 : decode b2_addLiteral 8 = .ok (.arraylength, 1) := by decide +kernel
theorem d2_addLiteral_9 : decode b2_addLiteral 9 = .ok (.if_icmp .ge 45, 3) := by decide +kernel
theorem d2_addLiteral_54 : decode b2_addLiteral 54 = .ok (.return_, 1) := by decide +kernel
theorem d2_addLiteral_12 : decode b2_addLiteral 12 = .ok (.aload_n 0, 1) := by decide +kernel
theorem d2_addLiteral_13 : decode b2_addLiteral 13 = .ok (.getfield 43, 3) := by decide +kernel
theorem d2_addLiteral_16 : decode b2_addLiteral 16 = .ok (.aload_n 0, 1) := by decide +kernel
theorem d2_addLiteral_17 : decode b2_addLiteral 17 = .ok (.getfield 59, 3) := by decide +kernel
theorem d2_addLiteral_20 : decode b2_addLiteral 20 = .ok (.iload_n 1, 1) := by decide +kernel
theorem d2_addLiteral_21 : decode b2_addLiteral 21 = .ok (.iastore, 1) := by decide +kernel
theorem d2_addLiteral_22 : decode b2_addLiteral 22 = .ok (.aload_n 0, 1) := by decide +kernel
theorem d2_addLiteral_23 : decode b2_addLiteral 23 = .ok (.getfield 46, 3) := by decide +kernel
theorem d2_addLiteral_26 : decode b2_addLiteral 26 = .ok (.aload_n 0, 1) := by decide +kernel
theorem d2_addLiteral_27 : decode b2_addLiteral 27 = .ok (.getfield 59, 3) := by decide +kernel
theorem d2_addLiteral_30 : decode b2_addLiteral 30 = .ok (.iload_n 2, 1) := by decide +kernel
theorem d2_addLiteral_31 : decode b2_addLiteral 31 = .ok (.iastore, 1) := by decide +kernel
theorem d2_addLiteral_32 : decode b2_addLiteral 32 = .ok (.aload_n 0, 1) := by decide +kernel
theorem d2_addLiteral_33 : decode b2_addLiteral 33 = .ok (.dup, 1) := by decide +kernel
theorem d2_addLiteral_34 : decode b2_addLiteral 34 = .ok (.getfield 59, 3) := by decide +kernel
theorem d2_addLiteral_37 : decode b2_addLiteral 37 = .ok (.iconst 1, 1) := by decide +kernel
theorem d2_addLiteral_38 : decode b2_addLiteral 38 = .ok (.iadd, 1) := by decide +kernel
theorem d2_addLiteral_39 : decode b2_addLiteral 39 = .ok (.putfield 59, 3) := by decide +kernel
theorem d2_addLiteral_42 : decode b2_addLiteral 42 = .ok (.aload_n 0, 1) := by decide +kernel
theorem d2_addLiteral_43 : decode b2_addLiteral 43 = .ok (.getfield 34, 3) := by decide +kernel
theorem d2_addLiteral_46 : decode b2_addLiteral 46 = .ok (.iload_n 2, 1) := by decide +kernel
theorem d2_addLiteral_47 : decode b2_addLiteral 47 = .ok (.iconst 1, 1) := by decide +kernel
theorem d2_addLiteral_48 : decode b2_addLiteral 48 = .ok (.iadd, 1) := by decide +kernel
theorem d2_addLiteral_49 : decode b2_addLiteral 49 = .ok (.dup2, 1) := by decide +kernel
theorem d2_addLiteral_50 : decode b2_addLiteral 50 = .ok (.iaload, 1) := by decide +kernel
theorem d2_addLiteral_51 : decode b2_addLiteral 51 = .ok (.iconst 1, 1) := by decide +kernel
theorem d2_addLiteral_52 : decode b2_addLiteral 52 = .ok (.iadd, 1) := by decide +kernel
theorem d2_addLiteral_53 : decode b2_addLiteral 53 = .ok (.iastore, 1) := by decide +kernel
theorem d2_addOccurrence_0 : decode b2_addOccurrence 0 = .ok (.aload_n 0, 1) := by decide +kernel
theorem d2_addOccurrence_1 : decode b2_addOccurrence 1 = .ok (.getfield 49, 3) := by decide +kernel
theorem d2_addOccurrence_4 : decode b2_addOccurrence 4 = .ok (.istore_n 3, 1) := by decide +kernel
theorem d2_addOccurrence_5 : decode b2_addOccurrence 5 = .ok (.iload_n 3, 1) := by decide +kernel
theorem d2_addOccurrence_6 : decode b2_addOccurrence 6 = .ok (.bipush 60, 2) := by decide +kernel
theorem d2_addOccurrence_8 : decode b2_addOccurrence 8 = .ok (.if_icmp .ge 15, 3) := by decide +kernel
theorem d2_addOccurrence_23 : decode b2_addOccurrence 23 = .ok (.iconst (-1), 1) := by decide +kernel
theorem d2_addOccurrence_24 : decode b2_addOccurrence 24 = .ok (.ireturn, 1) := by decide +kernel
theorem d2_addOccurrence_11 : decode b2_addOccurrence 11 = .ok (.aload_n 0, 1) := by decide +kernel
theorem d2_addOccurrence_12 : decode b2_addOccurrence 12 = .ok (.getfield 59, 3) := by decide +kernel
theorem d2_addOccurrence_15 : decode b2_addOccurrence 15 = .ok (.aload_n 0, 1) := by decide +kernel
theorem d2_addOccurrence_16 : decode b2_addOccurrence 16 = .ok (.getfield 43, 3) := by decide +kernel
theorem d2_addOccurrence_19 : decode b2_addOccurrence 19 = .ok (.arraylength, 1) := by decide +kernel
theorem d2_addOccurrence_20 : decode b2_addOccurrence 20 = .ok (.if_icmp .lt 5, 3) := by decide +kernel
theorem d2_addOccurrence_25 : decode b2_addOccurrence 25 = .ok (.aload_n 0, 1) := by decide +kernel
theorem d2_addOccurrence_26 : decode b2_addOccurrence 26 = .ok (.getfield 15, 3) := by decide +kernel
theorem d2_addOccurrence_29 : decode b2_addOccurrence 29 = .ok (.iload_n 3, 1) := by decide +kernel
theorem d2_addOccurrence_30 : decode b2_addOccurrence 30 = .ok (.iload_n 1, 1) := by decide +kernel
theorem d2_addOccurrence_31 : decode b2_addOccurrence 31 = .ok (.iastore, 1) := by decide +kernel
theorem d2_addOccurrence_32 : decode b2_addOccurrence 32 = .ok (.aload_n 0, 1) := by decide +kernel
theorem d2_addOccurrence_33 : decode b2_addOccurrence 33 = .ok (.getfield 18, 3) := by decide +kernel
theorem d2_addOccurrence_36 : decode b2_addOccurrence 36 = .ok (.iload_n 3, 1) := by decide +kernel
theorem d2_addOccurrence_37 : decode b2_addOccurrence 37 = .ok (.iconst 0, 1) := by decide +kernel
theorem d2_addOccurrence_38 : decode b2_addOccurrence 38 = .ok (.iastore, 1) := by decide +kernel
theorem d2_addOccurrence_39 : decode b2_addOccurrence 39 = .ok (.aload_n 0, 1) := by decide +kernel
theorem d2_addOccurrence_40 : decode b2_addOccurrence 40 = .ok (.getfield 21, 3) := by decide +kernel
theorem d2_addOccurrence_43 : decode b2_addOccurrence 43 = .ok (.iload_n 3, 1) := by decide +kernel
theorem d2_addOccurrence_44 : decode b2_addOccurrence 44 = .ok (.iconst 0, 1) := by decide +kernel
theorem d2_addOccurrence_45 : decode b2_addOccurrence 45 = .ok (.bastore, 1) := by decide +kernel
theorem d2_addOccurrence_46 : decode b2_addOccurrence 46 = .ok (.aload_n 0, 1) := by decide +kernel
theorem d2_addOccurrence_47 : decode b2_addOccurrence 47 = .ok (.getfield 25, 3) := by decide +kernel
theorem d2_addOccurrence_50 : decode b2_addOccurrence 50 = .ok (.iload_n 3, 1) := by decide +kernel
theorem d2_addOccurrence_51 : decode b2_addOccurrence 51 = .ok (.iload_n 2, 1) := by decide +kernel
theorem d2_addOccurrence_52 : decode b2_addOccurrence 52 = .ok (.iastore, 1) := by decide +kernel
theorem d2_addOccurrence_53 : decode b2_addOccurrence 53 = .ok (.aload_n 0, 1) := by decide +kernel
theorem d2_addOccurrence_54 : decode b2_addOccurrence 54 = .ok (.getfield 28, 3) := by decide +kernel
theorem d2_addOccurrence_57 : decode b2_addOccurrence 57 = .ok (.iload_n 3, 1) := by decide +kernel
theorem d2_addOccurrence_58 : decode b2_addOccurrence 58 = .ok (.iload_n 2, 1) := by decide +kernel
theorem d2_addOccurrence_59 : decode b2_addOccurrence 59 = .ok (.iconst (-1), 1) := by decide +kernel
theorem d2_addOccurrence_60 : decode b2_addOccurrence 60 = .ok (.if_icmp .ne 7, 3) := by decide +kernel
theorem d2_addOccurrence_67 : decode b2_addOccurrence 67 = .ok (.aload_n 0, 1) := by decide +kernel
theorem d2_addOccurrence_68 : decode b2_addOccurrence 68 = .ok (.getfield 28, 3) := by decide +kernel
theorem d2_addOccurrence_71 : decode b2_addOccurrence 71 = .ok (.iload_n 2, 1) := by decide +kernel
theorem d2_addOccurrence_72 : decode b2_addOccurrence 72 = .ok (.iaload, 1) := by decide +kernel
theorem d2_addOccurrence_73 : decode b2_addOccurrence 73 = .ok (.iconst 1, 1) := by decide +kernel
theorem d2_addOccurrence_74 : decode b2_addOccurrence 74 = .ok (.iadd, 1) := by decide +kernel
theorem d2_addOccurrence_63 : decode b2_addOccurrence 63 = .ok (.iconst 0, 1) := by decide +kernel
theorem d2_addOccurrence_64 : decode b2_addOccurrence 64 = .ok (.goto 11, 3) := by decide +kernel
theorem d2_addOccurrence_75 : decode b2_addOccurrence 75 = .ok (.iastore, 1) := by decide +kernel
theorem d2_addOccurrence_76 : decode b2_addOccurrence 76 = .ok (.aload_n 0, 1) := by decide +kernel
theorem d2_addOccurrence_77 : decode b2_addOccurrence 77 = .ok (.getfield 43, 3) := by decide +kernel
theorem d2_addOccurrence_80 : decode b2_addOccurrence 80 = .ok (.aload_n 0, 1) := by decide +kernel
theorem d2_addOccurrence_81 : decode b2_addOccurrence 81 = .ok (.getfield 59, 3) := by decide +kernel
theorem d2_addOccurrence_84 : decode b2_addOccurrence 84 = .ok (.iload_n 3, 1) := by decide +kernel
theorem d2_addOccurrence_85 : decode b2_addOccurrence 85 = .ok (.ineg, 1) := by decide +kernel
theorem d2_addOccurrence_86 : decode b2_addOccurrence 86 = .ok (.iconst 1, 1) := by decide +kernel
theorem d2_addOccurrence_87 : decode b2_addOccurrence 87 = .ok (.isub, 1) := by decide +kernel
theorem d2_addOccurrence_88 : decode b2_addOccurrence 88 = .ok (.iastore, 1) := by decide +kernel
theorem d2_addOccurrence_89 : decode b2_addOccurrence 89 = .ok (.aload_n 0, 1) := by decide +kernel
theorem d2_addOccurrence_90 : decode b2_addOccurrence 90 = .ok (.getfield 46, 3) := by decide +kernel
theorem d2_addOccurrence_93 : decode b2_addOccurrence 93 = .ok (.aload_n 0, 1) := by decide +kernel
theorem d2_addOccurrence_94 : decode b2_addOccurrence 94 = .ok (.getfield 59, 3) := by decide +kernel
theorem d2_addOccurrence_97 : decode b2_addOccurrence 97 = .ok (.iload_n 2, 1) := by decide +kernel
theorem d2_addOccurrence_98 : decode b2_addOccurrence 98 = .ok (.iastore, 1) := by decide +kernel
theorem d2_addOccurrence_99 : decode b2_addOccurrence 99 = .ok (.aload_n 0, 1) := by decide +kernel
theorem d2_addOccurrence_100 : decode b2_addOccurrence 100 = .ok (.getfield 37, 3) := by decide +kernel
theorem d2_addOccurrence_103 : decode b2_addOccurrence 103 = .ok (.iload_n 3, 1) := by decide +kernel
theorem d2_addOccurrence_104 : decode b2_addOccurrence 104 = .ok (.aload_n 0, 1) := by decide +kernel
theorem d2_addOccurrence_105 : decode b2_addOccurrence 105 = .ok (.getfield 59, 3) := by decide +kernel
theorem d2_addOccurrence_108 : decode b2_addOccurrence 108 = .ok (.iastore, 1) := by decide +kernel
theorem d2_addOccurrence_109 : decode b2_addOccurrence 109 = .ok (.aload_n 0, 1) := by decide +kernel
theorem d2_addOccurrence_110 : decode b2_addOccurrence 110 = .ok (.dup, 1) := by decide +kernel
theorem d2_addOccurrence_111 : decode b2_addOccurrence 111 = .ok (.getfield 59, 3) := by decide +kernel
theorem d2_addOccurrence_114 : decode b2_addOccurrence 114 = .ok (.iconst 1, 1) := by decide +kernel
theorem d2_addOccurrence_115 : decode b2_addOccurrence 115 = .ok (.iadd, 1) := by decide +kernel
theorem d2_addOccurrence_116 : decode b2_addOccurrence 116 = .ok (.putfield 59, 3) := by decide +kernel
theorem d2_addOccurrence_119 : decode b2_addOccurrence 119 = .ok (.aload_n 0, 1) := by decide +kernel
theorem d2_addOccurrence_120 : decode b2_addOccurrence 120 = .ok (.dup, 1) := by decide +kernel
theorem d2_addOccurrence_121 : decode b2_addOccurrence 121 = .ok (.getfield 49, 3) := by decide +kernel
theorem d2_addOccurrence_124 : decode b2_addOccurrence 124 = .ok (.iconst 1, 1) := by decide +kernel
theorem d2_addOccurrence_125 : decode b2_addOccurrence 125 = .ok (.iadd, 1) := by decide +kernel
theorem d2_addOccurrence_126 : decode b2_addOccurrence 126 = .ok (.putfield 49, 3) := by decide +kernel
theorem d2_addOccurrence_129 : decode b2_addOccurrence 129 = .ok (.aload_n 0, 1) := by decide +kernel
theorem d2_addOccurrence_130 : decode b2_addOccurrence 130 = .ok (.dup, 1) := by decide +kernel
theorem d2_addOccurrence_131 : decode b2_addOccurrence 131 = .ok (.getfield 53, 3) := by decide +kernel
theorem d2_addOccurrence_134 : decode b2_addOccurrence 134 = .ok (.iconst 1, 1) := by decide +kernel
theorem d2_addOccurrence_135 : decode b2_addOccurrence 135 = .ok (.iload_n 1, 1) := by decide +kernel
theorem d2_addOccurrence_136 : decode b2_addOccurrence 136 = .ok (.ishl, 1) := by decide +kernel
theorem d2_addOccurrence_137 : decode b2_addOccurrence 137 = .ok (.ior, 1) := by decide +kernel
theorem d2_addOccurrence_138 : decode b2_addOccurrence 138 = .ok (.putfield 53, 3) := by decide +kernel
theorem d2_addOccurrence_141 : decode b2_addOccurrence 141 = .ok (.iload_n 3, 1) := by decide +kernel
theorem d2_addOccurrence_142 : decode b2_addOccurrence 142 = .ok (.ireturn, 1) := by decide +kernel
theorem d2_addDependence_0 : decode b2_addDependence 0 = .ok (.aload_n 0, 1) := by decide +kernel
theorem d2_addDependence_1 : decode b2_addDependence 1 = .ok (.getfield 31, 3) := by decide +kernel
theorem d2_addDependence_4 : decode b2_addDependence 4 = .ok (.iload_n 2, 1) := by decide +kernel
theorem d2_addDependence_5 : decode b2_addDependence 5 = .ok (.iaload, 1) := by decide +kernel
theorem d2_addDependence_6 : decode b2_addDependence 6 = .ok (.iconst 1, 1) := by decide +kernel
theorem d2_addDependence_7 : decode b2_addDependence 7 = .ok (.iload_n 2, 1) := by decide +kernel
theorem d2_addDependence_8 : decode b2_addDependence 8 = .ok (.ishl, 1) := by decide +kernel
theorem d2_addDependence_9 : decode b2_addDependence 9 = .ok (.ior, 1) := by decide +kernel
theorem d2_addDependence_10 : decode b2_addDependence 10 = .ok (.istore_n 3, 1) := by decide +kernel
theorem d2_addDependence_11 : decode b2_addDependence 11 = .ok (.iconst 0, 1) := by decide +kernel
theorem d2_addDependence_12 : decode b2_addDependence 12 = .ok (.istore 4, 2) := by decide +kernel
theorem d2_addDependence_14 : decode b2_addDependence 14 = .ok (.iload 4, 2) := by decide +kernel
theorem d2_addDependence_16 : decode b2_addDependence 16 = .ok (.bipush 10, 2) := by decide +kernel
theorem d2_addDependence_18 : decode b2_addDependence 18 = .ok (.if_icmp .ge 40, 3) := by decide +kernel
theorem d2_addDependence_58 : decode b2_addDependence 58 = .ok (.return_, 1) := by decide +kernel
theorem d2_addDependence_21 : decode b2_addDependence 21 = .ok (.iload 4, 2) := by decide +kernel
theorem d2_addDependence_23 : decode b2_addDependence 23 = .ok (.iload_n 1, 1) := by decide +kernel
theorem d2_addDependence_24 : decode b2_addDependence 24 = .ok (.if_icmp .eq 17, 3) := by decide +kernel
theorem d2_addDependence_27 : decode b2_addDependence 27 = .ok (.aload_n 0, 1) := by decide +kernel
theorem d2_addDependence_28 : decode b2_addDependence 28 = .ok (.getfield 31, 3) := by decide +kernel
theorem d2_addDependence_31 : decode b2_addDependence 31 = .ok (.iload 4, 2) := by decide +kernel
theorem d2_addDependence_33 : decode b2_addDependence 33 = .ok (.iaload, 1) := by decide +kernel
theorem d2_addDependence_34 : decode b2_addDependence 34 = .ok (.iload_n 1, 1) := by decide +kernel
theorem d2_addDependence_35 : decode b2_addDependence 35 = .ok (.ishr, 1) := by decide +kernel
theorem d2_addDependence_36 : decode b2_addDependence 36 = .ok (.iconst 1, 1) := by decide +kernel
theorem d2_addDependence_37 : decode b2_addDependence 37 = .ok (.iand, 1) := by decide +kernel
theorem d2_addDependence_38 : decode b2_addDependence 38 = .ok (.ifCond .eq 14, 3) := by decide +kernel
theorem d2_addDependence_52 : decode b2_addDependence 52 = .ok (.iinc 4 1, 3) := by decide +kernel
theorem d2_addDependence_55 : decode b2_addDependence 55 = .ok (.goto (-41), 3) := by decide +kernel
theorem d2_addDependence_41 : decode b2_addDependence 41 = .ok (.aload_n 0, 1) := by decide +kernel
theorem d2_addDependence_42 : decode b2_addDependence 42 = .ok (.getfield 31, 3) := by decide +kernel
theorem d2_addDependence_45 : decode b2_addDependence 45 = .ok (.iload 4, 2) := by decide +kernel
theorem d2_addDependence_47 : decode b2_addDependence 47 = .ok (.dup2, 1) := by decide +kernel
theorem d2_addDependence_48 : decode b2_addDependence 48 = .ok (.iaload, 1) := by decide +kernel
theorem d2_addDependence_49 : decode b2_addDependence 49 = .ok (.iload_n 3, 1) := by decide +kernel
theorem d2_addDependence_50 : decode b2_addDependence 50 = .ok (.ior, 1) := by decide +kernel
theorem d2_addDependence_51 : decode b2_addDependence 51 = .ok (.iastore, 1) := by decide +kernel
theorem d2_wouldDependOnItself_0 : decode b2_wouldDependOnItself 0 = .ok (.iload_n 2, 1) := by decide +kernel
theorem d2_wouldDependOnItself_1 : decode b2_wouldDependOnItself 1 = .ok (.iconst (-1), 1) := by decide +kernel
theorem d2_wouldDependOnItself_2 : decode b2_wouldDependOnItself 2 = .ok (.if_icmp .ne 5, 3) := by decide +kernel
theorem d2_wouldDependOnItself_7 : decode b2_wouldDependOnItself 7 = .ok (.aload_n 0, 1) := by decide +kernel
theorem d2_wouldDependOnItself_8 : decode b2_wouldDependOnItself 8 = .ok (.getfield 15, 3) := by decide +kernel
theorem d2_wouldDependOnItself_11 : decode b2_wouldDependOnItself 11 = .ok (.iload_n 2, 1) := by decide +kernel
theorem d2_wouldDependOnItself_12 : decode b2_wouldDependOnItself 12 = .ok (.iaload, 1) := by decide +kernel
theorem d2_wouldDependOnItself_13 : decode b2_wouldDependOnItself 13 = .ok (.istore_n 3, 1) := by decide +kernel
theorem d2_wouldDependOnItself_14 : decode b2_wouldDependOnItself 14 = .ok (.iload_n 1, 1) := by decide +kernel
theorem d2_wouldDependOnItself_15 : decode b2_wouldDependOnItself 15 = .ok (.iload_n 3, 1) := by decide +kernel
theorem d2_wouldDependOnItself_16 : decode b2_wouldDependOnItself 16 = .ok (.if_icmp .eq 16, 3) := by decide +kernel
theorem d2_wouldDependOnItself_32 : decode b2_wouldDependOnItself 32 = .ok (.iconst 1, 1) := by decide +kernel
theorem d2_wouldDependOnItself_33 : decode b2_wouldDependOnItself 33 = .ok (.goto 4, 3) := by decide +kernel
theorem d2_wouldDependOnItself_37 : decode b2_wouldDependOnItself 37 = .ok (.ireturn, 1) := by decide +kernel
theorem d2_wouldDependOnItself_19 : decode b2_wouldDependOnItself 19 = .ok (.aload_n 0, 1) := by decide +kernel
theorem d2_wouldDependOnItself_20 : decode b2_wouldDependOnItself 20 = .ok (.getfield 31, 3) := by decide +kernel
theorem d2_wouldDependOnItself_23 : decode b2_wouldDependOnItself 23 = .ok (.iload_n 1, 1) := by decide +kernel
theorem d2_wouldDependOnItself_24 : decode b2_wouldDependOnItself 24 = .ok (.iaload, 1) := by decide +kernel
theorem d2_wouldDependOnItself_25 : decode b2_wouldDependOnItself 25 = .ok (.iload_n 3, 1) := by decide +kernel
theorem d2_wouldDependOnItself_26 : decode b2_wouldDependOnItself 26 = .ok (.ishr, 1) := by decide +kernel
theorem d2_wouldDependOnItself_27 : decode b2_wouldDependOnItself 27 = .ok (.iconst 1, 1) := by decide +kernel
theorem d2_wouldDependOnItself_28 : decode b2_wouldDependOnItself 28 = .ok (.iand, 1) := by decide +kernel
theorem d2_wouldDependOnItself_29 : decode b2_wouldDependOnItself 29 = .ok (.ifCond .eq 7, 3) := by decide +kernel
theorem d2_wouldDependOnItself_36 : decode b2_wouldDependOnItself 36 = .ok (.iconst 0, 1) := by decide +kernel
theorem d2_wouldDependOnItself_5 : decode b2_wouldDependOnItself 5 = .ok (.iconst 0, 1) := by decide +kernel
theorem d2_wouldDependOnItself_6 : decode b2_wouldDependOnItself 6 = .ok (.ireturn, 1) := by decide +kernel
theorem d2_firstItemOf_0 : decode b2_firstItemOf 0 = .ok (.iload_n 1, 1) := by decide +kernel
theorem d2_firstItemOf_1 : decode b2_firstItemOf 1 = .ok (.iconst (-1), 1) := by decide +kernel
theorem d2_firstItemOf_2 : decode b2_firstItemOf 2 = .ok (.if_icmp .ne 10, 3) := by decide +kernel
theorem d2_firstItemOf_12 : decode b2_firstItemOf 12 = .ok (.aload_n 0, 1) := by decide +kernel
theorem d2_firstItemOf_13 : decode b2_firstItemOf 13 = .ok (.getfield 37, 3) := by decide +kernel
theorem d2_firstItemOf_16 : decode b2_firstItemOf 16 = .ok (.iload_n 1, 1) := by decide +kernel
theorem d2_firstItemOf_17 : decode b2_firstItemOf 17 = .ok (.iaload, 1) := by decide +kernel
theorem d2_firstItemOf_18 : decode b2_firstItemOf 18 = .ok (.iconst 1, 1) := by decide +kernel
theorem d2_firstItemOf_19 : decode b2_firstItemOf 19 = .ok (.iadd, 1) := by decide +kernel
theorem d2_firstItemOf_20 : decode b2_firstItemOf 20 = .ok (.ireturn, 1) := by decide +kernel
theorem d2_firstItemOf_5 : decode b2_firstItemOf 5 = .ok (.aload_n 0, 1) := by decide +kernel
theorem d2_firstItemOf_6 : decode b2_firstItemOf 6 = .ok (.getfield 56, 3) := by decide +kernel
theorem d2_firstItemOf_9 : decode b2_firstItemOf 9 = .ok (.goto 11, 3) := by decide +kernel
theorem d2_endItemOf_0 : decode b2_endItemOf 0 = .ok (.iload_n 1, 1) := by decide +kernel
theorem d2_endItemOf_1 : decode b2_endItemOf 1 = .ok (.iconst (-1), 1) := by decide +kernel
theorem d2_endItemOf_2 : decode b2_endItemOf 2 = .ok (.if_icmp .ne 10, 3) := by decide +kernel
theorem d2_endItemOf_12 : decode b2_endItemOf 12 = .ok (.aload_n 0, 1) := by decide +kernel
theorem d2_endItemOf_13 : decode b2_endItemOf 13 = .ok (.getfield 40, 3) := by decide +kernel
theorem d2_endItemOf_16 : decode b2_endItemOf 16 = .ok (.iload_n 1, 1) := by decide +kernel
theorem d2_endItemOf_17 : decode b2_endItemOf 17 = .ok (.iaload, 1) := by decide +kernel
theorem d2_endItemOf_18 : decode b2_endItemOf 18 = .ok (.ireturn, 1) := by decide +kernel
theorem d2_endItemOf_5 : decode b2_endItemOf 5 = .ok (.aload_n 0, 1) := by decide +kernel
theorem d2_endItemOf_6 : decode b2_endItemOf 6 = .ok (.getfield 59, 3) := by decide +kernel
theorem d2_endItemOf_9 : decode b2_endItemOf 9 = .ok (.goto 9, 3) := by decide +kernel
theorem d2_deepest_0 : decode b2_deepest 0 = .ok (.iconst 0, 1) := by decide +kernel
theorem d2_deepest_1 : decode b2_deepest 1 = .ok (.istore_n 1, 1) := by decide +kernel
theorem d2_deepest_2 : decode b2_deepest 2 = .ok (.iconst 0, 1) := by decide +kernel
theorem d2_deepest_3 : decode b2_deepest 3 = .ok (.istore_n 2, 1) := by decide +kernel
theorem d2_deepest_4 : decode b2_deepest 4 = .ok (.iload_n 2, 1) := by decide +kernel
theorem d2_deepest_5 : decode b2_deepest 5 = .ok (.aload_n 0, 1) := by decide +kernel
theorem d2_deepest_6 : decode b2_deepest 6 = .ok (.getfield 49, 3) := by decide +kernel
theorem d2_deepest_9 : decode b2_deepest 9 = .ok (.if_icmp .ge 20, 3) := by decide +kernel
theorem d2_deepest_29 : decode b2_deepest 29 = .ok (.iload_n 1, 1) := by decide +kernel
theorem d2_deepest_30 : decode b2_deepest 30 = .ok (.ireturn, 1) := by decide +kernel
theorem d2_deepest_12 : decode b2_deepest 12 = .ok (.iload_n 1, 1) := by decide +kernel
theorem d2_deepest_13 : decode b2_deepest 13 = .ok (.aload_n 0, 1) := by decide +kernel
theorem d2_deepest_14 : decode b2_deepest 14 = .ok (.getfield 28, 3) := by decide +kernel
theorem d2_deepest_17 : decode b2_deepest 17 = .ok (.iload_n 2, 1) := by decide +kernel
theorem d2_deepest_18 : decode b2_deepest 18 = .ok (.iaload, 1) := by decide +kernel
theorem d2_deepest_19 : decode b2_deepest 19 = .ok (.invokestatic 71, 3) := by decide +kernel
theorem d2_deepest_22 : decode b2_deepest 22 = .ok (.istore_n 1, 1) := by decide +kernel
theorem d2_deepest_23 : decode b2_deepest 23 = .ok (.iinc 2 1, 3) := by decide +kernel
theorem d2_deepest_26 : decode b2_deepest 26 = .ok (.goto (-22), 3) := by decide +kernel
theorem d2_countDefaults_0 : decode b2_countDefaults 0 = .ok (.iconst 0, 1) := by decide +kernel
theorem d2_countDefaults_1 : decode b2_countDefaults 1 = .ok (.istore_n 1, 1) := by decide +kernel
theorem d2_countDefaults_2 : decode b2_countDefaults 2 = .ok (.iconst 0, 1) := by decide +kernel
theorem d2_countDefaults_3 : decode b2_countDefaults 3 = .ok (.istore_n 2, 1) := by decide +kernel
theorem d2_countDefaults_4 : decode b2_countDefaults 4 = .ok (.iload_n 2, 1) := by decide +kernel
theorem d2_countDefaults_5 : decode b2_countDefaults 5 = .ok (.aload_n 0, 1) := by decide +kernel
theorem d2_countDefaults_6 : decode b2_countDefaults 6 = .ok (.getfield 49, 3) := by decide +kernel
theorem d2_countDefaults_9 : decode b2_countDefaults 9 = .ok (.if_icmp .ge 21, 3) := by decide +kernel
theorem d2_countDefaults_30 : decode b2_countDefaults 30 = .ok (.iload_n 1, 1) := by decide +kernel
theorem d2_countDefaults_31 : decode b2_countDefaults 31 = .ok (.ireturn, 1) := by decide +kernel
theorem d2_countDefaults_12 : decode b2_countDefaults 12 = .ok (.aload_n 0, 1) := by decide +kernel
theorem d2_countDefaults_13 : decode b2_countDefaults 13 = .ok (.getfield 21, 3) := by decide +kernel
theorem d2_countDefaults_16 : decode b2_countDefaults 16 = .ok (.iload_n 2, 1) := by decide +kernel
theorem d2_countDefaults_17 : decode b2_countDefaults 17 = .ok (.baload, 1) := by decide +kernel
theorem d2_countDefaults_18 : decode b2_countDefaults 18 = .ok (.ifCond .eq 6, 3) := by decide +kernel
theorem d2_countDefaults_24 : decode b2_countDefaults 24 = .ok (.iinc 2 1, 3) := by decide +kernel
theorem d2_countDefaults_27 : decode b2_countDefaults 27 = .ok (.goto (-23), 3) := by decide +kernel
theorem d2_countDefaults_21 : decode b2_countDefaults 21 = .ok (.iinc 1 1, 3) := by decide +kernel
theorem d2_countLiterals_0 : decode b2_countLiterals 0 = .ok (.aload_n 0, 1) := by decide +kernel
theorem d2_countLiterals_1 : decode b2_countLiterals 1 = .ok (.getfield 59, 3) := by decide +kernel
theorem d2_countLiterals_4 : decode b2_countLiterals 4 = .ok (.aload_n 0, 1) := by decide +kernel
theorem d2_countLiterals_5 : decode b2_countLiterals 5 = .ok (.getfield 56, 3) := by decide +kernel
theorem d2_countLiterals_8 : decode b2_countLiterals 8 = .ok (.isub, 1) := by decide +kernel
theorem d2_countLiterals_9 : decode b2_countLiterals 9 = .ok (.aload_n 0, 1) := by decide +kernel
theorem d2_countLiterals_10 : decode b2_countLiterals 10 = .ok (.getfield 49, 3) := by decide +kernel
theorem d2_countLiterals_13 : decode b2_countLiterals 13 = .ok (.isub, 1) := by decide +kernel
theorem d2_countLiterals_14 : decode b2_countLiterals 14 = .ok (.ireturn, 1) := by decide +kernel
theorem d2_countOf_0 : decode b2_countOf 0 = .ok (.iconst 0, 1) := by decide +kernel
theorem d2_countOf_1 : decode b2_countOf 1 = .ok (.istore_n 2, 1) := by decide +kernel
theorem d2_countOf_2 : decode b2_countOf 2 = .ok (.iconst 0, 1) := by decide +kernel
theorem d2_countOf_3 : decode b2_countOf 3 = .ok (.istore_n 3, 1) := by decide +kernel
theorem d2_countOf_4 : decode b2_countOf 4 = .ok (.iload_n 3, 1) := by decide +kernel
theorem d2_countOf_5 : decode b2_countOf 5 = .ok (.aload_n 0, 1) := by decide +kernel
theorem d2_countOf_6 : decode b2_countOf 6 = .ok (.getfield 49, 3) := by decide +kernel
theorem d2_countOf_9 : decode b2_countOf 9 = .ok (.if_icmp .ge 22, 3) := by decide +kernel
theorem d2_countOf_31 : decode b2_countOf 31 = .ok (.iload_n 2, 1) := by decide +kernel
theorem d2_countOf_32 : decode b2_countOf 32 = .ok (.ireturn, 1) := by decide +kernel
theorem d2_countOf_12 : decode b2_countOf 12 = .ok (.aload_n 0, 1) := by decide +kernel
theorem d2_countOf_13 : decode b2_countOf 13 = .ok (.getfield 15, 3) := by decide +kernel
theorem d2_countOf_16 : decode b2_countOf 16 = .ok (.iload_n 3, 1) := by decide +kernel
theorem d2_countOf_17 : decode b2_countOf 17 = .ok (.iaload, 1) := by decide +kernel
theorem d2_countOf_18 : decode b2_countOf 18 = .ok (.iload_n 1, 1) := by decide +kernel
theorem d2_countOf_19 : decode b2_countOf 19 = .ok (.if_icmp .ne 6, 3) := by decide +kernel
theorem d2_countOf_25 : decode b2_countOf 25 = .ok (.iinc 3 1, 3) := by decide +kernel
theorem d2_countOf_28 : decode b2_countOf 28 = .ok (.goto (-24), 3) := by decide +kernel
theorem d2_countOf_22 : decode b2_countOf 22 = .ok (.iinc 2 1, 3) := by decide +kernel
