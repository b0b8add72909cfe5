theorem d7_whyOf_14 : decode b7_whyOf 14 = .ok (.iload_n 1, 1) := by decide +kernel
theorem d7_whyOf_15 : decode b7_whyOf 15 = .ok (.invokevirtual 354, 3) := by decide +kernel
theorem d7_whyOf_18 : decode b7_whyOf 18 = .ok (.ifCond .ne 5, 3) := by decide +kernel
theorem d7_whyOf_23 : decode b7_whyOf 23 = .ok (.iconst 4, 1) := by decide +kernel
theorem d7_whyOf_24 : decode b7_whyOf 24 = .ok (.istore_n 2, 1) := by decide +kernel
theorem d7_whyOf_25 : decode b7_whyOf 25 = .ok (.iconst 0, 1) := by decide +kernel
theorem d7_whyOf_26 : decode b7_whyOf 26 = .ok (.istore_n 3, 1) := by decide +kernel
theorem d7_whyOf_21 : decode b7_whyOf 21 = .ok (.iconst 1, 1) := by decide +kernel
theorem d7_whyOf_22 : decode b7_whyOf 22 = .ok (.ireturn, 1) := by decide +kernel
theorem d7_whyOf_11 : decode b7_whyOf 11 = .ok (.iconst 0, 1) := by decide +kernel
theorem d7_whyOf_12 : decode b7_whyOf 12 = .ok (.ireturn, 1) := by decide +kernel
theorem d7_whyOf_27 : decode b7_whyOf 27 = .ok (.iload_n 3, 1) := by decide +kernel
theorem d7_whyOf_28 : decode b7_whyOf 28 = .ok (.aload_n 0, 1) := by decide +kernel
theorem d7_whyOf_29 : decode b7_whyOf 29 = .ok (.invokevirtual 260, 3) := by decide +kernel
theorem d7_whyOf_32 : decode b7_whyOf 32 = .ok (.if_icmp .ge 85, 3) := by decide +kernel
theorem d7_whyOf_117 : decode b7_whyOf 117 = .ok (.iload_n 2, 1) := by decide +kernel
theorem d7_whyOf_118 : decode b7_whyOf 118 = .ok (.ireturn, 1) := by decide +kernel
theorem d7_whyOf_35 : decode b7_whyOf 35 = .ok (.aload_n 0, 1) := by decide +kernel
theorem d7_whyOf_36 : decode b7_whyOf 36 = .ok (.getfield 32, 3) := by decide +kernel
theorem d7_whyOf_39 : decode b7_whyOf 39 = .ok (.getfield 183, 3) := by decide +kernel
theorem d7_whyOf_42 : decode b7_whyOf 42 = .ok (.aload_n 0, 1) := by decide +kernel
theorem d7_whyOf_43 : decode b7_whyOf 43 = .ok (.iload_n 3, 1) := by decide +kernel
theorem d7_whyOf_44 : decode b7_whyOf 44 = .ok (.invokevirtual 262, 3) := by decide +kernel
theorem d7_whyOf_47 : decode b7_whyOf 47 = .ok (.iaload, 1) := by decide +kernel
theorem d7_whyOf_48 : decode b7_whyOf 48 = .ok (.istore 4, 2) := by decide +kernel
theorem d7_whyOf_50 : decode b7_whyOf 50 = .ok (.aload_n 0, 1) := by decide +kernel
theorem d7_whyOf_51 : decode b7_whyOf 51 = .ok (.getfield 32, 3) := by decide +kernel
theorem d7_whyOf_54 : decode b7_whyOf 54 = .ok (.getfield 162, 3) := by decide +kernel
theorem d7_whyOf_57 : decode b7_whyOf 57 = .ok (.aload_n 0, 1) := by decide +kernel
theorem d7_whyOf_58 : decode b7_whyOf 58 = .ok (.iload_n 3, 1) := by decide +kernel
theorem d7_whyOf_59 : decode b7_whyOf 59 = .ok (.invokevirtual 262, 3) := by decide +kernel
theorem d7_whyOf_62 : decode b7_whyOf 62 = .ok (.iaload, 1) := by decide +kernel
theorem d7_whyOf_63 : decode b7_whyOf 63 = .ok (.iload_n 1, 1) := by decide +kernel
theorem d7_whyOf_64 : decode b7_whyOf 64 = .ok (.if_icmp .ne 47, 3) := by decide +kernel
theorem d7_whyOf_111 : decode b7_whyOf 111 = .ok (.iinc 3 1, 3) := by decide +kernel
theorem d7_whyOf_114 : decode b7_whyOf 114 = .ok (.goto (-87), 3) := by decide +kernel
theorem d7_whyOf_67 : decode b7_whyOf 67 = .ok (.aload_n 0, 1) := by decide +kernel
theorem d7_whyOf_68 : decode b7_whyOf 68 = .ok (.getfield 49, 3) := by decide +kernel
theorem d7_whyOf_71 : decode b7_whyOf 71 = .ok (.iload 4, 2) := by decide +kernel
theorem d7_whyOf_73 : decode b7_whyOf 73 = .ok (.baload, 1) := by decide +kernel
theorem d7_whyOf_74 : decode b7_whyOf 74 = .ok (.ifCond .ne 6, 3) := by decide +kernel
theorem d7_whyOf_80 : decode b7_whyOf 80 = .ok (.iload_n 2, 1) := by decide +kernel
theorem d7_whyOf_81 : decode b7_whyOf 81 = .ok (.aload_n 0, 1) := by decide +kernel
theorem d7_whyOf_82 : decode b7_whyOf 82 = .ok (.aload_n 0, 1) := by decide +kernel
theorem d7_whyOf_83 : decode b7_whyOf 83 = .ok (.getfield 32, 3) := by decide +kernel
theorem d7_whyOf_86 : decode b7_whyOf 86 = .ok (.getfield 162, 3) := by decide +kernel
theorem d7_whyOf_89 : decode b7_whyOf 89 = .ok (.aload_n 0, 1) := by decide +kernel
theorem d7_whyOf_90 : decode b7_whyOf 90 = .ok (.iload 4, 2) := by decide +kernel
theorem d7_whyOf_92 : decode b7_whyOf 92 = .ok (.invokevirtual 262, 3) := by decide +kernel
theorem d7_whyOf_95 : decode b7_whyOf 95 = .ok (.iaload, 1) := by decide +kernel
theorem d7_whyOf_96 : decode b7_whyOf 96 = .ok (.invokevirtual 265, 3) := by decide +kernel
theorem d7_whyOf_99 : decode b7_whyOf 99 = .ok (.ifCond .eq 7, 3) := by decide +kernel
theorem d7_whyOf_106 : decode b7_whyOf 106 = .ok (.iconst 3, 1) := by decide +kernel
theorem d7_whyOf_102 : decode b7_whyOf 102 = .ok (.iconst 2, 1) := by decide +kernel
theorem d7_whyOf_103 : decode b7_whyOf 103 = .ok (.goto 4, 3) := by decide +kernel
theorem d7_whyOf_77 : decode b7_whyOf 77 = .ok (.goto 34, 3) := by decide +kernel
theorem d7_whyOf_107 : decode b7_whyOf 107 = .ok (.invokestatic 367, 3) := by decide +kernel
theorem d7_whyOf_110 : decode b7_whyOf 110 = .ok (.istore_n 2, 1) := by decide +kernel
theorem d7_why_0 : decode b7_why 0 = .ok (.aload_n 0, 1) := by decide +kernel
theorem d7_why_1 : decode b7_why 1 = .ok (.iconst 0, 1) := by decide +kernel
theorem d7_why_2 : decode b7_why 2 = .ok (.putfield 79, 3) := by decide +kernel
theorem d7_why_5 : decode b7_why 5 = .ok (.aload_n 0, 1) := by decide +kernel
theorem d7_why_6 : decode b7_why 6 = .ok (.iload_n 1, 1) := by decide +kernel
theorem d7_why_7 : decode b7_why 7 = .ok (.invokestatic 333, 3) := by decide +kernel
theorem d7_why_10 : decode b7_why 10 = .ok (.ifCond .ne 7, 3) := by decide +kernel
theorem d7_why_17 : decode b7_why 17 = .ok (.iconst 0, 1) := by decide +kernel
theorem d7_why_13 : decode b7_why 13 = .ok (.iconst 1, 1) := by decide +kernel
theorem d7_why_14 : decode b7_why 14 = .ok (.goto 4, 3) := by decide +kernel
theorem d7_why_18 : decode b7_why 18 = .ok (.iconst 1, 1) := by decide +kernel
theorem d7_why_19 : decode b7_why 19 = .ok (.invokevirtual 89, 3) := by decide +kernel
theorem d7_why_22 : decode b7_why 22 = .ok (.ifCond .ne 11, 3) := by decide +kernel
theorem d7_why_33 : decode b7_why 33 = .ok (.iconst 0, 1) := by decide +kernel
theorem d7_why_34 : decode b7_why 34 = .ok (.goto 8, 3) := by decide +kernel
theorem d7_why_42 : decode b7_why 42 = .ok (.ireturn, 1) := by decide +kernel
theorem d7_why_25 : decode b7_why 25 = .ok (.aload_n 0, 1) := by decide +kernel
theorem d7_why_26 : decode b7_why 26 = .ok (.iconst 2, 1) := by decide +kernel
theorem d7_why_27 : decode b7_why 27 = .ok (.invokevirtual 342, 3) := by decide +kernel
theorem d7_why_30 : decode b7_why 30 = .ok (.ifCond .eq 7, 3) := by decide +kernel
theorem d7_why_37 : decode b7_why 37 = .ok (.aload_n 0, 1) := by decide +kernel
theorem d7_why_38 : decode b7_why 38 = .ok (.iload_n 1, 1) := by decide +kernel
theorem d7_why_39 : decode b7_why 39 = .ok (.invokevirtual 370, 3) := by decide +kernel
theorem d7_yielded_0 : decode b7_yielded 0 = .ok (.aload_n 0, 1) := by decide +kernel
theorem d7_yielded_1 : decode b7_yielded 1 = .ok (.iconst 0, 1) := by decide +kernel
theorem d7_yielded_2 : decode b7_yielded 2 = .ok (.putfield 79, 3) := by decide +kernel
theorem d7_yielded_5 : decode b7_yielded 5 = .ok (.aload_n 0, 1) := by decide +kernel
theorem d7_yielded_6 : decode b7_yielded 6 = .ok (.iconst 1, 1) := by decide +kernel
theorem d7_yielded_7 : decode b7_yielded 7 = .ok (.invokevirtual 342, 3) := by decide +kernel
theorem d7_yielded_10 : decode b7_yielded 10 = .ok (.ifCond .eq 5, 3) := by decide +kernel
theorem d7_yielded_15 : decode b7_yielded 15 = .ok (.iconst 0, 1) := by decide +kernel
theorem d7_yielded_16 : decode b7_yielded 16 = .ok (.istore_n 1, 1) := by decide +kernel
theorem d7_yielded_17 : decode b7_yielded 17 = .ok (.iconst 0, 1) := by decide +kernel
theorem d7_yielded_18 : decode b7_yielded 18 = .ok (.istore_n 2, 1) := by decide +kernel
theorem d7_yielded_13 : decode b7_yielded 13 = .ok (.iconst 0, 1) := by decide +kernel
theorem d7_yielded_14 : decode b7_yielded 14 = .ok (.ireturn, 1) := by decide +kernel
theorem d7_yielded_19 : decode b7_yielded 19 = .ok (.iload_n 2, 1) := by decide +kernel
theorem d7_yielded_20 : decode b7_yielded 20 = .ok (.aload_n 0, 1) := by decide +kernel
theorem d7_yielded_21 : decode b7_yielded 21 = .ok (.invokevirtual 260, 3) := by decide +kernel
theorem d7_yielded_24 : decode b7_yielded 24 = .ok (.if_icmp .ge 51, 3) := by decide +kernel
theorem d7_yielded_75 : decode b7_yielded 75 = .ok (.iload_n 1, 1) := by decide +kernel
theorem d7_yielded_76 : decode b7_yielded 76 = .ok (.ireturn, 1) := by decide +kernel
theorem d7_yielded_27 : decode b7_yielded 27 = .ok (.iload_n 1, 1) := by decide +kernel
theorem d7_yielded_28 : decode b7_yielded 28 = .ok (.aload_n 0, 1) := by decide +kernel
theorem d7_yielded_29 : decode b7_yielded 29 = .ok (.getfield 49, 3) := by decide +kernel
theorem d7_yielded_32 : decode b7_yielded 32 = .ok (.iload_n 2, 1) := by decide +kernel
theorem d7_yielded_33 : decode b7_yielded 33 = .ok (.baload, 1) := by decide +kernel
theorem d7_yielded_34 : decode b7_yielded 34 = .ok (.ifCond .eq 32, 3) := by decide +kernel
theorem d7_yielded_37 : decode b7_yielded 37 = .ok (.aload_n 0, 1) := by decide +kernel
theorem d7_yielded_38 : decode b7_yielded 38 = .ok (.getfield 32, 3) := by decide +kernel
theorem d7_yielded_41 : decode b7_yielded 41 = .ok (.getfield 180, 3) := by decide +kernel
theorem d7_yielded_44 : decode b7_yielded 44 = .ok (.aload_n 0, 1) := by decide +kernel
theorem d7_yielded_45 : decode b7_yielded 45 = .ok (.iload_n 2, 1) := by decide +kernel
theorem d7_yielded_46 : decode b7_yielded 46 = .ok (.invokevirtual 262, 3) := by decide +kernel
theorem d7_yielded_49 : decode b7_yielded 49 = .ok (.baload, 1) := by decide +kernel
theorem d7_yielded_50 : decode b7_yielded 50 = .ok (.ifCond .eq 16, 3) := by decide +kernel
theorem d7_yielded_53 : decode b7_yielded 53 = .ok (.aload_n 0, 1) := by decide +kernel
theorem d7_yielded_54 : decode b7_yielded 54 = .ok (.getfield 52, 3) := by decide +kernel
theorem d7_yielded_57 : decode b7_yielded 57 = .ok (.iload_n 2, 1) := by decide +kernel
theorem d7_yielded_58 : decode b7_yielded 58 = .ok (.baload, 1) := by decide +kernel
theorem d7_yielded_59 : decode b7_yielded 59 = .ok (.ifCond .ne 7, 3) := by decide +kernel
theorem d7_yielded_62 : decode b7_yielded 62 = .ok (.iconst 1, 1) := by decide +kernel
theorem d7_yielded_63 : decode b7_yielded 63 = .ok (.goto 4, 3) := by decide +kernel
theorem d7_yielded_67 : decode b7_yielded 67 = .ok (.iadd, 1) := by decide +kernel
theorem d7_yielded_68 : decode b7_yielded 68 = .ok (.istore_n 1, 1) := by decide +kernel
theorem d7_yielded_69 : decode b7_yielded 69 = .ok (.iinc 2 1, 3) := by decide +kernel
theorem d7_yielded_72 : decode b7_yielded 72 = .ok (.goto (-53), 3) := by decide +kernel
theorem d7_yielded_66 : decode b7_yielded 66 = .ok (.iconst 0, 1) := by decide +kernel
theorem d7_mirrored_0 : decode b7_mirrored 0 = .ok (.aload_n 0, 1) := by decide +kernel
theorem d7_mirrored_1 : decode b7_mirrored 1 = .ok (.iconst 0, 1) := by decide +kernel
theorem d7_mirrored_2 : decode b7_mirrored 2 = .ok (.putfield 79, 3) := by decide +kernel
theorem d7_mirrored_5 : decode b7_mirrored 5 = .ok (.aload_n 0, 1) := by decide +kernel
theorem d7_mirrored_6 : decode b7_mirrored 6 = .ok (.iconst 1, 1) := by decide +kernel
theorem d7_mirrored_7 : decode b7_mirrored 7 = .ok (.invokevirtual 342, 3) := by decide +kernel
theorem d7_mirrored_10 : decode b7_mirrored 10 = .ok (.ifCond .eq 5, 3) := by decide +kernel
theorem d7_mirrored_15 : decode b7_mirrored 15 = .ok (.iconst 0, 1) := by decide +kernel
theorem d7_mirrored_16 : decode b7_mirrored 16 = .ok (.istore_n 1, 1) := by decide +kernel
theorem d7_mirrored_17 : decode b7_mirrored 17 = .ok (.iconst 0, 1) := by decide +kernel
theorem d7_mirrored_18 : decode b7_mirrored 18 = .ok (.istore_n 2, 1) := by decide +kernel
theorem d7_mirrored_13 : decode b7_mirrored 13 = .ok (.iconst 0, 1) := by decide +kernel
theorem d7_mirrored_14 : decode b7_mirrored 14 = .ok (.ireturn, 1) := by decide +kernel
theorem d7_mirrored_19 : decode b7_mirrored 19 = .ok (.iload_n 2, 1) := by decide +kernel
theorem d7_mirrored_20 : decode b7_mirrored 20 = .ok (.bipush 10, 2) := by decide +kernel
theorem d7_mirrored_22 : decode b7_mirrored 22 = .ok (.if_icmp .ge 26, 3) := by decide +kernel
theorem d7_mirrored_48 : decode b7_mirrored 48 = .ok (.iload_n 1, 1) := by decide +kernel
theorem d7_mirrored_49 : decode b7_mirrored 49 = .ok (.ireturn, 1) := by decide +kernel
theorem d7_mirrored_25 : decode b7_mirrored 25 = .ok (.iload_n 1, 1) := by decide +kernel
theorem d7_mirrored_26 : decode b7_mirrored 26 = .ok (.aload_n 0, 1) := by decide +kernel
theorem d7_mirrored_27 : decode b7_mirrored 27 = .ok (.iload_n 2, 1) := by decide +kernel
theorem d7_mirrored_28 : decode b7_mirrored 28 = .ok (.invokevirtual 348, 3) := by decide +kernel
theorem d7_mirrored_31 : decode b7_mirrored 31 = .ok (.iconst 1, 1) := by decide +kernel
theorem d7_mirrored_32 : decode b7_mirrored 32 = .ok (.if_icmp .le 7, 3) := by decide +kernel
theorem d7_mirrored_39 : decode b7_mirrored 39 = .ok (.iconst 0, 1) := by decide +kernel
theorem d7_mirrored_40 : decode b7_mirrored 40 = .ok (.iadd, 1) := by decide +kernel
theorem d7_mirrored_41 : decode b7_mirrored 41 = .ok (.istore_n 1, 1) := by decide +kernel
theorem d7_mirrored_42 : decode b7_mirrored 42 = .ok (.iinc 2 1, 3) := by decide +kernel
theorem d7_mirrored_45 : decode b7_mirrored 45 = .ok (.goto (-26), 3) := by decide +kernel
theorem d7_mirrored_35 : decode b7_mirrored 35 = .ok (.iconst 1, 1) := by decide +kernel
theorem d7_mirrored_36 : decode b7_mirrored 36 = .ok (.goto 4, 3) := by decide +kernel
theorem d7_longest_0 : decode b7_longest 0 = .ok (.aload_n 0, 1) := by decide +kernel
theorem d7_longest_1 : decode b7_longest 1 = .ok (.iconst 0, 1) := by decide +kernel
theorem d7_longest_2 : decode b7_longest 2 = .ok (.putfield 79, 3) := by decide +kernel
theorem d7_longest_5 : decode b7_longest 5 = .ok (.aload_n 0, 1) := by decide +kernel
theorem d7_longest_6 : decode b7_longest 6 = .ok (.iconst 1, 1) := by decide +kernel
theorem d7_longest_7 : decode b7_longest 7 = .ok (.invokevirtual 342, 3) := by decide +kernel
theorem d7_longest_10 : decode b7_longest 10 = .ok (.ifCond .eq 5, 3) := by decide +kernel
theorem d7_longest_15 : decode b7_longest 15 = .ok (.iconst (-1), 1) := by decide +kernel
theorem d7_longest_16 : decode b7_longest 16 = .ok (.istore_n 1, 1) := by decide +kernel
theorem d7_longest_17 : decode b7_longest 17 = .ok (.iconst 0, 1) := by decide +kernel
theorem d7_longest_18 : decode b7_longest 18 = .ok (.istore_n 2, 1) := by decide +kernel
theorem d7_longest_13 : decode b7_longest 13 = .ok (.iconst 0, 1) := by decide +kernel
theorem d7_longest_14 : decode b7_longest 14 = .ok (.ireturn, 1) := by decide +kernel
theorem d7_longest_19 : decode b7_longest 19 = .ok (.iload_n 2, 1) := by decide +kernel
theorem d7_longest_20 : decode b7_longest 20 = .ok (.bipush 10, 2) := by decide +kernel
theorem d7_longest_22 : decode b7_longest 22 = .ok (.if_icmp .ge 40, 3) := by decide +kernel
theorem d7_longest_62 : decode b7_longest 62 = .ok (.iload_n 1, 1) := by decide +kernel
theorem d7_longest_63 : decode b7_longest 63 = .ok (.ireturn, 1) := by decide +kernel
theorem d7_longest_25 : decode b7_longest 25 = .ok (.aload_n 0, 1) := by decide +kernel
theorem d7_longest_26 : decode b7_longest 26 = .ok (.getfield 257, 3) := by decide +kernel
theorem d7_longest_29 : decode b7_longest 29 = .ok (.iload_n 2, 1) := by decide +kernel
theorem d7_longest_30 : decode b7_longest 30 = .ok (.invokestatic 168, 3) := by decide +kernel
theorem d7_longest_33 : decode b7_longest 33 = .ok (.ifCond .eq 23, 3) := by decide +kernel
theorem d7_longest_56 : decode b7_longest 56 = .ok (.iinc 2 1, 3) := by decide +kernel
theorem d7_longest_59 : decode b7_longest 59 = .ok (.goto (-40), 3) := by decide +kernel
theorem d7_longest_36 : decode b7_longest 36 = .ok (.iload_n 1, 1) := by decide +kernel
theorem d7_longest_37 : decode b7_longest 37 = .ok (.iconst (-1), 1) := by decide +kernel
theorem d7_longest_38 : decode b7_longest 38 = .ok (.if_icmp .eq 16, 3) := by decide +kernel
theorem d7_longest_54 : decode b7_longest 54 = .ok (.iload_n 2, 1) := by decide +kernel
theorem d7_longest_55 : decode b7_longest 55 = .ok (.istore_n 1, 1) := by decide +kernel
theorem d7_longest_41 : decode b7_longest 41 = .ok (.aload_n 0, 1) := by decide +kernel
theorem d7_longest_42 : decode b7_longest 42 = .ok (.iload_n 2, 1) := by decide +kernel
theorem d7_longest_43 : decode b7_longest 43 = .ok (.invokevirtual 273, 3) := by decide +kernel
theorem d7_longest_46 : decode b7_longest 46 = .ok (.aload_n 0, 1) := by decide +kernel
theorem d7_longest_47 : decode b7_longest 47 = .ok (.iload_n 1, 1) := by decide +kernel
theorem d7_longest_48 : decode b7_longest 48 = .ok (.invokevirtual 273, 3) := by decide +kernel
theorem d7_longest_51 : decode b7_longest 51 = .ok (.if_icmp .le 5, 3) := by decide +kernel
theorem d7_untouched_0 : decode b7_untouched 0 = .ok (.aload_n 0, 1) := by decide +kernel
theorem d7_untouched_1 : decode b7_untouched 1 = .ok (.iconst 0, 1) := by decide +kernel
theorem d7_untouched_2 : decode b7_untouched 2 = .ok (.putfield 79, 3) := by decide +kernel
theorem d7_untouched_5 : decode b7_untouched 5 = .ok (.aload_n 0, 1) := by decide +kernel
theorem d7_untouched_6 : decode b7_untouched 6 = .ok (.iconst 1, 1) := by decide +kernel
theorem d7_untouched_7 : decode b7_untouched 7 = .ok (.invokevirtual 342, 3) := by decide +kernel
theorem d7_untouched_10 : decode b7_untouched 10 = .ok (.ifCond .eq 5, 3) := by decide +kernel
theorem d7_untouched_15 : decode b7_untouched 15 = .ok (.aload_n 0, 1) := by decide +kernel
theorem d7_untouched_16 : decode b7_untouched 16 = .ok (.getfield 257, 3) := by decide +kernel
theorem d7_untouched_19 : decode b7_untouched 19 = .ok (.aload_n 0, 1) := by decide +kernel
theorem d7_untouched_20 : decode b7_untouched 20 = .ok (.getfield 7, 3) := by decide +kernel
theorem d7_untouched_23 : decode b7_untouched 23 = .ok (.aload_n 0, 1) := by decide +kernel
theorem d7_untouched_24 : decode b7_untouched 24 = .ok (.getfield 251, 3) := by decide +kernel
theorem d7_untouched_27 : decode b7_untouched 27 = .ok (.iconst 2, 1) := by decide +kernel
theorem d7_untouched_28 : decode b7_untouched 28 = .ok (.iadd, 1) := by decide +kernel
theorem d7_untouched_29 : decode b7_untouched 29 = .ok (.iaload, 1) := by decide +kernel
theorem d7_untouched_30 : decode b7_untouched 30 = .ok (.iconst (-1), 1) := by decide +kernel
theorem d7_untouched_31 : decode b7_untouched 31 = .ok (.ixor, 1) := by decide +kernel
theorem d7_untouched_32 : decode b7_untouched 32 = .ok (.iand, 1) := by decide +kernel
theorem d7_untouched_33 : decode b7_untouched 33 = .ok (.invokestatic 373, 3) := by decide +kernel
theorem d7_untouched_36 : decode b7_untouched 36 = .ok (.i2f, 1) := by decide +kernel
theorem d7_untouched_37 : decode b7_untouched 37 = .ok (.aload_n 0, 1) := by decide +kernel
theorem d7_untouched_38 : decode b7_untouched 38 = .ok (.getfield 257, 3) := by decide +kernel
theorem d7_untouched_41 : decode b7_untouched 41 = .ok (.invokestatic 373, 3) := by decide +kernel
theorem d7_untouched_44 : decode b7_untouched 44 = .ok (.i2f, 1) := by decide +kernel
theorem d7_untouched_45 : decode b7_untouched 45 = .ok (.fdiv, 1) := by decide +kernel
theorem d7_untouched_46 : decode b7_untouched 46 = .ok (.freturn, 1) := by decide +kernel
theorem d7_untouched_13 : decode b7_untouched 13 = .ok (.fconst 0, 1) := by decide +kernel
theorem d7_untouched_14 : decode b7_untouched 14 = .ok (.freturn, 1) := by decide +kernel
theorem d7_meanLength_0 : decode b7_meanLength 0 = .ok (.aload_n 0, 1) := by decide +kernel
theorem d7_meanLength_1 : decode b7_meanLength 1 = .ok (.iconst 0, 1) := by decide +kernel
theorem d7_meanLength_2 : decode b7_meanLength 2 = .ok (.putfield 79, 3) := by decide +kernel
theorem d7_meanLength_5 : decode b7_meanLength 5 = .ok (.aload_n 0, 1) := by decide +kernel
theorem d7_meanLength_6 : decode b7_meanLength 6 = .ok (.iconst 1, 1) := by decide +kernel
theorem d7_meanLength_7 : decode b7_meanLength 7 = .ok (.invokevirtual 342, 3) := by decide +kernel
theorem d7_meanLength_10 : decode b7_meanLength 10 = .ok (.ifCond .eq 5, 3) := by decide +kernel
theorem d7_meanLength_15 : decode b7_meanLength 15 = .ok (.iconst 0, 1) := by decide +kernel
theorem d7_meanLength_16 : decode b7_meanLength 16 = .ok (.istore_n 1, 1) := by decide +kernel
theorem d7_meanLength_17 : decode b7_meanLength 17 = .ok (.iconst 0, 1) := by decide +kernel
theorem d7_meanLength_18 : decode b7_meanLength 18 = .ok (.istore_n 2, 1) := by decide +kernel
theorem d7_meanLength_13 : decode b7_meanLength 13 = .ok (.dconst 0, 1) := by decide +kernel
theorem d7_meanLength_14 : decode b7_meanLength 14 = .ok (.dreturn, 1) := by decide +kernel
theorem d7_meanLength_19 : decode b7_meanLength 19 = .ok (.iload_n 2, 1) := by decide +kernel
theorem d7_meanLength_20 : decode b7_meanLength 20 = .ok (.bipush 10, 2) := by decide +kernel
theorem d7_meanLength_22 : decode b7_meanLength 22 = .ok (.if_icmp .ge 32, 3) := by decide +kernel
theorem d7_meanLength_54 : decode b7_meanLength 54 = .ok (.iload_n 1, 1) := by decide +kernel
theorem d7_meanLength_55 : decode b7_meanLength 55 = .ok (.i2d, 1) := by decide +kernel
theorem d7_meanLength_56 : decode b7_meanLength 56 = .ok (.aload_n 0, 1) := by decide +kernel
theorem d7_meanLength_57 : decode b7_meanLength 57 = .ok (.getfield 257, 3) := by decide +kernel
theorem d7_meanLength_60 : decode b7_meanLength 60 = .ok (.invokestatic 373, 3) := by decide +kernel
theorem d7_meanLength_63 : decode b7_meanLength 63 = .ok (.i2d, 1) := by decide +kernel
theorem d7_meanLength_64 : decode b7_meanLength 64 = .ok (.ddiv, 1) := by decide +kernel
theorem d7_meanLength_65 : decode b7_meanLength 65 = .ok (.dreturn, 1) := by decide +kernel
theorem d7_meanLength_25 : decode b7_meanLength 25 = .ok (.iload_n 1, 1) := by decide +kernel
theorem d7_meanLength_26 : decode b7_meanLength 26 = .ok (.aload_n 0, 1) := by decide +kernel
theorem d7_meanLength_27 : decode b7_meanLength 27 = .ok (.getfield 257, 3) := by decide +kernel
theorem d7_meanLength_30 : decode b7_meanLength 30 = .ok (.iload_n 2, 1) := by decide +kernel
theorem d7_meanLength_31 : decode b7_meanLength 31 = .ok (.invokestatic 168, 3) := by decide +kernel
theorem d7_meanLength_34 : decode b7_meanLength 34 = .ok (.ifCond .eq 11, 3) := by decide +kernel
theorem d7_meanLength_45 : decode b7_meanLength 45 = .ok (.iconst 0, 1) := by decide +kernel
theorem d7_meanLength_46 : decode b7_meanLength 46 = .ok (.iadd, 1) := by decide +kernel
theorem d7_meanLength_47 : decode b7_meanLength 47 = .ok (.istore_n 1, 1) := by decide +kernel
theorem d7_meanLength_48 : decode b7_meanLength 48 = .ok (.iinc 2 1, 3) := by decide +kernel
theorem d7_meanLength_51 : decode b7_meanLength 51 = .ok (.goto (-32), 3) := by decide +kernel
theorem d7_meanLength_37 : decode b7_meanLength 37 = .ok (.aload_n 0, 1) := by decide +kernel
theorem d7_meanLength_38 : decode b7_meanLength 38 = .ok (.iload_n 2, 1) := by decide +kernel
theorem d7_meanLength_39 : decode b7_meanLength 39 = .ok (.invokevirtual 273, 3) := by decide +kernel
theorem d7_meanLength_42 : decode b7_meanLength 42 = .ok (.goto 4, 3) := by decide +kernel
theorem d7_back_0 : decode b7_back 0 = .ok (.aload_n 0, 1) := by decide +kernel
theorem d7_back_1 : decode b7_back 1 = .ok (.getfield 13, 3) := by decide +kernel
theorem d7_back_4 : decode b7_back 4 = .ok (.iconst 0, 1) := by decide +kernel
theorem d7_back_5 : decode b7_back 5 = .ok (.aload_n 0, 1) := by decide +kernel
theorem d7_back_6 : decode b7_back 6 = .ok (.getfield 7, 3) := by decide +kernel
theorem d7_back_9 : decode b7_back 9 = .ok (.iconst 0, 1) := by decide +kernel
theorem d7_back_10 : decode b7_back 10 = .ok (.invokestatic 376, 3) := by decide +kernel
theorem d7_back_13 : decode b7_back 13 = .ok (.iload_n 1, 1) := by decide +kernel
theorem d7_back_14 : decode b7_back 14 = .ok (.ireturn, 1) := by decide +kernel
theorem d7_lengthIf_0 : decode b7_lengthIf 0 = .ok (.aload_n 0, 1) := by decide +kernel
theorem d7_lengthIf_1 : decode b7_lengthIf 1 = .ok (.iconst 0, 1) := by decide +kernel
theorem d7_lengthIf_2 : decode b7_lengthIf 2 = .ok (.putfield 79, 3) := by decide +kernel
theorem d7_lengthIf_5 : decode b7_lengthIf 5 = .ok (.aload_n 0, 1) := by decide +kernel
theorem d7_lengthIf_6 : decode b7_lengthIf 6 = .ok (.iload_n 1, 1) := by decide +kernel
theorem d7_lengthIf_7 : decode b7_lengthIf 7 = .ok (.iconst 1, 1) := by decide +kernel
theorem d7_lengthIf_8 : decode b7_lengthIf 8 = .ok (.bipush 20, 2) := by decide +kernel
theorem d7_lengthIf_10 : decode b7_lengthIf 10 = .ok (.invokestatic 85, 3) := by decide +kernel
theorem d7_lengthIf_13 : decode b7_lengthIf 13 = .ok (.ifCond .ne 7, 3) := by decide +kernel
theorem d7_lengthIf_20 : decode b7_lengthIf 20 = .ok (.iconst 0, 1) := by decide +kernel
theorem d7_lengthIf_16 : decode b7_lengthIf 16 = .ok (.iconst 1, 1) := by decide +kernel
theorem d7_lengthIf_17 : decode b7_lengthIf 17 = .ok (.goto 4, 3) := by decide +kernel
theorem d7_lengthIf_21 : decode b7_lengthIf 21 = .ok (.iconst 1, 1) := by decide +kernel
theorem d7_lengthIf_22 : decode b7_lengthIf 22 = .ok (.invokevirtual 89, 3) := by decide +kernel
theorem d7_lengthIf_25 : decode b7_lengthIf 25 = .ok (.ifCond .ne 11, 3) := by decide +kernel
theorem d7_lengthIf_36 : decode b7_lengthIf 36 = .ok (.iconst 0, 1) := by decide +kernel
theorem d7_lengthIf_37 : decode b7_lengthIf 37 = .ok (.ireturn, 1) := by decide +kernel
theorem d7_lengthIf_28 : decode b7_lengthIf 28 = .ok (.aload_n 0, 1) := by decide +kernel
theorem d7_lengthIf_29 : decode b7_lengthIf 29 = .ok (.iconst 2, 1) := by decide +kernel
theorem d7_lengthIf_30 : decode b7_lengthIf 30 = .ok (.invokevirtual 342, 3) := by decide +kernel
theorem d7_lengthIf_33 : decode b7_lengthIf 33 = .ok (.ifCond .eq 5, 3) := by decide +kernel
theorem d7_lengthIf_38 : decode b7_lengthIf 38 = .ok (.aload_n 0, 1) := by decide +kernel
theorem d7_lengthIf_39 : decode b7_lengthIf 39 = .ok (.getfield 7, 3) := by decide +kernel
theorem d7_lengthIf_42 : decode b7_lengthIf 42 = .ok (.iconst 0, 1) := by decide +kernel
theorem d7_lengthIf_43 : decode b7_lengthIf 43 = .ok (.aload_n 0, 1) := by decide +kernel
theorem d7_lengthIf_44 : decode b7_lengthIf 44 = .ok (.getfield 13, 3) := by decide +kernel
theorem d7_lengthIf_47 : decode b7_lengthIf 47 = .ok (.iconst 0, 1) := by decide +kernel
theorem d7_lengthIf_48 : decode b7_lengthIf 48 = .ok (.invokestatic 376, 3) := by decide +kernel
theorem d7_lengthIf_51 : decode b7_lengthIf 51 = .ok (.aload_n 0, 1) := by decide +kernel
theorem d7_lengthIf_52 : decode b7_lengthIf 52 = .ok (.getfield 7, 3) := by decide +kernel
theorem d7_lengthIf_55 : decode b7_lengthIf 55 = .ok (.aload_n 0, 1) := by decide +kernel
theorem d7_lengthIf_56 : decode b7_lengthIf 56 = .ok (.getfield 251, 3) := by decide +kernel
theorem d7_lengthIf_59 : decode b7_lengthIf 59 = .ok (.iconst 1, 1) := by decide +kernel
theorem d7_lengthIf_60 : decode b7_lengthIf 60 = .ok (.iadd, 1) := by decide +kernel
theorem d7_lengthIf_61 : decode b7_lengthIf 61 = .ok (.iaload, 1) := by decide +kernel
theorem d7_lengthIf_62 : decode b7_lengthIf 62 = .ok (.istore_n 2, 1) := by decide +kernel
theorem d7_lengthIf_63 : decode b7_lengthIf 63 = .ok (.aload_n 0, 1) := by decide +kernel
theorem d7_lengthIf_64 : decode b7_lengthIf 64 = .ok (.iload_n 2, 1) := by decide +kernel
theorem d7_lengthIf_65 : decode b7_lengthIf 65 = .ok (.invokevirtual 265, 3) := by decide +kernel
theorem d7_lengthIf_68 : decode b7_lengthIf 68 = .ok (.ifCond .eq 19, 3) := by decide +kernel
theorem d7_lengthIf_87 : decode b7_lengthIf 87 = .ok (.iconst 0, 1) := by decide +kernel
theorem d7_lengthIf_71 : decode b7_lengthIf 71 = .ok (.aload_n 0, 1) := by decide +kernel
theorem d7_lengthIf_72 : decode b7_lengthIf 72 = .ok (.getfield 7, 3) := by decide +kernel
theorem d7_lengthIf_75 : decode b7_lengthIf 75 = .ok (.aload_n 0, 1) := by decide +kernel
theorem d7_lengthIf_76 : decode b7_lengthIf 76 = .ok (.getfield 251, 3) := by decide +kernel
theorem d7_lengthIf_79 : decode b7_lengthIf 79 = .ok (.iconst 3, 1) := by decide +kernel
theorem d7_lengthIf_80 : decode b7_lengthIf 80 = .ok (.iadd, 1) := by decide +kernel
theorem d7_lengthIf_81 : decode b7_lengthIf 81 = .ok (.iload_n 2, 1) := by decide +kernel
theorem d7_lengthIf_82 : decode b7_lengthIf 82 = .ok (.iadd, 1) := by decide +kernel
theorem d7_lengthIf_83 : decode b7_lengthIf 83 = .ok (.iaload, 1) := by decide +kernel
theorem d7_lengthIf_84 : decode b7_lengthIf 84 = .ok (.goto 4, 3) := by decide +kernel
theorem d7_lengthIf_88 : decode b7_lengthIf 88 = .ok (.istore_n 3, 1) := by decide +kernel
theorem d7_lengthIf_89 : decode b7_lengthIf 89 = .ok (.iload_n 3, 1) := by decide +kernel
theorem d7_lengthIf_90 : decode b7_lengthIf 90 = .ok (.iload_n 1, 1) := by decide +kernel
theorem d7_lengthIf_91 : decode b7_lengthIf 91 = .ok (.iadd, 1) := by decide +kernel
theorem d7_lengthIf_92 : decode b7_lengthIf 92 = .ok (.bipush 40, 2) := by decide +kernel
theorem d7_lengthIf_94 : decode b7_lengthIf 94 = .ok (.if_icmp .le 5, 3) := by decide +kernel
theorem d7_lengthIf_99 : decode b7_lengthIf 99 = .ok (.aload_n 0, 1) := by decide +kernel
theorem d7_lengthIf_100 : decode b7_lengthIf 100 = .ok (.getfield 7, 3) := by decide +kernel
theorem d7_lengthIf_103 : decode b7_lengthIf 103 = .ok (.aload_n 0, 1) := by decide +kernel
theorem d7_lengthIf_104 : decode b7_lengthIf 104 = .ok (.getfield 251, 3) := by decide +kernel
theorem d7_lengthIf_107 : decode b7_lengthIf 107 = .ok (.iconst 2, 1) := by decide +kernel
theorem d7_lengthIf_108 : decode b7_lengthIf 108 = .ok (.iadd, 1) := by decide +kernel
theorem d7_lengthIf_109 : decode b7_lengthIf 109 = .ok (.dup2, 1) := by decide +kernel
theorem d7_lengthIf_110 : decode b7_lengthIf 110 = .ok (.iaload, 1) := by decide +kernel
theorem d7_lengthIf_111 : decode b7_lengthIf 111 = .ok (.iconst 1, 1) := by decide +kernel
theorem d7_lengthIf_112 : decode b7_lengthIf 112 = .ok (.iload_n 2, 1) := by decide +kernel
theorem d7_lengthIf_113 : decode b7_lengthIf 113 = .ok (.ishl, 1) := by decide +kernel
theorem d7_lengthIf_114 : decode b7_lengthIf 114 = .ok (.ior, 1) := by decide +kernel
theorem d7_lengthIf_115 : decode b7_lengthIf 115 = .ok (.iastore, 1) := by decide +kernel
theorem d7_lengthIf_116 : decode b7_lengthIf 116 = .ok (.aload_n 0, 1) := by decide +kernel
theorem d7_lengthIf_117 : decode b7_lengthIf 117 = .ok (.getfield 7, 3) := by decide +kernel
theorem d7_lengthIf_120 : decode b7_lengthIf 120 = .ok (.aload_n 0, 1) := by decide +kernel
theorem d7_lengthIf_121 : decode b7_lengthIf 121 = .ok (.getfield 251, 3) := by decide +kernel
theorem d7_lengthIf_124 : decode b7_lengthIf 124 = .ok (.iconst 3, 1) := by decide +kernel
theorem d7_lengthIf_125 : decode b7_lengthIf 125 = .ok (.iadd, 1) := by decide +kernel
theorem d7_lengthIf_126 : decode b7_lengthIf 126 = .ok (.iload_n 2, 1) := by decide +kernel
theorem d7_lengthIf_127 : decode b7_lengthIf 127 = .ok (.iadd, 1) := by decide +kernel
theorem d7_lengthIf_128 : decode b7_lengthIf 128 = .ok (.iload_n 3, 1) := by decide +kernel
theorem d7_lengthIf_129 : decode b7_lengthIf 129 = .ok (.iload_n 1, 1) := by decide +kernel
theorem d7_lengthIf_130 : decode b7_lengthIf 130 = .ok (.iadd, 1) := by decide +kernel
theorem d7_lengthIf_131 : decode b7_lengthIf 131 = .ok (.iastore, 1) := by decide +kernel
theorem d7_lengthIf_132 : decode b7_lengthIf 132 = .ok (.aload_n 0, 1) := by decide +kernel
theorem d7_lengthIf_133 : decode b7_lengthIf 133 = .ok (.invokevirtual 254, 3) := by decide +kernel
theorem d7_lengthIf_136 : decode b7_lengthIf 136 = .ok (.aload_n 0, 1) := by decide +kernel
theorem d7_lengthIf_137 : decode b7_lengthIf 137 = .ok (.invokevirtual 339, 3) := by decide +kernel
theorem d7_lengthIf_140 : decode b7_lengthIf 140 = .ok (.istore 4, 2) := by decide +kernel
theorem d7_lengthIf_142 : decode b7_lengthIf 142 = .ok (.aload_n 0, 1) := by decide +kernel
theorem d7_lengthIf_143 : decode b7_lengthIf 143 = .ok (.iload 4, 2) := by decide +kernel
theorem d7_lengthIf_145 : decode b7_lengthIf 145 = .ok (.sipush 400, 3) := by decide +kernel
theorem d7_lengthIf_148 : decode b7_lengthIf 148 = .ok (.if_icmp .le 7, 3) := by decide +kernel
theorem d7_lengthIf_155 : decode b7_lengthIf 155 = .ok (.iload 4, 2) := by decide +kernel
theorem d7_lengthIf_151 : decode b7_lengthIf 151 = .ok (.iconst (-1), 1) := by decide +kernel
theorem d7_lengthIf_152 : decode b7_lengthIf 152 = .ok (.goto 5, 3) := by decide +kernel
theorem d7_lengthIf_97 : decode b7_lengthIf 97 = .ok (.iconst (-1), 1) := by decide +kernel
theorem d7_lengthIf_98 : decode b7_lengthIf 98 = .ok (.ireturn, 1) := by decide +kernel
theorem d7_lengthIf_157 : decode b7_lengthIf 157 = .ok (.invokevirtual 380, 3) := by decide +kernel
theorem d7_lengthIf_160 : decode b7_lengthIf 160 = .ok (.ireturn, 1) := by decide +kernel
theorem d7_wouldHide_0 : decode b7_wouldHide 0 = .ok (.aload_n 0, 1) := by decide +kernel
theorem d7_wouldHide_1 : decode b7_wouldHide 1 = .ok (.iconst 0, 1) := by decide +kernel
theorem d7_wouldHide_2 : decode b7_wouldHide 2 = .ok (.putfield 79, 3) := by decide +kernel
theorem d7_wouldHide_5 : decode b7_wouldHide 5 = .ok (.aload_n 0, 1) := by decide +kernel
theorem d7_wouldHide_6 : decode b7_wouldHide 6 = .ok (.iload_n 1, 1) := by decide +kernel
theorem d7_wouldHide_7 : decode b7_wouldHide 7 = .ok (.invokestatic 333, 3) := by decide +kernel
theorem d7_wouldHide_10 : decode b7_wouldHide 10 = .ok (.ifCond .ne 7, 3) := by decide +kernel
theorem d7_wouldHide_17 : decode b7_wouldHide 17 = .ok (.iconst 0, 1) := by decide +kernel
theorem d7_wouldHide_13 : decode b7_wouldHide 13 = .ok (.iconst 1, 1) := by decide +kernel
theorem d7_wouldHide_14 : decode b7_wouldHide 14 = .ok (.goto 4, 3) := by decide +kernel
theorem d7_wouldHide_18 : decode b7_wouldHide 18 = .ok (.iconst 1, 1) := by decide +kernel
theorem d7_wouldHide_19 : decode b7_wouldHide 19 = .ok (.invokevirtual 89, 3) := by decide +kernel
theorem d7_wouldHide_22 : decode b7_wouldHide 22 = .ok (.ifCond .ne 11, 3) := by decide +kernel
theorem d7_wouldHide_33 : decode b7_wouldHide 33 = .ok (.iconst 0, 1) := by decide +kernel
theorem d7_wouldHide_34 : decode b7_wouldHide 34 = .ok (.ireturn, 1) := by decide +kernel
theorem d7_wouldHide_25 : decode b7_wouldHide 25 = .ok (.aload_n 0, 1) := by decide +kernel
theorem d7_wouldHide_26 : decode b7_wouldHide 26 = .ok (.iconst 2, 1) := by decide +kernel
theorem d7_wouldHide_27 : decode b7_wouldHide 27 = .ok (.invokevirtual 342, 3) := by decide +kernel
theorem d7_wouldHide_30 : decode b7_wouldHide 30 = .ok (.ifCond .eq 5, 3) := by decide +kernel
theorem d7_wouldHide_35 : decode b7_wouldHide 35 = .ok (.aload_n 0, 1) := by decide +kernel
theorem d7_wouldHide_36 : decode b7_wouldHide 36 = .ok (.iload_n 1, 1) := by decide +kernel
theorem d7_wouldHide_37 : decode b7_wouldHide 37 = .ok (.invokevirtual 265, 3) := by decide +kernel
theorem d7_wouldHide_40 : decode b7_wouldHide 40 = .ok (.ifCond .eq 5, 3) := by decide +kernel
theorem d7_wouldHide_45 : decode b7_wouldHide 45 = .ok (.aload_n 0, 1) := by decide +kernel
theorem d7_wouldHide_46 : decode b7_wouldHide 46 = .ok (.getfield 257, 3) := by decide +kernel
theorem d7_wouldHide_49 : decode b7_wouldHide 49 = .ok (.istore_n 2, 1) := by decide +kernel
theorem d7_wouldHide_50 : decode b7_wouldHide 50 = .ok (.aload_n 0, 1) := by decide +kernel
theorem d7_wouldHide_51 : decode b7_wouldHide 51 = .ok (.getfield 7, 3) := by decide +kernel
theorem d7_wouldHide_54 : decode b7_wouldHide 54 = .ok (.iconst 0, 1) := by decide +kernel
theorem d7_wouldHide_55 : decode b7_wouldHide 55 = .ok (.aload_n 0, 1) := by decide +kernel
theorem d7_wouldHide_56 : decode b7_wouldHide 56 = .ok (.getfield 13, 3) := by decide +kernel
theorem d7_wouldHide_59 : decode b7_wouldHide 59 = .ok (.iconst 0, 1) := by decide +kernel
theorem d7_wouldHide_60 : decode b7_wouldHide 60 = .ok (.invokestatic 376, 3) := by decide +kernel
theorem d7_wouldHide_63 : decode b7_wouldHide 63 = .ok (.aload_n 0, 1) := by decide +kernel
theorem d7_wouldHide_64 : decode b7_wouldHide 64 = .ok (.getfield 7, 3) := by decide +kernel
theorem d7_wouldHide_67 : decode b7_wouldHide 67 = .ok (.aload_n 0, 1) := by decide +kernel
theorem d7_wouldHide_68 : decode b7_wouldHide 68 = .ok (.getfield 251, 3) := by decide +kernel
theorem d7_wouldHide_71 : decode b7_wouldHide 71 = .ok (.iconst 2, 1) := by decide +kernel
theorem d7_wouldHide_72 : decode b7_wouldHide 72 = .ok (.iadd, 1) := by decide +kernel
theorem d7_wouldHide_73 : decode b7_wouldHide 73 = .ok (.dup2, 1) := by decide +kernel
theorem d7_wouldHide_74 : decode b7_wouldHide 74 = .ok (.iaload, 1) := by decide +kernel
theorem d7_wouldHide_75 : decode b7_wouldHide 75 = .ok (.iconst 1, 1) := by decide +kernel
theorem d7_wouldHide_76 : decode b7_wouldHide 76 = .ok (.iload_n 1, 1) := by decide +kernel
theorem d7_wouldHide_77 : decode b7_wouldHide 77 = .ok (.ishl, 1) := by decide +kernel
theorem d7_wouldHide_78 : decode b7_wouldHide 78 = .ok (.ior, 1) := by decide +kernel
theorem d7_wouldHide_79 : decode b7_wouldHide 79 = .ok (.iastore, 1) := by decide +kernel
theorem d7_wouldHide_80 : decode b7_wouldHide 80 = .ok (.aload_n 0, 1) := by decide +kernel
theorem d7_wouldHide_81 : decode b7_wouldHide 81 = .ok (.invokevirtual 254, 3) := by decide +kernel
theorem d7_wouldHide_84 : decode b7_wouldHide 84 = .ok (.aload_n 0, 1) := by decide +kernel
theorem d7_wouldHide_85 : decode b7_wouldHide 85 = .ok (.iload_n 2, 1) := by decide +kernel
theorem d7_wouldHide_86 : decode b7_wouldHide 86 = .ok (.aload_n 0, 1) := by decide +kernel
theorem d7_wouldHide_87 : decode b7_wouldHide 87 = .ok (.getfield 257, 3) := by decide +kernel
theorem d7_wouldHide_90 : decode b7_wouldHide 90 = .ok (.iconst (-1), 1) := by decide +kernel
theorem d7_wouldHide_91 : decode b7_wouldHide 91 = .ok (.ixor, 1) := by decide +kernel
theorem d7_wouldHide_92 : decode b7_wouldHide 92 = .ok (.iand, 1) := by decide +kernel
theorem d7_wouldHide_93 : decode b7_wouldHide 93 = .ok (.iconst 1, 1) := by decide +kernel
theorem d7_wouldHide_94 : decode b7_wouldHide 94 = .ok (.iload_n 1, 1) := by decide +kernel
theorem d7_wouldHide_95 : decode b7_wouldHide 95 = .ok (.ishl, 1) := by decide +kernel
theorem d7_wouldHide_96 : decode b7_wouldHide 96 = .ok (.iconst (-1), 1) := by decide +kernel
theorem d7_wouldHide_97 : decode b7_wouldHide 97 = .ok (.ixor, 1) := by decide +kernel
theorem d7_wouldHide_98 : decode b7_wouldHide 98 = .ok (.iand, 1) := by decide +kernel
theorem d7_wouldHide_99 : decode b7_wouldHide 99 = .ok (.invokevirtual 380, 3) := by decide +kernel
theorem d7_wouldHide_102 : decode b7_wouldHide 102 = .ok (.ireturn, 1) := by decide +kernel
theorem d7_wouldHide_43 : decode b7_wouldHide 43 = .ok (.iconst 0, 1) := by decide +kernel
theorem d7_wouldHide_44 : decode b7_wouldHide 44 = .ok (.ireturn, 1) := by decide +kernel
theorem d7_lengthOf_0 : decode b7_lengthOf 0 = .ok (.aload_n 0, 1) := by decide +kernel
theorem d7_lengthOf_1 : decode b7_lengthOf 1 = .ok (.iconst 0, 1) := by decide +kernel
theorem d7_lengthOf_2 : decode b7_lengthOf 2 = .ok (.putfield 79, 3) := by decide +kernel
theorem d7_lengthOf_5 : decode b7_lengthOf 5 = .ok (.aload_n 0, 1) := by decide +kernel
theorem d7_lengthOf_6 : decode b7_lengthOf 6 = .ok (.iload_n 1, 1) := by decide +kernel
theorem d7_lengthOf_7 : decode b7_lengthOf 7 = .ok (.invokevirtual 321, 3) := by decide +kernel
theorem d7_lengthOf_10 : decode b7_lengthOf 10 = .ok (.ifCond .eq 5, 3) := by decide +kernel
theorem d7_lengthOf_15 : decode b7_lengthOf 15 = .ok (.aload_n 0, 1) := by decide +kernel
theorem d7_lengthOf_16 : decode b7_lengthOf 16 = .ok (.iload_n 1, 1) := by decide +kernel
theorem d7_lengthOf_17 : decode b7_lengthOf 17 = .ok (.invokevirtual 383, 3) := by decide +kernel
theorem d7_lengthOf_20 : decode b7_lengthOf 20 = .ok (.aload_n 0, 1) := by decide +kernel
theorem d7_lengthOf_21 : decode b7_lengthOf 21 = .ok (.invokevirtual 339, 3) := by decide +kernel
theorem d7_lengthOf_24 : decode b7_lengthOf 24 = .ok (.ireturn, 1) := by decide +kernel
theorem d7_lengthOf_13 : decode b7_lengthOf 13 = .ok (.iconst 0, 1) := by decide +kernel
theorem d7_lengthOf_14 : decode b7_lengthOf 14 = .ok (.ireturn, 1) := by decide +kernel
theorem d7_begins_0 : decode b7_begins 0 = .ok (.aload_n 0, 1) := by decide +kernel
theorem d7_begins_1 : decode b7_begins 1 = .ok (.getfield 7, 3) := by decide +kernel
theorem d7_begins_4 : decode b7_begins 4 = .ok (.iconst 0, 1) := by decide +kernel
theorem d7_begins_5 : decode b7_begins 5 = .ok (.aload_n 0, 1) := by decide +kernel
theorem d7_begins_6 : decode b7_begins 6 = .ok (.getfield 13, 3) := by decide +kernel
theorem d7_begins_9 : decode b7_begins 9 = .ok (.iconst 0, 1) := by decide +kernel
theorem d7_begins_10 : decode b7_begins 10 = .ok (.invokestatic 376, 3) := by decide +kernel
theorem d7_begins_13 : decode b7_begins 13 = .ok (.return_, 1) := by decide +kernel
theorem d7_done_0 : decode b7_done 0 = .ok (.aload_n 0, 1) := by decide +kernel
theorem d7_done_1 : decode b7_done 1 = .ok (.getfield 246, 3) := by decide +kernel
theorem d7_done_4 : decode b7_done 4 = .ok (.bipush 8, 2) := by decide +kernel
theorem d7_done_6 : decode b7_done 6 = .ok (.if_icmp .ne 52, 3) := by decide +kernel
theorem d7_done_9 : decode b7_done 9 = .ok (.aload_n 0, 1) := by decide +kernel
theorem d7_done_10 : decode b7_done 10 = .ok (.dup, 1) := by decide +kernel
theorem d7_done_11 : decode b7_done 11 = .ok (.getfield 246, 3) := by decide +kernel
theorem d7_done_14 : decode b7_done 14 = .ok (.iconst 1, 1) := by decide +kernel
theorem d7_done_15 : decode b7_done 15 = .ok (.isub, 1) := by decide +kernel
theorem d7_done_16 : decode b7_done 16 = .ok (.putfield 246, 3) := by decide +kernel
theorem d7_done_19 : decode b7_done 19 = .ok (.iconst 0, 1) := by decide +kernel
theorem d7_done_20 : decode b7_done 20 = .ok (.istore_n 2, 1) := by decide +kernel
theorem d7_done_58 : decode b7_done 58 = .ok (.aload_n 0, 1) := by decide +kernel
theorem d7_done_59 : decode b7_done 59 = .ok (.getfield 13, 3) := by decide +kernel
theorem d7_done_62 : decode b7_done 62 = .ok (.iconst 0, 1) := by decide +kernel
theorem d7_done_63 : decode b7_done 63 = .ok (.aload_n 0, 1) := by decide +kernel
theorem d7_done_64 : decode b7_done 64 = .ok (.getfield 16, 3) := by decide +kernel
theorem d7_done_67 : decode b7_done 67 = .ok (.sipush 2256, 3) := by decide +kernel
theorem d7_done_70 : decode b7_done 70 = .ok (.aload_n 0, 1) := by decide +kernel
theorem d7_done_71 : decode b7_done 71 = .ok (.getfield 246, 3) := by decide +kernel
theorem d7_done_74 : decode b7_done 74 = .ok (.imul, 1) := by decide +kernel
theorem d7_done_75 : decode b7_done 75 = .ok (.invokestatic 376, 3) := by decide +kernel
theorem d7_done_78 : decode b7_done 78 = .ok (.aload_n 0, 1) := by decide +kernel
theorem d7_done_79 : decode b7_done 79 = .ok (.dup, 1) := by decide +kernel
theorem d7_done_80 : decode b7_done 80 = .ok (.getfield 246, 3) := by decide +kernel
theorem d7_done_83 : decode b7_done 83 = .ok (.iconst 1, 1) := by decide +kernel
theorem d7_done_84 : decode b7_done 84 = .ok (.iadd, 1) := by decide +kernel
theorem d7_done_85 : decode b7_done 85 = .ok (.putfield 246, 3) := by decide +kernel
theorem d7_done_88 : decode b7_done 88 = .ok (.aload_n 0, 1) := by decide +kernel
theorem d7_done_89 : decode b7_done 89 = .ok (.getfield 26, 3) := by decide +kernel
theorem d7_done_92 : decode b7_done 92 = .ok (.iconst 0, 1) := by decide +kernel
theorem d7_done_93 : decode b7_done 93 = .ok (.dup2, 1) := by decide +kernel
theorem d7_done_94 : decode b7_done 94 = .ok (.iaload, 1) := by decide +kernel
theorem d7_done_95 : decode b7_done 95 = .ok (.iconst 1, 1) := by decide +kernel
theorem d7_done_96 : decode b7_done 96 = .ok (.iadd, 1) := by decide +kernel
theorem d7_done_97 : decode b7_done 97 = .ok (.iastore, 1) := by decide +kernel
theorem d7_done_98 : decode b7_done 98 = .ok (.iload_n 1, 1) := by decide +kernel
theorem d7_done_99 : decode b7_done 99 = .ok (.ireturn, 1) := by decide +kernel
theorem d7_done_21 : decode b7_done 21 = .ok (.iload_n 2, 1) := by decide +kernel
theorem d7_done_22 : decode b7_done 22 = .ok (.aload_n 0, 1) := by decide +kernel
theorem d7_done_23 : decode b7_done 23 = .ok (.getfield 246, 3) := by decide +kernel
theorem d7_done_26 : decode b7_done 26 = .ok (.if_icmp .ge 32, 3) := by decide +kernel
theorem d7_done_29 : decode b7_done 29 = .ok (.aload_n 0, 1) := by decide +kernel
theorem d7_done_30 : decode b7_done 30 = .ok (.getfield 16, 3) := by decide +kernel
theorem d7_done_33 : decode b7_done 33 = .ok (.sipush 2256, 3) := by decide +kernel
theorem d7_done_36 : decode b7_done 36 = .ok (.iload_n 2, 1) := by decide +kernel
theorem d7_done_37 : decode b7_done 37 = .ok (.iconst 1, 1) := by decide +kernel
theorem d7_done_38 : decode b7_done 38 = .ok (.iadd, 1) := by decide +kernel
theorem d7_done_39 : decode b7_done 39 = .ok (.imul, 1) := by decide +kernel
theorem d7_done_40 : decode b7_done 40 = .ok (.aload_n 0, 1) := by decide +kernel
theorem d7_done_41 : decode b7_done 41 = .ok (.getfield 16, 3) := by decide +kernel
theorem d7_done_44 : decode b7_done 44 = .ok (.sipush 2256, 3) := by decide +kernel
theorem d7_done_47 : decode b7_done 47 = .ok (.iload_n 2, 1) := by decide +kernel
theorem d7_done_48 : decode b7_done 48 = .ok (.imul, 1) := by decide +kernel
theorem d7_done_49 : decode b7_done 49 = .ok (.invokestatic 376, 3) := by decide +kernel
theorem d7_done_52 : decode b7_done 52 = .ok (.iinc 2 1, 3) := by decide +kernel
theorem d7_done_55 : decode b7_done 55 = .ok (.goto (-34), 3) := by decide +kernel
theorem d7_refused_0 : decode b7_refused 0 = .ok (.aload_n 0, 1) := by decide +kernel
theorem d7_refused_1 : decode b7_refused 1 = .ok (.getfield 26, 3) := by decide +kernel
theorem d7_refused_4 : decode b7_refused 4 = .ok (.iload_n 1, 1) := by decide +kernel
theorem d7_refused_5 : decode b7_refused 5 = .ok (.dup2, 1) := by decide +kernel
theorem d7_refused_6 : decode b7_refused 6 = .ok (.iaload, 1) := by decide +kernel
theorem d7_refused_7 : decode b7_refused 7 = .ok (.iconst 1, 1) := by decide +kernel
theorem d7_refused_8 : decode b7_refused 8 = .ok (.iadd, 1) := by decide +kernel
theorem d7_refused_9 : decode b7_refused 9 = .ok (.iastore, 1) := by decide +kernel
theorem d7_refused_10 : decode b7_refused 10 = .ok (.aload_n 0, 1) := by decide +kernel
theorem d7_refused_11 : decode b7_refused 11 = .ok (.getfield 13, 3) := by decide +kernel
theorem d7_refused_14 : decode b7_refused 14 = .ok (.iconst 0, 1) := by decide +kernel
theorem d7_refused_15 : decode b7_refused 15 = .ok (.aload_n 0, 1) := by decide +kernel
theorem d7_refused_16 : decode b7_refused 16 = .ok (.getfield 7, 3) := by decide +kernel
theorem d7_refused_19 : decode b7_refused 19 = .ok (.iconst 0, 1) := by decide +kernel
theorem d7_refused_20 : decode b7_refused 20 = .ok (.invokestatic 376, 3) := by decide +kernel
theorem d7_refused_23 : decode b7_refused 23 = .ok (.iload_n 1, 1) := by decide +kernel
theorem d7_refused_24 : decode b7_refused 24 = .ok (.ineg, 1) := by decide +kernel
theorem d7_refused_25 : decode b7_refused 25 = .ok (.ireturn, 1) := by decide +kernel
theorem d7_isTooLong_0 : decode b7_isTooLong 0 = .ok (.aload_n 0, 1) := by decide +kernel
theorem d7_isTooLong_1 : decode b7_isTooLong 1 = .ok (.iload_n 1, 1) := by decide +kernel
theorem d7_isTooLong_2 : decode b7_isTooLong 2 = .ok (.invokevirtual 336, 3) := by decide +kernel
theorem d7_isTooLong_5 : decode b7_isTooLong 5 = .ok (.aload_n 0, 1) := by decide +kernel
theorem d7_isTooLong_6 : decode b7_isTooLong 6 = .ok (.invokevirtual 339, 3) := by decide +kernel
theorem d7_isTooLong_9 : decode b7_isTooLong 9 = .ok (.sipush 400, 3) := by decide +kernel
theorem d7_isTooLong_12 : decode b7_isTooLong 12 = .ok (.if_icmp .le 7, 3) := by decide +kernel
theorem d7_isTooLong_19 : decode b7_isTooLong 19 = .ok (.iconst 0, 1) := by decide +kernel
theorem d7_isTooLong_20 : decode b7_isTooLong 20 = .ok (.ireturn, 1) := by decide +kernel
theorem d7_isTooLong_15 : decode b7_isTooLong 15 = .ok (.iconst 1, 1) := by decide +kernel
theorem d7_isTooLong_16 : decode b7_isTooLong 16 = .ok (.goto 4, 3) := by decide +kernel
theorem d7_types_0 : decode b7_types 0 = .ok (.sipush 604, 3) := by decide +kernel
theorem d7_types_3 : decode b7_types 3 = .ok (.sipush 413, 3) := by decide +kernel
theorem d7_types_6 : decode b7_types 6 = .ok (.iload_n 1, 1) := by decide +kernel
theorem d7_types_7 : decode b7_types 7 = .ok (.imul, 1) := by decide +kernel
theorem d7_types_8 : decode b7_types 8 = .ok (.iadd, 1) := by decide +kernel
theorem d7_types_9 : decode b7_types 9 = .ok (.istore 4, 2) := by decide +kernel
theorem d7_types_11 : decode b7_types 11 = .ok (.aload_n 0, 1) := by decide +kernel
theorem d7_types_12 : decode b7_types 12 = .ok (.getfield 7, 3) := by decide +kernel
theorem d7_types_15 : decode b7_types 15 = .ok (.iload 4, 2) := by decide +kernel
theorem d7_types_17 : decode b7_types 17 = .ok (.iconst 1, 1) := by decide +kernel
theorem d7_types_18 : decode b7_types 18 = .ok (.iadd, 1) := by decide +kernel
theorem d7_types_19 : decode b7_types 19 = .ok (.iaload, 1) := by decide +kernel
theorem d7_types_20 : decode b7_types 20 = .ok (.istore 5, 2) := by decide +kernel
theorem d7_types_22 : decode b7_types 22 = .ok (.aload_n 0, 1) := by decide +kernel
theorem d7_types_23 : decode b7_types 23 = .ok (.getfield 7, 3) := by decide +kernel
theorem d7_types_26 : decode b7_types 26 = .ok (.iload 4, 2) := by decide +kernel
theorem d7_types_28 : decode b7_types 28 = .ok (.iconst 2, 1) := by decide +kernel
theorem d7_types_29 : decode b7_types 29 = .ok (.iadd, 1) := by decide +kernel
theorem d7_types_30 : decode b7_types 30 = .ok (.iaload, 1) := by decide +kernel
theorem d7_types_31 : decode b7_types 31 = .ok (.iload 5, 2) := by decide +kernel
theorem d7_types_33 : decode b7_types 33 = .ok (.invokestatic 168, 3) := by decide +kernel
theorem d7_types_36 : decode b7_types 36 = .ok (.ifCond .eq 18, 3) := by decide +kernel
theorem d7_types_54 : decode b7_types 54 = .ok (.iconst 0, 1) := by decide +kernel
theorem d7_types_39 : decode b7_types 39 = .ok (.aload_n 0, 1) := by decide +kernel
theorem d7_types_40 : decode b7_types 40 = .ok (.getfield 7, 3) := by decide +kernel
theorem d7_types_43 : decode b7_types 43 = .ok (.iload 4, 2) := by decide +kernel
theorem d7_types_45 : decode b7_types 45 = .ok (.iconst 3, 1) := by decide +kernel
theorem d7_types_46 : decode b7_types 46 = .ok (.iadd, 1) := by decide +kernel
theorem d7_types_47 : decode b7_types 47 = .ok (.iload 5, 2) := by decide +kernel
theorem d7_types_49 : decode b7_types 49 = .ok (.iadd, 1) := by decide +kernel
theorem d7_types_50 : decode b7_types 50 = .ok (.iaload, 1) := by decide +kernel
theorem d7_types_51 : decode b7_types 51 = .ok (.goto 4, 3) := by decide +kernel
theorem d7_types_55 : decode b7_types 55 = .ok (.istore 6, 2) := by decide +kernel
theorem d7_types_57 : decode b7_types 57 = .ok (.iload 6, 2) := by decide +kernel
theorem d7_types_59 : decode b7_types 59 = .ok (.iload_n 3, 1) := by decide +kernel
theorem d7_types_60 : decode b7_types 60 = .ok (.iadd, 1) := by decide +kernel
theorem d7_types_61 : decode b7_types 61 = .ok (.bipush 40, 2) := by decide +kernel
theorem d7_types_63 : decode b7_types 63 = .ok (.if_icmp .le 5, 3) := by decide +kernel
theorem d7_types_68 : decode b7_types 68 = .ok (.iconst 0, 1) := by decide +kernel
theorem d7_types_69 : decode b7_types 69 = .ok (.istore 7, 2) := by decide +kernel
theorem d7_types_66 : decode b7_types 66 = .ok (.iconst 0, 1) := by decide +kernel
theorem d7_types_67 : decode b7_types 67 = .ok (.ireturn, 1) := by decide +kernel
theorem d7_types_71 : decode b7_types 71 = .ok (.iload 7, 2) := by decide +kernel
theorem d7_types_73 : decode b7_types 73 = .ok (.iload_n 3, 1) := by decide +kernel
theorem d7_types_74 : decode b7_types 74 = .ok (.if_icmp .ge 35, 3) := by decide +kernel
theorem d7_types_109 : decode b7_types 109 = .ok (.aload_n 0, 1) := by decide +kernel
theorem d7_types_110 : decode b7_types 110 = .ok (.getfield 7, 3) := by decide +kernel
theorem d7_types_113 : decode b7_types 113 = .ok (.iload 4, 2) := by decide +kernel
theorem d7_types_115 : decode b7_types 115 = .ok (.iconst 3, 1) := by decide +kernel
theorem d7_types_116 : decode b7_types 116 = .ok (.iadd, 1) := by decide +kernel
theorem d7_types_117 : decode b7_types 117 = .ok (.iload 5, 2) := by decide +kernel
theorem d7_types_119 : decode b7_types 119 = .ok (.iadd, 1) := by decide +kernel
theorem d7_types_120 : decode b7_types 120 = .ok (.iload 6, 2) := by decide +kernel
theorem d7_types_122 : decode b7_types 122 = .ok (.iload_n 3, 1) := by decide +kernel
theorem d7_types_123 : decode b7_types 123 = .ok (.iadd, 1) := by decide +kernel
theorem d7_types_124 : decode b7_types 124 = .ok (.iastore, 1) := by decide +kernel
theorem d7_types_125 : decode b7_types 125 = .ok (.aload_n 0, 1) := by decide +kernel
theorem d7_types_126 : decode b7_types 126 = .ok (.getfield 7, 3) := by decide +kernel
theorem d7_types_129 : decode b7_types 129 = .ok (.iload 4, 2) := by decide +kernel
theorem d7_types_131 : decode b7_types 131 = .ok (.iconst 2, 1) := by decide +kernel
theorem d7_types_132 : decode b7_types 132 = .ok (.iadd, 1) := by decide +kernel
theorem d7_types_133 : decode b7_types 133 = .ok (.dup2, 1) := by decide +kernel
theorem d7_types_134 : decode b7_types 134 = .ok (.iaload, 1) := by decide +kernel
theorem d7_types_135 : decode b7_types 135 = .ok (.iconst 1, 1) := by decide +kernel
theorem d7_types_136 : decode b7_types 136 = .ok (.iload 5, 2) := by decide +kernel
theorem d7_types_138 : decode b7_types 138 = .ok (.ishl, 1) := by decide +kernel
theorem d7_types_139 : decode b7_types 139 = .ok (.ior, 1) := by decide +kernel
theorem d7_types_140 : decode b7_types 140 = .ok (.iastore, 1) := by decide +kernel
theorem d7_types_141 : decode b7_types 141 = .ok (.iconst 1, 1) := by decide +kernel
theorem d7_types_142 : decode b7_types 142 = .ok (.ireturn, 1) := by decide +kernel
theorem d7_types_77 : decode b7_types 77 = .ok (.aload_n 0, 1) := by decide +kernel
theorem d7_types_78 : decode b7_types 78 = .ok (.getfield 7, 3) := by decide +kernel
theorem d7_types_81 : decode b7_types 81 = .ok (.iload 4, 2) := by decide +kernel
theorem d7_types_83 : decode b7_types 83 = .ok (.bipush 13, 2) := by decide +kernel
theorem d7_types_85 : decode b7_types 85 = .ok (.iadd, 1) := by decide +kernel
theorem d7_types_86 : decode b7_types 86 = .ok (.bipush 40, 2) := by decide +kernel
theorem d7_types_88 : decode b7_types 88 = .ok (.iload 5, 2) := by decide +kernel
theorem d7_types_90 : decode b7_types 90 = .ok (.imul, 1) := by decide +kernel
theorem d7_types_91 : decode b7_types 91 = .ok (.iadd, 1) := by decide +kernel
theorem d7_types_92 : decode b7_types 92 = .ok (.iload 6, 2) := by decide +kernel
theorem d7_types_94 : decode b7_types 94 = .ok (.iadd, 1) := by decide +kernel
theorem d7_types_95 : decode b7_types 95 = .ok (.iload 7, 2) := by decide +kernel
theorem d7_types_97 : decode b7_types 97 = .ok (.iadd, 1) := by decide +kernel
theorem d7_types_98 : decode b7_types 98 = .ok (.aload_n 2, 1) := by decide +kernel
theorem d7_types_99 : decode b7_types 99 = .ok (.iload 7, 2) := by decide +kernel
theorem d7_types_101 : decode b7_types 101 = .ok (.iaload, 1) := by decide +kernel
theorem d7_types_102 : decode b7_types 102 = .ok (.iastore, 1) := by decide +kernel
theorem d7_types_103 : decode b7_types 103 = .ok (.iinc 7 1, 3) := by decide +kernel
theorem d7_types_106 : decode b7_types 106 = .ok (.goto (-35), 3) := by decide +kernel
theorem d7_ends_0 : decode b7_ends 0 = .ok (.aload_n 0, 1) := by decide +kernel
theorem d7_ends_1 : decode b7_ends 1 = .ok (.getfield 7, 3) := by decide +kernel
theorem d7_ends_4 : decode b7_ends 4 = .ok (.iconst 0, 1) := by decide +kernel
theorem d7_ends_5 : decode b7_ends 5 = .ok (.iaload, 1) := by decide +kernel
theorem d7_ends_6 : decode b7_ends 6 = .ok (.iconst 1, 1) := by decide +kernel
theorem d7_ends_7 : decode b7_ends 7 = .ok (.isub, 1) := by decide +kernel
theorem d7_ends_8 : decode b7_ends 8 = .ok (.istore_n 1, 1) := by decide +kernel
theorem d7_ends_9 : decode b7_ends 9 = .ok (.aload_n 0, 1) := by decide +kernel
theorem d7_ends_10 : decode b7_ends 10 = .ok (.iload_n 1, 1) := by decide +kernel
theorem d7_ends_11 : decode b7_ends 11 = .ok (.invokevirtual 336, 3) := by decide +kernel
theorem d7_ends_14 : decode b7_ends 14 = .ok (.aload_n 0, 1) := by decide +kernel
theorem d7_ends_15 : decode b7_ends 15 = .ok (.invokevirtual 364, 3) := by decide +kernel
theorem d7_ends_18 : decode b7_ends 18 = .ok (.aload_n 0, 1) := by decide +kernel
theorem d7_ends_19 : decode b7_ends 19 = .ok (.getfield 7, 3) := by decide +kernel
theorem d7_ends_22 : decode b7_ends 22 = .ok (.iconst 0, 1) := by decide +kernel
theorem d7_ends_23 : decode b7_ends 23 = .ok (.iload_n 1, 1) := by decide +kernel
theorem d7_ends_24 : decode b7_ends 24 = .ok (.iastore, 1) := by decide +kernel
theorem d7_ends_25 : decode b7_ends 25 = .ok (.iload_n 1, 1) := by decide +kernel
theorem d7_ends_26 : decode b7_ends 26 = .ok (.ifCond .le 41, 3) := by decide +kernel
theorem d7_ends_67 : decode b7_ends 67 = .ok (.aload_n 0, 1) := by decide +kernel
theorem d7_ends_68 : decode b7_ends 68 = .ok (.getfield 7, 3) := by decide +kernel
theorem d7_ends_71 : decode b7_ends 71 = .ok (.iconst 2, 1) := by decide +kernel
theorem d7_ends_72 : decode b7_ends 72 = .ok (.iaload, 1) := by decide +kernel
theorem d7_ends_73 : decode b7_ends 73 = .ok (.aload_n 0, 1) := by decide +kernel
theorem d7_ends_74 : decode b7_ends 74 = .ok (.getfield 285, 3) := by decide +kernel
theorem d7_ends_77 : decode b7_ends 77 = .ok (.iadd, 1) := by decide +kernel
theorem d7_ends_78 : decode b7_ends 78 = .ok (.sipush 600, 3) := by decide +kernel
theorem d7_ends_81 : decode b7_ends 81 = .ok (.if_icmp .le 6, 3) := by decide +kernel
theorem d7_ends_87 : decode b7_ends 87 = .ok (.iconst 0, 1) := by decide +kernel
theorem d7_ends_88 : decode b7_ends 88 = .ok (.istore_n 2, 1) := by decide +kernel
theorem d7_ends_84 : decode b7_ends 84 = .ok (.bipush 9, 2) := by decide +kernel
theorem d7_ends_86 : decode b7_ends 86 = .ok (.ireturn, 1) := by decide +kernel
theorem d7_ends_29 : decode b7_ends 29 = .ok (.aload_n 0, 1) := by decide +kernel
theorem d7_ends_30 : decode b7_ends 30 = .ok (.iload_n 1, 1) := by decide +kernel
theorem d7_ends_31 : decode b7_ends 31 = .ok (.iconst 1, 1) := by decide +kernel
theorem d7_ends_32 : decode b7_ends 32 = .ok (.isub, 1) := by decide +kernel
theorem d7_ends_33 : decode b7_ends 33 = .ok (.aload_n 0, 1) := by decide +kernel
theorem d7_ends_34 : decode b7_ends 34 = .ok (.getfield 61, 3) := by decide +kernel
theorem d7_ends_37 : decode b7_ends 37 = .ok (.aload_n 0, 1) := by decide +kernel
theorem d7_ends_38 : decode b7_ends 38 = .ok (.getfield 285, 3) := by decide +kernel
theorem d7_ends_41 : decode b7_ends 41 = .ok (.invokevirtual 386, 3) := by decide +kernel
theorem d7_ends_44 : decode b7_ends 44 = .ok (.ifCond .ne 7, 3) := by decide +kernel
theorem d7_ends_51 : decode b7_ends 51 = .ok (.aload_n 0, 1) := by decide +kernel
theorem d7_ends_52 : decode b7_ends 52 = .ok (.iload_n 1, 1) := by decide +kernel
theorem d7_ends_53 : decode b7_ends 53 = .ok (.iconst 1, 1) := by decide +kernel
theorem d7_ends_54 : decode b7_ends 54 = .ok (.isub, 1) := by decide +kernel
theorem d7_ends_55 : decode b7_ends 55 = .ok (.invokevirtual 390, 3) := by decide +kernel
theorem d7_ends_58 : decode b7_ends 58 = .ok (.ifCond .eq 7, 3) := by decide +kernel
theorem d7_ends_65 : decode b7_ends 65 = .ok (.iconst 0, 1) := by decide +kernel
theorem d7_ends_66 : decode b7_ends 66 = .ok (.ireturn, 1) := by decide +kernel
theorem d7_ends_61 : decode b7_ends 61 = .ok (.iconst 3, 1) := by decide +kernel
theorem d7_ends_62 : decode b7_ends 62 = .ok (.goto 4, 3) := by decide +kernel
theorem d7_ends_47 : decode b7_ends 47 = .ok (.iconst 4, 1) := by decide +kernel
theorem d7_ends_48 : decode b7_ends 48 = .ok (.goto 18, 3) := by decide +kernel
theorem d7_ends_89 : decode b7_ends 89 = .ok (.iload_n 2, 1) := by decide +kernel
theorem d7_ends_90 : decode b7_ends 90 = .ok (.aload_n 0, 1) := by decide +kernel
theorem d7_ends_91 : decode b7_ends 91 = .ok (.getfield 285, 3) := by decide +kernel
theorem d7_ends_94 : decode b7_ends 94 = .ok (.if_icmp .ge 30, 3) := by decide +kernel
theorem d7_ends_124 : decode b7_ends 124 = .ok (.aload_n 0, 1) := by decide +kernel
theorem d7_ends_125 : decode b7_ends 125 = .ok (.getfield 7, 3) := by decide +kernel
theorem d7_ends_128 : decode b7_ends 128 = .ok (.iconst 2, 1) := by decide +kernel
theorem d7_ends_129 : decode b7_ends 129 = .ok (.dup2, 1) := by decide +kernel
theorem d7_ends_130 : decode b7_ends 130 = .ok (.iaload, 1) := by decide +kernel
theorem d7_ends_131 : decode b7_ends 131 = .ok (.aload_n 0, 1) := by decide +kernel
theorem d7_ends_132 : decode b7_ends 132 = .ok (.getfield 285, 3) := by decide +kernel
theorem d7_ends_135 : decode b7_ends 135 = .ok (.iadd, 1) := by decide +kernel
theorem d7_ends_136 : decode b7_ends 136 = .ok (.iastore, 1) := by decide +kernel
theorem d7_ends_137 : decode b7_ends 137 = .ok (.iconst 0, 1) := by decide +kernel
theorem d7_ends_138 : decode b7_ends 138 = .ok (.ireturn, 1) := by decide +kernel
theorem d7_ends_97 : decode b7_ends 97 = .ok (.aload_n 0, 1) := by decide +kernel
theorem d7_ends_98 : decode b7_ends 98 = .ok (.getfield 7, 3) := by decide +kernel
theorem d7_ends_101 : decode b7_ends 101 = .ok (.iconst 4, 1) := by decide +kernel
theorem d7_ends_102 : decode b7_ends 102 = .ok (.aload_n 0, 1) := by decide +kernel
theorem d7_ends_103 : decode b7_ends 103 = .ok (.getfield 7, 3) := by decide +kernel
theorem d7_ends_106 : decode b7_ends 106 = .ok (.iconst 2, 1) := by decide +kernel
theorem d7_ends_107 : decode b7_ends 107 = .ok (.iaload, 1) := by decide +kernel
theorem d7_ends_108 : decode b7_ends 108 = .ok (.iadd, 1) := by decide +kernel
theorem d7_ends_109 : decode b7_ends 109 = .ok (.iload_n 2, 1) := by decide +kernel
theorem d7_ends_110 : decode b7_ends 110 = .ok (.iadd, 1) := by decide +kernel
theorem d7_ends_111 : decode b7_ends 111 = .ok (.aload_n 0, 1) := by decide +kernel
theorem d7_ends_112 : decode b7_ends 112 = .ok (.getfield 61, 3) := by decide +kernel
theorem d7_ends_115 : decode b7_ends 115 = .ok (.iload_n 2, 1) := by decide +kernel
theorem d7_ends_116 : decode b7_ends 116 = .ok (.iaload, 1) := by decide +kernel
theorem d7_ends_117 : decode b7_ends 117 = .ok (.iastore, 1) := by decide +kernel
theorem d7_ends_118 : decode b7_ends 118 = .ok (.iinc 2 1, 3) := by decide +kernel
theorem d7_ends_121 : decode b7_ends 121 = .ok (.goto (-32), 3) := by decide +kernel
theorem d7_tells_0 : decode b7_tells 0 = .ok (.iload_n 1, 1) := by decide +kernel
theorem d7_tells_1 : decode b7_tells 1 = .ok (.ifCond .le 11, 3) := by decide +kernel
theorem d7_tells_12 : decode b7_tells 12 = .ok (.aload_n 0, 1) := by decide +kernel
theorem d7_tells_13 : decode b7_tells 13 = .ok (.iload_n 2, 1) := by decide +kernel
theorem d7_tells_14 : decode b7_tells 14 = .ok (.invokevirtual 396, 3) := by decide +kernel
theorem d7_tells_17 : decode b7_tells 17 = .ok (.ireturn, 1) := by decide +kernel
theorem d7_tells_4 : decode b7_tells 4 = .ok (.aload_n 0, 1) := by decide +kernel
theorem d7_tells_5 : decode b7_tells 5 = .ok (.iload_n 1, 1) := by decide +kernel
theorem d7_tells_6 : decode b7_tells 6 = .ok (.invokevirtual 393, 3) := by decide +kernel
theorem d7_tells_9 : decode b7_tells 9 = .ok (.goto 8, 3) := by decide +kernel
theorem d7_expand_0 : decode b7_expand 0 = .ok (.aload_n 0, 1) := by decide +kernel
theorem d7_expand_1 : decode b7_expand 1 = .ok (.iconst 0, 1) := by decide +kernel
theorem d7_expand_2 : decode b7_expand 2 = .ok (.putfield 79, 3) := by decide +kernel
theorem d7_expand_5 : decode b7_expand 5 = .ok (.aload_n 0, 1) := by decide +kernel
theorem d7_expand_6 : decode b7_expand 6 = .ok (.iload_n 1, 1) := by decide +kernel
theorem d7_expand_7 : decode b7_expand 7 = .ok (.invokevirtual 321, 3) := by decide +kernel
theorem d7_expand_10 : decode b7_expand 10 = .ok (.ifCond .eq 5, 3) := by decide +kernel
theorem d7_expand_15 : decode b7_expand 15 = .ok (.aload_n 0, 1) := by decide +kernel
theorem d7_expand_16 : decode b7_expand 16 = .ok (.invokevirtual 399, 3) := by decide +kernel
theorem d7_expand_19 : decode b7_expand 19 = .ok (.aload_n 0, 1) := by decide +kernel
theorem d7_expand_20 : decode b7_expand 20 = .ok (.getfield 7, 3) := by decide +kernel
theorem d7_expand_23 : decode b7_expand 23 = .ok (.iconst 0, 1) := by decide +kernel
theorem d7_expand_24 : decode b7_expand 24 = .ok (.iaload, 1) := by decide +kernel
theorem d7_expand_25 : decode b7_expand 25 = .ok (.iconst 4, 1) := by decide +kernel
theorem d7_expand_26 : decode b7_expand 26 = .ok (.if_icmp .ne 9, 3) := by decide +kernel
theorem d7_expand_35 : decode b7_expand 35 = .ok (.sipush 604, 3) := by decide +kernel
theorem d7_expand_38 : decode b7_expand 38 = .ok (.sipush 413, 3) := by decide +kernel
theorem d7_expand_41 : decode b7_expand 41 = .ok (.aload_n 0, 1) := by decide +kernel
theorem d7_expand_42 : decode b7_expand 42 = .ok (.getfield 7, 3) := by decide +kernel
theorem d7_expand_45 : decode b7_expand 45 = .ok (.iconst 0, 1) := by decide +kernel
theorem d7_expand_46 : decode b7_expand 46 = .ok (.iaload, 1) := by decide +kernel
theorem d7_expand_47 : decode b7_expand 47 = .ok (.imul, 1) := by decide +kernel
theorem d7_expand_48 : decode b7_expand 48 = .ok (.iadd, 1) := by decide +kernel
theorem d7_expand_49 : decode b7_expand 49 = .ok (.istore_n 2, 1) := by decide +kernel
theorem d7_expand_50 : decode b7_expand 50 = .ok (.iconst 0, 1) := by decide +kernel
theorem d7_expand_51 : decode b7_expand 51 = .ok (.istore_n 3, 1) := by decide +kernel
theorem d7_expand_29 : decode b7_expand 29 = .ok (.aload_n 0, 1) := by decide +kernel
theorem d7_expand_30 : decode b7_expand 30 = .ok (.iconst 2, 1) := by decide +kernel
theorem d7_expand_31 : decode b7_expand 31 = .ok (.invokevirtual 393, 3) := by decide +kernel
theorem d7_expand_34 : decode b7_expand 34 = .ok (.ireturn, 1) := by decide +kernel
theorem d7_expand_13 : decode b7_expand 13 = .ok (.iconst 0, 1) := by decide +kernel
theorem d7_expand_14 : decode b7_expand 14 = .ok (.ireturn, 1) := by decide +kernel
theorem d7_expand_52 : decode b7_expand 52 = .ok (.iload_n 3, 1) := by decide +kernel
theorem d7_expand_53 : decode b7_expand 53 = .ok (.sipush 413, 3) := by decide +kernel
theorem d7_expand_56 : decode b7_expand 56 = .ok (.if_icmp .ge 18, 3) := by decide +kernel
theorem d7_expand_74 : decode b7_expand 74 = .ok (.aload_n 0, 1) := by decide +kernel
theorem d7_expand_75 : decode b7_expand 75 = .ok (.getfield 7, 3) := by decide +kernel
theorem d7_expand_78 : decode b7_expand 78 = .ok (.iload_n 2, 1) := by decide +kernel
theorem d7_expand_79 : decode b7_expand 79 = .ok (.iconst 0, 1) := by decide +kernel
theorem d7_expand_80 : decode b7_expand 80 = .ok (.iadd, 1) := by decide +kernel
theorem d7_expand_81 : decode b7_expand 81 = .ok (.iload_n 1, 1) := by decide +kernel
theorem d7_expand_82 : decode b7_expand 82 = .ok (.iastore, 1) := by decide +kernel
theorem d7_expand_83 : decode b7_expand 83 = .ok (.aload_n 0, 1) := by decide +kernel
theorem d7_expand_84 : decode b7_expand 84 = .ok (.getfield 7, 3) := by decide +kernel
theorem d7_expand_87 : decode b7_expand 87 = .ok (.iconst 0, 1) := by decide +kernel
theorem d7_expand_88 : decode b7_expand 88 = .ok (.dup2, 1) := by decide +kernel
theorem d7_expand_89 : decode b7_expand 89 = .ok (.iaload, 1) := by decide +kernel
theorem d7_expand_90 : decode b7_expand 90 = .ok (.iconst 1, 1) := by decide +kernel
theorem d7_expand_91 : decode b7_expand 91 = .ok (.iadd, 1) := by decide +kernel
theorem d7_expand_92 : decode b7_expand 92 = .ok (.iastore, 1) := by decide +kernel
theorem d7_expand_93 : decode b7_expand 93 = .ok (.aload_n 0, 1) := by decide +kernel
theorem d7_expand_94 : decode b7_expand 94 = .ok (.aload_n 0, 1) := by decide +kernel
theorem d7_expand_95 : decode b7_expand 95 = .ok (.getfield 7, 3) := by decide +kernel
theorem d7_expand_98 : decode b7_expand 98 = .ok (.iconst 0, 1) := by decide +kernel
theorem d7_expand_99 : decode b7_expand 99 = .ok (.iaload, 1) := by decide +kernel
theorem d7_expand_100 : decode b7_expand 100 = .ok (.iconst 1, 1) := by decide +kernel
theorem d7_expand_101 : decode b7_expand 101 = .ok (.isub, 1) := by decide +kernel
theorem d7_expand_102 : decode b7_expand 102 = .ok (.invokevirtual 390, 3) := by decide +kernel
theorem d7_expand_105 : decode b7_expand 105 = .ok (.ifCond .eq 9, 3) := by decide +kernel
theorem d7_expand_114 : decode b7_expand 114 = .ok (.aload_n 0, 1) := by decide +kernel
theorem d7_expand_115 : decode b7_expand 115 = .ok (.invokevirtual 345, 3) := by decide +kernel
theorem d7_expand_118 : decode b7_expand 118 = .ok (.iconst 0, 1) := by decide +kernel
theorem d7_expand_119 : decode b7_expand 119 = .ok (.istore_n 3, 1) := by decide +kernel
theorem d7_expand_120 : decode b7_expand 120 = .ok (.aload_n 0, 1) := by decide +kernel
theorem d7_expand_121 : decode b7_expand 121 = .ok (.getfield 310, 3) := by decide +kernel
theorem d7_expand_124 : decode b7_expand 124 = .ok (.ifCond .ne 11, 3) := by decide +kernel
theorem d7_expand_135 : decode b7_expand 135 = .ok (.aload_n 0, 1) := by decide +kernel
theorem d7_expand_136 : decode b7_expand 136 = .ok (.getfield 7, 3) := by decide +kernel
theorem d7_expand_139 : decode b7_expand 139 = .ok (.iload_n 2, 1) := by decide +kernel
theorem d7_expand_140 : decode b7_expand 140 = .ok (.iconst 1, 1) := by decide +kernel
theorem d7_expand_141 : decode b7_expand 141 = .ok (.iadd, 1) := by decide +kernel
theorem d7_expand_142 : decode b7_expand 142 = .ok (.aload_n 0, 1) := by decide +kernel
theorem d7_expand_143 : decode b7_expand 143 = .ok (.getfield 70, 3) := by decide +kernel
theorem d7_expand_146 : decode b7_expand 146 = .ok (.iconst 0, 1) := by decide +kernel
theorem d7_expand_147 : decode b7_expand 147 = .ok (.iaload, 1) := by decide +kernel
theorem d7_expand_148 : decode b7_expand 148 = .ok (.iastore, 1) := by decide +kernel
theorem d7_expand_127 : decode b7_expand 127 = .ok (.aload_n 0, 1) := by decide +kernel
theorem d7_expand_128 : decode b7_expand 128 = .ok (.invokevirtual 402, 3) := by decide +kernel
theorem d7_expand_131 : decode b7_expand 131 = .ok (.istore_n 3, 1) := by decide +kernel
theorem d7_expand_132 : decode b7_expand 132 = .ok (.goto 17, 3) := by decide +kernel
theorem d7_expand_108 : decode b7_expand 108 = .ok (.aload_n 0, 1) := by decide +kernel
theorem d7_expand_109 : decode b7_expand 109 = .ok (.iconst 3, 1) := by decide +kernel
theorem d7_expand_110 : decode b7_expand 110 = .ok (.invokevirtual 393, 3) := by decide +kernel
theorem d7_expand_113 : decode b7_expand 113 = .ok (.ireturn, 1) := by decide +kernel
theorem d7_expand_59 : decode b7_expand 59 = .ok (.aload_n 0, 1) := by decide +kernel
theorem d7_expand_60 : decode b7_expand 60 = .ok (.getfield 7, 3) := by decide +kernel
theorem d7_expand_63 : decode b7_expand 63 = .ok (.iload_n 2, 1) := by decide +kernel
theorem d7_expand_64 : decode b7_expand 64 = .ok (.iload_n 3, 1) := by decide +kernel
theorem d7_expand_65 : decode b7_expand 65 = .ok (.iadd, 1) := by decide +kernel
theorem d7_expand_66 : decode b7_expand 66 = .ok (.iconst 0, 1) := by decide +kernel
theorem d7_expand_67 : decode b7_expand 67 = .ok (.iastore, 1) := by decide +kernel
theorem d7_expand_68 : decode b7_expand 68 = .ok (.iinc 3 1, 3) := by decide +kernel
theorem d7_expand_71 : decode b7_expand 71 = .ok (.goto (-19), 3) := by decide +kernel
theorem d7_expand_149 : decode b7_expand 149 = .ok (.aload_n 0, 1) := by decide +kernel
theorem d7_expand_150 : decode b7_expand 150 = .ok (.iload_n 3, 1) := by decide +kernel
theorem d7_expand_151 : decode b7_expand 151 = .ok (.aload_n 0, 1) := by decide +kernel
theorem d7_expand_152 : decode b7_expand 152 = .ok (.getfield 7, 3) := by decide +kernel
theorem d7_expand_155 : decode b7_expand 155 = .ok (.iconst 0, 1) := by decide +kernel
theorem d7_expand_156 : decode b7_expand 156 = .ok (.iaload, 1) := by decide +kernel
theorem d7_expand_157 : decode b7_expand 157 = .ok (.invokevirtual 405, 3) := by decide +kernel
theorem d7_expand_160 : decode b7_expand 160 = .ok (.ireturn, 1) := by decide +kernel
theorem d7_type_0 : decode b7_type 0 = .ok (.aload_n 0, 1) := by decide +kernel
theorem d7_type_1 : decode b7_type 1 = .ok (.iconst 0, 1) := by decide +kernel
theorem d7_type_2 : decode b7_type 2 = .ok (.putfield 79, 3) := by decide +kernel
theorem d7_type_5 : decode b7_type 5 = .ok (.aload_n 0, 1) := by decide +kernel
theorem d7_type_6 : decode b7_type 6 = .ok (.iload_n 1, 1) := by decide +kernel
theorem d7_type_7 : decode b7_type 7 = .ok (.iconst 1, 1) := by decide +kernel
theorem d7_type_8 : decode b7_type 8 = .ok (.bipush 20, 2) := by decide +kernel
theorem d7_type_10 : decode b7_type 10 = .ok (.invokestatic 85, 3) := by decide +kernel
theorem d7_type_13 : decode b7_type 13 = .ok (.ifCond .ne 7, 3) := by decide +kernel
theorem d7_type_20 : decode b7_type 20 = .ok (.iconst 0, 1) := by decide +kernel
theorem d7_type_16 : decode b7_type 16 = .ok (.iconst 1, 1) := by decide +kernel
theorem d7_type_17 : decode b7_type 17 = .ok (.goto 4, 3) := by decide +kernel
theorem d7_type_21 : decode b7_type 21 = .ok (.iconst 1, 1) := by decide +kernel
theorem d7_type_22 : decode b7_type 22 = .ok (.invokevirtual 89, 3) := by decide +kernel
theorem d7_type_25 : decode b7_type 25 = .ok (.ifCond .ne 24, 3) := by decide +kernel
theorem d7_type_49 : decode b7_type 49 = .ok (.iconst 0, 1) := by decide +kernel
theorem d7_type_50 : decode b7_type 50 = .ok (.ireturn, 1) := by decide +kernel
theorem d7_type_28 : decode b7_type 28 = .ok (.aload_n 0, 1) := by decide +kernel
theorem d7_type_29 : decode b7_type 29 = .ok (.aload_n 0, 1) := by decide +kernel
theorem d7_type_30 : decode b7_type 30 = .ok (.getfield 93, 3) := by decide +kernel
theorem d7_type_33 : decode b7_type 33 = .ok (.iload_n 1, 1) := by decide +kernel
theorem d7_type_34 : decode b7_type 34 = .ok (.if_icmp .ge 7, 3) := by decide +kernel
theorem d7_type_41 : decode b7_type 41 = .ok (.iconst 0, 1) := by decide +kernel
theorem d7_type_37 : decode b7_type 37 = .ok (.iconst 1, 1) := by decide +kernel
theorem d7_type_38 : decode b7_type 38 = .ok (.goto 4, 3) := by decide +kernel
theorem d7_type_42 : decode b7_type 42 = .ok (.iconst 2, 1) := by decide +kernel
theorem d7_type_43 : decode b7_type 43 = .ok (.invokevirtual 89, 3) := by decide +kernel
theorem d7_type_46 : decode b7_type 46 = .ok (.ifCond .eq 5, 3) := by decide +kernel
theorem d7_type_51 : decode b7_type 51 = .ok (.iconst 0, 1) := by decide +kernel
theorem d7_type_52 : decode b7_type 52 = .ok (.istore_n 2, 1) := by decide +kernel
theorem d7_type_53 : decode b7_type 53 = .ok (.iload_n 2, 1) := by decide +kernel
theorem d7_type_54 : decode b7_type 54 = .ok (.iload_n 1, 1) := by decide +kernel
theorem d7_type_55 : decode b7_type 55 = .ok (.if_icmp .ge 21, 3) := by decide +kernel
theorem d7_type_76 : decode b7_type 76 = .ok (.aload_n 0, 1) := by decide +kernel
theorem d7_type_77 : decode b7_type 77 = .ok (.iconst 0, 1) := by decide +kernel
theorem d7_type_78 : decode b7_type 78 = .ok (.putfield 93, 3) := by decide +kernel
theorem d7_type_81 : decode b7_type 81 = .ok (.aload_n 0, 1) := by decide +kernel
theorem d7_type_82 : decode b7_type 82 = .ok (.invokevirtual 399, 3) := by decide +kernel
theorem d7_type_85 : decode b7_type 85 = .ok (.aload_n 0, 1) := by decide +kernel
theorem d7_type_86 : decode b7_type 86 = .ok (.getfield 7, 3) := by decide +kernel
theorem d7_type_89 : decode b7_type 89 = .ok (.iconst 0, 1) := by decide +kernel
theorem d7_type_90 : decode b7_type 90 = .ok (.iaload, 1) := by decide +kernel
theorem d7_type_91 : decode b7_type 91 = .ok (.ifCond .ne 9, 3) := by decide +kernel
theorem d7_type_100 : decode b7_type 100 = .ok (.aload_n 0, 1) := by decide +kernel
theorem d7_type_101 : decode b7_type 101 = .ok (.getfield 7, 3) := by decide +kernel
theorem d7_type_104 : decode b7_type 104 = .ok (.iconst 0, 1) := by decide +kernel
theorem d7_type_105 : decode b7_type 105 = .ok (.iaload, 1) := by decide +kernel
theorem d7_type_106 : decode b7_type 106 = .ok (.iconst 1, 1) := by decide +kernel
theorem d7_type_107 : decode b7_type 107 = .ok (.isub, 1) := by decide +kernel
theorem d7_type_108 : decode b7_type 108 = .ok (.istore_n 2, 1) := by decide +kernel
theorem d7_type_109 : decode b7_type 109 = .ok (.aload_n 0, 1) := by decide +kernel
theorem d7_type_110 : decode b7_type 110 = .ok (.iload_n 2, 1) := by decide +kernel
theorem d7_type_111 : decode b7_type 111 = .ok (.aload_n 0, 1) := by decide +kernel
theorem d7_type_112 : decode b7_type 112 = .ok (.getfield 76, 3) := by decide +kernel
theorem d7_type_115 : decode b7_type 115 = .ok (.iload_n 1, 1) := by decide +kernel
theorem d7_type_116 : decode b7_type 116 = .ok (.invokevirtual 386, 3) := by decide +kernel
theorem d7_type_119 : decode b7_type 119 = .ok (.ifCond .ne 7, 3) := by decide +kernel
theorem d7_type_126 : decode b7_type 126 = .ok (.aload_n 0, 1) := by decide +kernel
theorem d7_type_127 : decode b7_type 127 = .ok (.iload_n 2, 1) := by decide +kernel
theorem d7_type_128 : decode b7_type 128 = .ok (.invokevirtual 390, 3) := by decide +kernel
theorem d7_type_131 : decode b7_type 131 = .ok (.ifCond .eq 7, 3) := by decide +kernel
theorem d7_type_138 : decode b7_type 138 = .ok (.iconst 0, 1) := by decide +kernel
theorem d7_type_134 : decode b7_type 134 = .ok (.iconst 3, 1) := by decide +kernel
theorem d7_type_135 : decode b7_type 135 = .ok (.goto 4, 3) := by decide +kernel
theorem d7_type_122 : decode b7_type 122 = .ok (.iconst 4, 1) := by decide +kernel
theorem d7_type_123 : decode b7_type 123 = .ok (.goto 16, 3) := by decide +kernel
theorem d7_type_94 : decode b7_type 94 = .ok (.aload_n 0, 1) := by decide +kernel
theorem d7_type_95 : decode b7_type 95 = .ok (.iconst 1, 1) := by decide +kernel
theorem d7_type_96 : decode b7_type 96 = .ok (.invokevirtual 393, 3) := by decide +kernel
theorem d7_type_99 : decode b7_type 99 = .ok (.ireturn, 1) := by decide +kernel
theorem d7_type_58 : decode b7_type 58 = .ok (.aload_n 0, 1) := by decide +kernel
theorem d7_type_59 : decode b7_type 59 = .ok (.getfield 76, 3) := by decide +kernel
theorem d7_type_62 : decode b7_type 62 = .ok (.iload_n 2, 1) := by decide +kernel
theorem d7_type_63 : decode b7_type 63 = .ok (.aload_n 0, 1) := by decide +kernel
theorem d7_type_64 : decode b7_type 64 = .ok (.getfield 36, 3) := by decide +kernel
theorem d7_type_67 : decode b7_type 67 = .ok (.iload_n 2, 1) := by decide +kernel
theorem d7_type_68 : decode b7_type 68 = .ok (.iaload, 1) := by decide +kernel
theorem d7_type_69 : decode b7_type 69 = .ok (.iastore, 1) := by decide +kernel
theorem d7_type_70 : decode b7_type 70 = .ok (.iinc 2 1, 3) := by decide +kernel
theorem d7_type_73 : decode b7_type 73 = .ok (.goto (-20), 3) := by decide +kernel
theorem d7_type_139 : decode b7_type 139 = .ok (.istore_n 3, 1) := by decide +kernel
theorem d7_type_140 : decode b7_type 140 = .ok (.sipush 604, 3) := by decide +kernel
theorem d7_type_143 : decode b7_type 143 = .ok (.sipush 413, 3) := by decide +kernel
theorem d7_type_146 : decode b7_type 146 = .ok (.iload_n 2, 1) := by decide +kernel
theorem d7_type_147 : decode b7_type 147 = .ok (.imul, 1) := by decide +kernel
theorem d7_type_148 : decode b7_type 148 = .ok (.iadd, 1) := by decide +kernel
theorem d7_type_149 : decode b7_type 149 = .ok (.istore 4, 2) := by decide +kernel
theorem d7_type_151 : decode b7_type 151 = .ok (.aload_n 0, 1) := by decide +kernel
theorem d7_type_152 : decode b7_type 152 = .ok (.iload_n 3, 1) := by decide +kernel
theorem d7_type_153 : decode b7_type 153 = .ok (.aload_n 0, 1) := by decide +kernel
theorem d7_type_154 : decode b7_type 154 = .ok (.getfield 7, 3) := by decide +kernel
theorem d7_type_157 : decode b7_type 157 = .ok (.iload 4, 2) := by decide +kernel
theorem d7_type_159 : decode b7_type 159 = .ok (.iconst 3, 1) := by decide +kernel
theorem d7_type_160 : decode b7_type 160 = .ok (.iadd, 1) := by decide +kernel
theorem d7_type_161 : decode b7_type 161 = .ok (.aload_n 0, 1) := by decide +kernel
theorem d7_type_162 : decode b7_type 162 = .ok (.getfield 7, 3) := by decide +kernel
theorem d7_type_165 : decode b7_type 165 = .ok (.iload 4, 2) := by decide +kernel
theorem d7_type_167 : decode b7_type 167 = .ok (.iconst 1, 1) := by decide +kernel
theorem d7_type_168 : decode b7_type 168 = .ok (.iadd, 1) := by decide +kernel
theorem d7_type_169 : decode b7_type 169 = .ok (.iaload, 1) := by decide +kernel
theorem d7_type_170 : decode b7_type 170 = .ok (.iadd, 1) := by decide +kernel
theorem d7_type_171 : decode b7_type 171 = .ok (.iaload, 1) := by decide +kernel
theorem d7_type_172 : decode b7_type 172 = .ok (.invokevirtual 405, 3) := by decide +kernel
theorem d7_type_175 : decode b7_type 175 = .ok (.ireturn, 1) := by decide +kernel
theorem d7_erase_0 : decode b7_erase 0 = .ok (.aload_n 0, 1) := by decide +kernel
theorem d7_erase_1 : decode b7_erase 1 = .ok (.iconst 0, 1) := by decide +kernel
theorem d7_erase_2 : decode b7_erase 2 = .ok (.putfield 79, 3) := by decide +kernel
theorem d7_erase_5 : decode b7_erase 5 = .ok (.aload_n 0, 1) := by decide +kernel
theorem d7_erase_6 : decode b7_erase 6 = .ok (.invokevirtual 399, 3) := by decide +kernel
theorem d7_erase_9 : decode b7_erase 9 = .ok (.aload_n 0, 1) := by decide +kernel
theorem d7_erase_10 : decode b7_erase 10 = .ok (.getfield 7, 3) := by decide +kernel
theorem d7_erase_13 : decode b7_erase 13 = .ok (.iconst 0, 1) := by decide +kernel
theorem d7_erase_14 : decode b7_erase 14 = .ok (.iaload, 1) := by decide +kernel
theorem d7_erase_15 : decode b7_erase 15 = .ok (.ifCond .ne 9, 3) := by decide +kernel
theorem d7_erase_24 : decode b7_erase 24 = .ok (.aload_n 0, 1) := by decide +kernel
theorem d7_erase_25 : decode b7_erase 25 = .ok (.getfield 7, 3) := by decide +kernel
theorem d7_erase_28 : decode b7_erase 28 = .ok (.iconst 0, 1) := by decide +kernel
theorem d7_erase_29 : decode b7_erase 29 = .ok (.iaload, 1) := by decide +kernel
theorem d7_erase_30 : decode b7_erase 30 = .ok (.iconst 1, 1) := by decide +kernel
theorem d7_erase_31 : decode b7_erase 31 = .ok (.isub, 1) := by decide +kernel
theorem d7_erase_32 : decode b7_erase 32 = .ok (.istore_n 1, 1) := by decide +kernel
theorem d7_erase_33 : decode b7_erase 33 = .ok (.aload_n 0, 1) := by decide +kernel
theorem d7_erase_34 : decode b7_erase 34 = .ok (.iload_n 1, 1) := by decide +kernel
theorem d7_erase_35 : decode b7_erase 35 = .ok (.invokevirtual 336, 3) := by decide +kernel
theorem d7_erase_38 : decode b7_erase 38 = .ok (.aload_n 0, 1) := by decide +kernel
theorem d7_erase_39 : decode b7_erase 39 = .ok (.getfield 7, 3) := by decide +kernel
theorem d7_erase_42 : decode b7_erase 42 = .ok (.aload_n 0, 1) := by decide +kernel
theorem d7_erase_43 : decode b7_erase 43 = .ok (.getfield 251, 3) := by decide +kernel
theorem d7_erase_46 : decode b7_erase 46 = .ok (.iconst 1, 1) := by decide +kernel
theorem d7_erase_47 : decode b7_erase 47 = .ok (.iadd, 1) := by decide +kernel
theorem d7_erase_48 : decode b7_erase 48 = .ok (.iaload, 1) := by decide +kernel
theorem d7_erase_49 : decode b7_erase 49 = .ok (.istore_n 2, 1) := by decide +kernel
theorem d7_erase_50 : decode b7_erase 50 = .ok (.aload_n 0, 1) := by decide +kernel
theorem d7_erase_51 : decode b7_erase 51 = .ok (.iconst 0, 1) := by decide +kernel
theorem d7_erase_52 : decode b7_erase 52 = .ok (.putfield 285, 3) := by decide +kernel
theorem d7_erase_55 : decode b7_erase 55 = .ok (.aload_n 0, 1) := by decide +kernel
theorem d7_erase_56 : decode b7_erase 56 = .ok (.iload_n 2, 1) := by decide +kernel
theorem d7_erase_57 : decode b7_erase 57 = .ok (.invokevirtual 301, 3) := by decide +kernel
theorem d7_erase_60 : decode b7_erase 60 = .ok (.aload_n 0, 1) := by decide +kernel
theorem d7_erase_61 : decode b7_erase 61 = .ok (.getfield 285, 3) := by decide +kernel
theorem d7_erase_64 : decode b7_erase 64 = .ok (.ifCond .ne 9, 3) := by decide +kernel
theorem d7_erase_73 : decode b7_erase 73 = .ok (.aload_n 0, 1) := by decide +kernel
theorem d7_erase_74 : decode b7_erase 74 = .ok (.getfield 285, 3) := by decide +kernel
theorem d7_erase_77 : decode b7_erase 77 = .ok (.iconst 1, 1) := by decide +kernel
theorem d7_erase_78 : decode b7_erase 78 = .ok (.isub, 1) := by decide +kernel
theorem d7_erase_79 : decode b7_erase 79 = .ok (.istore_n 3, 1) := by decide +kernel
theorem d7_erase_80 : decode b7_erase 80 = .ok (.iconst 0, 1) := by decide +kernel
theorem d7_erase_81 : decode b7_erase 81 = .ok (.istore 4, 2) := by decide +kernel
theorem d7_erase_67 : decode b7_erase 67 = .ok (.aload_n 0, 1) := by decide +kernel
theorem d7_erase_68 : decode b7_erase 68 = .ok (.iconst 5, 1) := by decide +kernel
theorem d7_erase_69 : decode b7_erase 69 = .ok (.invokevirtual 393, 3) := by decide +kernel
theorem d7_erase_72 : decode b7_erase 72 = .ok (.ireturn, 1) := by decide +kernel
theorem d7_erase_18 : decode b7_erase 18 = .ok (.aload_n 0, 1) := by decide +kernel
theorem d7_erase_19 : decode b7_erase 19 = .ok (.iconst 1, 1) := by decide +kernel
theorem d7_erase_20 : decode b7_erase 20 = .ok (.invokevirtual 393, 3) := by decide +kernel
theorem d7_erase_23 : decode b7_erase 23 = .ok (.ireturn, 1) := by decide +kernel
theorem d7_erase_83 : decode b7_erase 83 = .ok (.iload 4, 2) := by decide +kernel
theorem d7_erase_85 : decode b7_erase 85 = .ok (.iload_n 3, 1) := by decide +kernel
theorem d7_erase_86 : decode b7_erase 86 = .ok (.if_icmp .ge 23, 3) := by decide +kernel
theorem d7_erase_109 : decode b7_erase 109 = .ok (.aload_n 0, 1) := by decide +kernel
theorem d7_erase_110 : decode b7_erase 110 = .ok (.getfield 7, 3) := by decide +kernel
theorem d7_erase_113 : decode b7_erase 113 = .ok (.aload_n 0, 1) := by decide +kernel
theorem d7_erase_114 : decode b7_erase 114 = .ok (.getfield 251, 3) := by decide +kernel
theorem d7_erase_117 : decode b7_erase 117 = .ok (.iconst 2, 1) := by decide +kernel
theorem d7_erase_118 : decode b7_erase 118 = .ok (.iadd, 1) := by decide +kernel
theorem d7_erase_119 : decode b7_erase 119 = .ok (.dup2, 1) := by decide +kernel
theorem d7_erase_120 : decode b7_erase 120 = .ok (.iaload, 1) := by decide +kernel
theorem d7_erase_121 : decode b7_erase 121 = .ok (.iconst 1, 1) := by decide +kernel
theorem d7_erase_122 : decode b7_erase 122 = .ok (.iload_n 2, 1) := by decide +kernel
theorem d7_erase_123 : decode b7_erase 123 = .ok (.ishl, 1) := by decide +kernel
theorem d7_erase_124 : decode b7_erase 124 = .ok (.iconst (-1), 1) := by decide +kernel
