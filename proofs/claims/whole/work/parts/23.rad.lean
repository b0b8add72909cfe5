theorem d0_indexOf_0 : decode b0_indexOf 0 = .ok (.iconst 0, 1) := by decide +kernel
theorem d0_indexOf_1 : decode b0_indexOf 1 = .ok (.istore 4, 2) := by decide +kernel
theorem d0_indexOf_3 : decode b0_indexOf 3 = .ok (.iload 4, 2) := by decide +kernel
theorem d0_indexOf_5 : decode b0_indexOf 5 = .ok (.aload_n 0, 1) := by decide +kernel
theorem d0_indexOf_6 : decode b0_indexOf 6 = .ok (.getfield 20, 3) := by decide +kernel
theorem d0_indexOf_9 : decode b0_indexOf 9 = .ok (.if_icmp .ge 28, 3) := by decide +kernel
theorem d0_indexOf_37 : decode b0_indexOf 37 = .ok (.iconst (-1), 1) := by decide +kernel
theorem d0_indexOf_38 : decode b0_indexOf 38 = .ok (.ireturn, 1) := by decide +kernel
theorem d0_indexOf_12 : decode b0_indexOf 12 = .ok (.aload_n 0, 1) := by decide +kernel
theorem d0_indexOf_13 : decode b0_indexOf 13 = .ok (.getfield 11, 3) := by decide +kernel
theorem d0_indexOf_16 : decode b0_indexOf 16 = .ok (.iload 4, 2) := by decide +kernel
theorem d0_indexOf_18 : decode b0_indexOf 18 = .ok (.aaload, 1) := by decide +kernel
theorem d0_indexOf_19 : decode b0_indexOf 19 = .ok (.aload_n 1, 1) := by decide +kernel
theorem d0_indexOf_20 : decode b0_indexOf 20 = .ok (.iload_n 2, 1) := by decide +kernel
theorem d0_indexOf_21 : decode b0_indexOf 21 = .ok (.iload_n 3, 1) := by decide +kernel
theorem d0_indexOf_22 : decode b0_indexOf 22 = .ok (.invokevirtual 24, 3) := by decide +kernel
theorem d0_indexOf_25 : decode b0_indexOf 25 = .ok (.ifCond .eq 6, 3) := by decide +kernel
theorem d0_indexOf_31 : decode b0_indexOf 31 = .ok (.iinc 4 1, 3) := by decide +kernel
theorem d0_indexOf_34 : decode b0_indexOf 34 = .ok (.goto (-31), 3) := by decide +kernel
theorem d0_indexOf_28 : decode b0_indexOf 28 = .ok (.iload 4, 2) := by decide +kernel
theorem d0_indexOf_30 : decode b0_indexOf 30 = .ok (.ireturn, 1) := by decide +kernel
theorem d1_exchange_0 : decode b1_exchange 0 = .ok (.aload_n 0, 1) := by decide +kernel
theorem d1_exchange_1 : decode b1_exchange 1 = .ok (.getfield 18, 3) := by decide +kernel
theorem d1_exchange_4 : decode b1_exchange 4 = .ok (.astore_n 2, 1) := by decide +kernel
theorem d1_exchange_5 : decode b1_exchange 5 = .ok (.aload_n 0, 1) := by decide +kernel
theorem d1_exchange_6 : decode b1_exchange 6 = .ok (.aload_n 1, 1) := by decide +kernel
theorem d1_exchange_7 : decode b1_exchange 7 = .ok (.putfield 18, 3) := by decide +kernel
theorem d1_exchange_10 : decode b1_exchange 10 = .ok (.aload_n 2, 1) := by decide +kernel
theorem d1_exchange_11 : decode b1_exchange 11 = .ok (.areturn, 1) := by decide +kernel
theorem d1_skipBlanks_0 : decode b1_skipBlanks 0 = .ok (.aload_n 0, 1) := by decide +kernel
theorem d1_skipBlanks_1 : decode b1_skipBlanks 1 = .ok (.getfield 47, 3) := by decide +kernel
theorem d1_skipBlanks_4 : decode b1_skipBlanks 4 = .ok (.istore_n 1, 1) := by decide +kernel
theorem d1_skipBlanks_5 : decode b1_skipBlanks 5 = .ok (.iload_n 1, 1) := by decide +kernel
theorem d1_skipBlanks_6 : decode b1_skipBlanks 6 = .ok (.aload_n 0, 1) := by decide +kernel
theorem d1_skipBlanks_7 : decode b1_skipBlanks 7 = .ok (.getfield 36, 3) := by decide +kernel
theorem d1_skipBlanks_10 : decode b1_skipBlanks 10 = .ok (.if_icmp .ge 38, 3) := by decide +kernel
theorem d1_skipBlanks_48 : decode b1_skipBlanks 48 = .ok (.return_, 1) := by decide +kernel
theorem d1_skipBlanks_13 : decode b1_skipBlanks 13 = .ok (.aload_n 0, 1) := by decide +kernel
theorem d1_skipBlanks_14 : decode b1_skipBlanks 14 = .ok (.getfield 9, 3) := by decide +kernel
theorem d1_skipBlanks_17 : decode b1_skipBlanks 17 = .ok (.iload_n 1, 1) := by decide +kernel
theorem d1_skipBlanks_18 : decode b1_skipBlanks 18 = .ok (.iaload, 1) := by decide +kernel
theorem d1_skipBlanks_19 : decode b1_skipBlanks 19 = .ok (.bipush 32, 2) := by decide +kernel
theorem d1_skipBlanks_21 : decode b1_skipBlanks 21 = .ok (.if_icmp .eq 14, 3) := by decide +kernel
theorem d1_skipBlanks_24 : decode b1_skipBlanks 24 = .ok (.aload_n 0, 1) := by decide +kernel
theorem d1_skipBlanks_25 : decode b1_skipBlanks 25 = .ok (.getfield 9, 3) := by decide +kernel
theorem d1_skipBlanks_28 : decode b1_skipBlanks 28 = .ok (.iload_n 1, 1) := by decide +kernel
theorem d1_skipBlanks_29 : decode b1_skipBlanks 29 = .ok (.iaload, 1) := by decide +kernel
theorem d1_skipBlanks_30 : decode b1_skipBlanks 30 = .ok (.bipush 10, 2) := by decide +kernel
theorem d1_skipBlanks_32 : decode b1_skipBlanks 32 = .ok (.if_icmp .ne 16, 3) := by decide +kernel
theorem d1_skipBlanks_35 : decode b1_skipBlanks 35 = .ok (.aload_n 0, 1) := by decide +kernel
theorem d1_skipBlanks_36 : decode b1_skipBlanks 36 = .ok (.iload_n 1, 1) := by decide +kernel
theorem d1_skipBlanks_37 : decode b1_skipBlanks 37 = .ok (.iconst 1, 1) := by decide +kernel
theorem d1_skipBlanks_38 : decode b1_skipBlanks 38 = .ok (.iadd, 1) := by decide +kernel
theorem d1_skipBlanks_39 : decode b1_skipBlanks 39 = .ok (.putfield 47, 3) := by decide +kernel
theorem d1_skipBlanks_42 : decode b1_skipBlanks 42 = .ok (.iinc 1 1, 3) := by decide +kernel
theorem d1_skipBlanks_45 : decode b1_skipBlanks 45 = .ok (.goto (-40), 3) := by decide +kernel
theorem d1_endOfWord_0 : decode b1_endOfWord 0 = .ok (.aload_n 0, 1) := by decide +kernel
theorem d1_endOfWord_1 : decode b1_endOfWord 1 = .ok (.getfield 47, 3) := by decide +kernel
theorem d1_endOfWord_4 : decode b1_endOfWord 4 = .ok (.istore_n 1, 1) := by decide +kernel
theorem d1_endOfWord_5 : decode b1_endOfWord 5 = .ok (.aload_n 0, 1) := by decide +kernel
theorem d1_endOfWord_6 : decode b1_endOfWord 6 = .ok (.getfield 47, 3) := by decide +kernel
theorem d1_endOfWord_9 : decode b1_endOfWord 9 = .ok (.istore_n 2, 1) := by decide +kernel
theorem d1_endOfWord_10 : decode b1_endOfWord 10 = .ok (.iload_n 2, 1) := by decide +kernel
theorem d1_endOfWord_11 : decode b1_endOfWord 11 = .ok (.aload_n 0, 1) := by decide +kernel
theorem d1_endOfWord_12 : decode b1_endOfWord 12 = .ok (.getfield 36, 3) := by decide +kernel
theorem d1_endOfWord_15 : decode b1_endOfWord 15 = .ok (.if_icmp .ge 35, 3) := by decide +kernel
theorem d1_endOfWord_50 : decode b1_endOfWord 50 = .ok (.iload_n 1, 1) := by decide +kernel
theorem d1_endOfWord_51 : decode b1_endOfWord 51 = .ok (.ireturn, 1) := by decide +kernel
theorem d1_endOfWord_18 : decode b1_endOfWord 18 = .ok (.aload_n 0, 1) := by decide +kernel
theorem d1_endOfWord_19 : decode b1_endOfWord 19 = .ok (.getfield 9, 3) := by decide +kernel
theorem d1_endOfWord_22 : decode b1_endOfWord 22 = .ok (.iload_n 2, 1) := by decide +kernel
theorem d1_endOfWord_23 : decode b1_endOfWord 23 = .ok (.iaload, 1) := by decide +kernel
theorem d1_endOfWord_24 : decode b1_endOfWord 24 = .ok (.bipush 97, 2) := by decide +kernel
theorem d1_endOfWord_26 : decode b1_endOfWord 26 = .ok (.if_icmp .lt 24, 3) := by decide +kernel
theorem d1_endOfWord_29 : decode b1_endOfWord 29 = .ok (.aload_n 0, 1) := by decide +kernel
theorem d1_endOfWord_30 : decode b1_endOfWord 30 = .ok (.getfield 9, 3) := by decide +kernel
theorem d1_endOfWord_33 : decode b1_endOfWord 33 = .ok (.iload_n 2, 1) := by decide +kernel
theorem d1_endOfWord_34 : decode b1_endOfWord 34 = .ok (.iaload, 1) := by decide +kernel
theorem d1_endOfWord_35 : decode b1_endOfWord 35 = .ok (.bipush 122, 2) := by decide +kernel
theorem d1_endOfWord_37 : decode b1_endOfWord 37 = .ok (.if_icmp .gt 13, 3) := by decide +kernel
theorem d1_endOfWord_40 : decode b1_endOfWord 40 = .ok (.iload_n 2, 1) := by decide +kernel
theorem d1_endOfWord_41 : decode b1_endOfWord 41 = .ok (.iconst 1, 1) := by decide +kernel
theorem d1_endOfWord_42 : decode b1_endOfWord 42 = .ok (.iadd, 1) := by decide +kernel
theorem d1_endOfWord_43 : decode b1_endOfWord 43 = .ok (.istore_n 1, 1) := by decide +kernel
theorem d1_endOfWord_44 : decode b1_endOfWord 44 = .ok (.iinc 2 1, 3) := by decide +kernel
theorem d1_endOfWord_47 : decode b1_endOfWord 47 = .ok (.goto (-37), 3) := by decide +kernel
theorem d1_isWord_0 : decode b1_isWord 0 = .ok (.iload_n 1, 1) := by decide +kernel
theorem d1_isWord_1 : decode b1_isWord 1 = .ok (.aload_n 0, 1) := by decide +kernel
theorem d1_isWord_2 : decode b1_isWord 2 = .ok (.getfield 47, 3) := by decide +kernel
theorem d1_isWord_5 : decode b1_isWord 5 = .ok (.isub, 1) := by decide +kernel
theorem d1_isWord_6 : decode b1_isWord 6 = .ok (.aload_n 2, 1) := by decide +kernel
theorem d1_isWord_7 : decode b1_isWord 7 = .ok (.invokevirtual 84, 3) := by decide +kernel
theorem d1_isWord_10 : decode b1_isWord 10 = .ok (.if_icmp .eq 5, 3) := by decide +kernel
theorem d1_isWord_15 : decode b1_isWord 15 = .ok (.iconst 0, 1) := by decide +kernel
theorem d1_isWord_16 : decode b1_isWord 16 = .ok (.istore_n 3, 1) := by decide +kernel
theorem d1_isWord_13 : decode b1_isWord 13 = .ok (.iconst 0, 1) := by decide +kernel
theorem d1_isWord_14 : decode b1_isWord 14 = .ok (.ireturn, 1) := by decide +kernel
theorem d1_isWord_17 : decode b1_isWord 17 = .ok (.iload_n 3, 1) := by decide +kernel
theorem d1_isWord_18 : decode b1_isWord 18 = .ok (.aload_n 2, 1) := by decide +kernel
theorem d1_isWord_19 : decode b1_isWord 19 = .ok (.invokevirtual 84, 3) := by decide +kernel
theorem d1_isWord_22 : decode b1_isWord 22 = .ok (.if_icmp .ge 30, 3) := by decide +kernel
theorem d1_isWord_52 : decode b1_isWord 52 = .ok (.iconst 1, 1) := by decide +kernel
theorem d1_isWord_53 : decode b1_isWord 53 = .ok (.ireturn, 1) := by decide +kernel
theorem d1_isWord_25 : decode b1_isWord 25 = .ok (.aload_n 0, 1) := by decide +kernel
theorem d1_isWord_26 : decode b1_isWord 26 = .ok (.getfield 9, 3) := by decide +kernel
theorem d1_isWord_29 : decode b1_isWord 29 = .ok (.aload_n 0, 1) := by decide +kernel
theorem d1_isWord_30 : decode b1_isWord 30 = .ok (.getfield 47, 3) := by decide +kernel
theorem d1_isWord_33 : decode b1_isWord 33 = .ok (.iload_n 3, 1) := by decide +kernel
theorem d1_isWord_34 : decode b1_isWord 34 = .ok (.iadd, 1) := by decide +kernel
theorem d1_isWord_35 : decode b1_isWord 35 = .ok (.iaload, 1) := by decide +kernel
theorem d1_isWord_36 : decode b1_isWord 36 = .ok (.aload_n 2, 1) := by decide +kernel
theorem d1_isWord_37 : decode b1_isWord 37 = .ok (.iload_n 3, 1) := by decide +kernel
theorem d1_isWord_38 : decode b1_isWord 38 = .ok (.invokevirtual 88, 3) := by decide +kernel
theorem d1_isWord_41 : decode b1_isWord 41 = .ok (.if_icmp .eq 5, 3) := by decide +kernel
theorem d1_isWord_46 : decode b1_isWord 46 = .ok (.iinc 3 1, 3) := by decide +kernel
theorem d1_isWord_49 : decode b1_isWord 49 = .ok (.goto (-32), 3) := by decide +kernel
theorem d1_isWord_44 : decode b1_isWord 44 = .ok (.iconst 0, 1) := by decide +kernel
theorem d1_isWord_45 : decode b1_isWord 45 = .ok (.ireturn, 1) := by decide +kernel
theorem d1_fail_0 : decode b1_fail 0 = .ok (.aload_n 0, 1) := by decide +kernel
theorem d1_fail_1 : decode b1_fail 1 = .ok (.iload_n 1, 1) := by decide +kernel
theorem d1_fail_2 : decode b1_fail 2 = .ok (.putfield 50, 3) := by decide +kernel
theorem d1_fail_5 : decode b1_fail 5 = .ok (.aload_n 0, 1) := by decide +kernel
theorem d1_fail_6 : decode b1_fail 6 = .ok (.iload_n 2, 1) := by decide +kernel
theorem d1_fail_7 : decode b1_fail 7 = .ok (.putfield 53, 3) := by decide +kernel
theorem d1_fail_10 : decode b1_fail 10 = .ok (.return_, 1) := by decide +kernel
theorem d1_isAt_0 : decode b1_isAt 0 = .ok (.aload_n 0, 1) := by decide +kernel
theorem d1_isAt_1 : decode b1_isAt 1 = .ok (.getfield 47, 3) := by decide +kernel
theorem d1_isAt_4 : decode b1_isAt 4 = .ok (.aload_n 0, 1) := by decide +kernel
theorem d1_isAt_5 : decode b1_isAt 5 = .ok (.getfield 36, 3) := by decide +kernel
theorem d1_isAt_8 : decode b1_isAt 8 = .ok (.if_icmp .ge 20, 3) := by decide +kernel
theorem d1_isAt_28 : decode b1_isAt 28 = .ok (.iconst 0, 1) := by decide +kernel
theorem d1_isAt_29 : decode b1_isAt 29 = .ok (.ireturn, 1) := by decide +kernel
theorem d1_isAt_11 : decode b1_isAt 11 = .ok (.aload_n 0, 1) := by decide +kernel
theorem d1_isAt_12 : decode b1_isAt 12 = .ok (.getfield 9, 3) := by decide +kernel
theorem d1_isAt_15 : decode b1_isAt 15 = .ok (.aload_n 0, 1) := by decide +kernel
theorem d1_isAt_16 : decode b1_isAt 16 = .ok (.getfield 47, 3) := by decide +kernel
theorem d1_isAt_19 : decode b1_isAt 19 = .ok (.iaload, 1) := by decide +kernel
theorem d1_isAt_20 : decode b1_isAt 20 = .ok (.iload_n 1, 1) := by decide +kernel
theorem d1_isAt_21 : decode b1_isAt 21 = .ok (.if_icmp .ne 7, 3) := by decide +kernel
theorem d1_isAt_24 : decode b1_isAt 24 = .ok (.iconst 1, 1) := by decide +kernel
theorem d1_isAt_25 : decode b1_isAt 25 = .ok (.goto 4, 3) := by decide +kernel
theorem d1_readHead_0 : decode b1_readHead 0 = .ok (.aload_n 0, 1) := by decide +kernel
theorem d1_readHead_1 : decode b1_readHead 1 = .ok (.getfield 18, 3) := by decide +kernel
theorem d1_readHead_4 : decode b1_readHead 4 = .ok (.getfield 40, 3) := by decide +kernel
theorem d1_readHead_7 : decode b1_readHead 7 = .ok (.bipush 8, 2) := by decide +kernel
theorem d1_readHead_9 : decode b1_readHead 9 = .ok (.if_icmp .lt 13, 3) := by decide +kernel
theorem d1_readHead_22 : decode b1_readHead 22 = .ok (.aload_n 0, 1) := by decide +kernel
theorem d1_readHead_23 : decode b1_readHead 23 = .ok (.iload_n 1, 1) := by decide +kernel
theorem d1_readHead_24 : decode b1_readHead 24 = .ok (.putfield 47, 3) := by decide +kernel
theorem d1_readHead_27 : decode b1_readHead 27 = .ok (.aload_n 0, 1) := by decide +kernel
theorem d1_readHead_28 : decode b1_readHead 28 = .ok (.invokevirtual 56, 3) := by decide +kernel
theorem d1_readHead_31 : decode b1_readHead 31 = .ok (.aload_n 0, 1) := by decide +kernel
theorem d1_readHead_32 : decode b1_readHead 32 = .ok (.invokevirtual 59, 3) := by decide +kernel
theorem d1_readHead_35 : decode b1_readHead 35 = .ok (.aload_n 0, 1) := by decide +kernel
theorem d1_readHead_36 : decode b1_readHead 36 = .ok (.getfield 47, 3) := by decide +kernel
theorem d1_readHead_39 : decode b1_readHead 39 = .ok (.isub, 1) := by decide +kernel
theorem d1_readHead_40 : decode b1_readHead 40 = .ok (.istore_n 2, 1) := by decide +kernel
theorem d1_readHead_41 : decode b1_readHead 41 = .ok (.iload_n 2, 1) := by decide +kernel
theorem d1_readHead_42 : decode b1_readHead 42 = .ok (.ifCond .eq 9, 3) := by decide +kernel
theorem d1_readHead_45 : decode b1_readHead 45 = .ok (.iload_n 2, 1) := by decide +kernel
theorem d1_readHead_46 : decode b1_readHead 46 = .ok (.bipush 8, 2) := by decide +kernel
theorem d1_readHead_48 : decode b1_readHead 48 = .ok (.if_icmp .le 13, 3) := by decide +kernel
theorem d1_readHead_61 : decode b1_readHead 61 = .ok (.aload_n 0, 1) := by decide +kernel
theorem d1_readHead_62 : decode b1_readHead 62 = .ok (.getfield 18, 3) := by decide +kernel
theorem d1_readHead_65 : decode b1_readHead 65 = .ok (.aload_n 0, 1) := by decide +kernel
theorem d1_readHead_66 : decode b1_readHead 66 = .ok (.getfield 9, 3) := by decide +kernel
theorem d1_readHead_69 : decode b1_readHead 69 = .ok (.aload_n 0, 1) := by decide +kernel
theorem d1_readHead_70 : decode b1_readHead 70 = .ok (.getfield 47, 3) := by decide +kernel
theorem d1_readHead_73 : decode b1_readHead 73 = .ok (.iload_n 2, 1) := by decide +kernel
theorem d1_readHead_74 : decode b1_readHead 74 = .ok (.invokevirtual 100, 3) := by decide +kernel
theorem d1_readHead_77 : decode b1_readHead 77 = .ok (.iconst (-1), 1) := by decide +kernel
theorem d1_readHead_78 : decode b1_readHead 78 = .ok (.if_icmp .eq 13, 3) := by decide +kernel
theorem d1_readHead_91 : decode b1_readHead 91 = .ok (.aload_n 0, 1) := by decide +kernel
theorem d1_readHead_92 : decode b1_readHead 92 = .ok (.getfield 18, 3) := by decide +kernel
theorem d1_readHead_95 : decode b1_readHead 95 = .ok (.getfield 40, 3) := by decide +kernel
theorem d1_readHead_98 : decode b1_readHead 98 = .ok (.iconst 1, 1) := by decide +kernel
theorem d1_readHead_99 : decode b1_readHead 99 = .ok (.isub, 1) := by decide +kernel
theorem d1_readHead_100 : decode b1_readHead 100 = .ok (.istore_n 3, 1) := by decide +kernel
theorem d1_readHead_101 : decode b1_readHead 101 = .ok (.aload_n 0, 1) := by decide +kernel
theorem d1_readHead_102 : decode b1_readHead 102 = .ok (.aload_n 0, 1) := by decide +kernel
theorem d1_readHead_103 : decode b1_readHead 103 = .ok (.getfield 18, 3) := by decide +kernel
theorem d1_readHead_106 : decode b1_readHead 106 = .ok (.getfield 22, 3) := by decide +kernel
theorem d1_readHead_109 : decode b1_readHead 109 = .ok (.aload_n 0, 1) := by decide +kernel
theorem d1_readHead_110 : decode b1_readHead 110 = .ok (.getfield 18, 3) := by decide +kernel
theorem d1_readHead_113 : decode b1_readHead 113 = .ok (.getfield 40, 3) := by decide +kernel
theorem d1_readHead_116 : decode b1_readHead 116 = .ok (.aaload, 1) := by decide +kernel
theorem d1_readHead_117 : decode b1_readHead 117 = .ok (.putfield 26, 3) := by decide +kernel
theorem d1_readHead_120 : decode b1_readHead 120 = .ok (.aload_n 0, 1) := by decide +kernel
theorem d1_readHead_121 : decode b1_readHead 121 = .ok (.getfield 26, 3) := by decide +kernel
theorem d1_readHead_124 : decode b1_readHead 124 = .ok (.iload_n 3, 1) := by decide +kernel
theorem d1_readHead_125 : decode b1_readHead 125 = .ok (.ifCond .ge 7, 3) := by decide +kernel
theorem d1_readHead_132 : decode b1_readHead 132 = .ok (.aload_n 0, 1) := by decide +kernel
theorem d1_readHead_133 : decode b1_readHead 133 = .ok (.getfield 18, 3) := by decide +kernel
theorem d1_readHead_136 : decode b1_readHead 136 = .ok (.getfield 22, 3) := by decide +kernel
theorem d1_readHead_139 : decode b1_readHead 139 = .ok (.iload_n 3, 1) := by decide +kernel
theorem d1_readHead_140 : decode b1_readHead 140 = .ok (.aaload, 1) := by decide +kernel
theorem d1_readHead_141 : decode b1_readHead 141 = .ok (.getfield 104, 3) := by decide +kernel
theorem d1_readHead_128 : decode b1_readHead 128 = .ok (.iconst 0, 1) := by decide +kernel
theorem d1_readHead_129 : decode b1_readHead 129 = .ok (.goto 15, 3) := by decide +kernel
theorem d1_readHead_81 : decode b1_readHead 81 = .ok (.aload_n 0, 1) := by decide +kernel
theorem d1_readHead_82 : decode b1_readHead 82 = .ok (.iconst 3, 1) := by decide +kernel
theorem d1_readHead_83 : decode b1_readHead 83 = .ok (.aload_n 0, 1) := by decide +kernel
theorem d1_readHead_84 : decode b1_readHead 84 = .ok (.getfield 47, 3) := by decide +kernel
theorem d1_readHead_87 : decode b1_readHead 87 = .ok (.invokevirtual 80, 3) := by decide +kernel
theorem d1_readHead_90 : decode b1_readHead 90 = .ok (.return_, 1) := by decide +kernel
theorem d1_readHead_12 : decode b1_readHead 12 = .ok (.aload_n 0, 1) := by decide +kernel
theorem d1_readHead_13 : decode b1_readHead 13 = .ok (.iconst 5, 1) := by decide +kernel
theorem d1_readHead_14 : decode b1_readHead 14 = .ok (.aload_n 0, 1) := by decide +kernel
theorem d1_readHead_15 : decode b1_readHead 15 = .ok (.getfield 47, 3) := by decide +kernel
theorem d1_readHead_18 : decode b1_readHead 18 = .ok (.invokevirtual 80, 3) := by decide +kernel
theorem d1_readHead_21 : decode b1_readHead 21 = .ok (.return_, 1) := by decide +kernel
theorem d1_readHead_51 : decode b1_readHead 51 = .ok (.aload_n 0, 1) := by decide +kernel
theorem d1_readHead_52 : decode b1_readHead 52 = .ok (.iconst 1, 1) := by decide +kernel
theorem d1_readHead_53 : decode b1_readHead 53 = .ok (.aload_n 0, 1) := by decide +kernel
theorem d1_readHead_54 : decode b1_readHead 54 = .ok (.getfield 47, 3) := by decide +kernel
theorem d1_readHead_57 : decode b1_readHead 57 = .ok (.invokevirtual 80, 3) := by decide +kernel
theorem d1_readHead_60 : decode b1_readHead 60 = .ok (.return_, 1) := by decide +kernel
theorem d1_readHead_144 : decode b1_readHead 144 = .ok (.invokevirtual 109, 3) := by decide +kernel
theorem d1_readHead_147 : decode b1_readHead 147 = .ok (.aload_n 0, 1) := by decide +kernel
theorem d1_readHead_148 : decode b1_readHead 148 = .ok (.getfield 26, 3) := by decide +kernel
theorem d1_readHead_151 : decode b1_readHead 151 = .ok (.aload_n 0, 1) := by decide +kernel
theorem d1_readHead_152 : decode b1_readHead 152 = .ok (.getfield 9, 3) := by decide +kernel
theorem d1_readHead_155 : decode b1_readHead 155 = .ok (.aload_n 0, 1) := by decide +kernel
theorem d1_readHead_156 : decode b1_readHead 156 = .ok (.getfield 47, 3) := by decide +kernel
theorem d1_readHead_159 : decode b1_readHead 159 = .ok (.iload_n 2, 1) := by decide +kernel
theorem d1_readHead_160 : decode b1_readHead 160 = .ok (.invokevirtual 112, 3) := by decide +kernel
theorem d1_readHead_163 : decode b1_readHead 163 = .ok (.aload_n 0, 1) := by decide +kernel
theorem d1_readHead_164 : decode b1_readHead 164 = .ok (.dup, 1) := by decide +kernel
theorem d1_readHead_165 : decode b1_readHead 165 = .ok (.getfield 47, 3) := by decide +kernel
theorem d1_readHead_168 : decode b1_readHead 168 = .ok (.iload_n 2, 1) := by decide +kernel
theorem d1_readHead_169 : decode b1_readHead 169 = .ok (.iadd, 1) := by decide +kernel
theorem d1_readHead_170 : decode b1_readHead 170 = .ok (.putfield 47, 3) := by decide +kernel
theorem d1_readHead_173 : decode b1_readHead 173 = .ok (.aload_n 0, 1) := by decide +kernel
theorem d1_readHead_174 : decode b1_readHead 174 = .ok (.invokevirtual 56, 3) := by decide +kernel
theorem d1_readHead_177 : decode b1_readHead 177 = .ok (.aload_n 0, 1) := by decide +kernel
theorem d1_readHead_178 : decode b1_readHead 178 = .ok (.bipush 123, 2) := by decide +kernel
theorem d1_readHead_180 : decode b1_readHead 180 = .ok (.invokevirtual 96, 3) := by decide +kernel
theorem d1_readHead_183 : decode b1_readHead 183 = .ok (.ifCond .ne 13, 3) := by decide +kernel
theorem d1_readHead_196 : decode b1_readHead 196 = .ok (.aload_n 0, 1) := by decide +kernel
theorem d1_readHead_197 : decode b1_readHead 197 = .ok (.dup, 1) := by decide +kernel
theorem d1_readHead_198 : decode b1_readHead 198 = .ok (.getfield 47, 3) := by decide +kernel
theorem d1_readHead_201 : decode b1_readHead 201 = .ok (.iconst 1, 1) := by decide +kernel
theorem d1_readHead_202 : decode b1_readHead 202 = .ok (.iadd, 1) := by decide +kernel
theorem d1_readHead_203 : decode b1_readHead 203 = .ok (.putfield 47, 3) := by decide +kernel
theorem d1_readHead_206 : decode b1_readHead 206 = .ok (.return_, 1) := by decide +kernel
theorem d1_readHead_186 : decode b1_readHead 186 = .ok (.aload_n 0, 1) := by decide +kernel
theorem d1_readHead_187 : decode b1_readHead 187 = .ok (.iconst 1, 1) := by decide +kernel
theorem d1_readHead_188 : decode b1_readHead 188 = .ok (.aload_n 0, 1) := by decide +kernel
theorem d1_readHead_189 : decode b1_readHead 189 = .ok (.getfield 47, 3) := by decide +kernel
theorem d1_readHead_192 : decode b1_readHead 192 = .ok (.invokevirtual 80, 3) := by decide +kernel
theorem d1_readHead_195 : decode b1_readHead 195 = .ok (.return_, 1) := by decide +kernel
theorem d1_closePart_0 : decode b1_closePart 0 = .ok (.aload_n 0, 1) := by decide +kernel
theorem d1_closePart_1 : decode b1_closePart 1 = .ok (.dup, 1) := by decide +kernel
theorem d1_closePart_2 : decode b1_closePart 2 = .ok (.getfield 47, 3) := by decide +kernel
theorem d1_closePart_5 : decode b1_closePart 5 = .ok (.iconst 1, 1) := by decide +kernel
theorem d1_closePart_6 : decode b1_closePart 6 = .ok (.iadd, 1) := by decide +kernel
theorem d1_closePart_7 : decode b1_closePart 7 = .ok (.putfield 47, 3) := by decide +kernel
theorem d1_closePart_10 : decode b1_closePart 10 = .ok (.aload_n 0, 1) := by decide +kernel
theorem d1_closePart_11 : decode b1_closePart 11 = .ok (.getfield 116, 3) := by decide +kernel
theorem d1_closePart_14 : decode b1_closePart 14 = .ok (.iconst (-1), 1) := by decide +kernel
theorem d1_closePart_15 : decode b1_closePart 15 = .ok (.if_icmp .eq 38, 3) := by decide +kernel
theorem d1_closePart_53 : decode b1_closePart 53 = .ok (.return_, 1) := by decide +kernel
theorem d1_closePart_18 : decode b1_closePart 18 = .ok (.aload_n 0, 1) := by decide +kernel
theorem d1_closePart_19 : decode b1_closePart 19 = .ok (.getfield 26, 3) := by decide +kernel
theorem d1_closePart_22 : decode b1_closePart 22 = .ok (.getfield 128, 3) := by decide +kernel
theorem d1_closePart_25 : decode b1_closePart 25 = .ok (.aload_n 0, 1) := by decide +kernel
theorem d1_closePart_26 : decode b1_closePart 26 = .ok (.getfield 116, 3) := by decide +kernel
theorem d1_closePart_29 : decode b1_closePart 29 = .ok (.aload_n 0, 1) := by decide +kernel
theorem d1_closePart_30 : decode b1_closePart 30 = .ok (.getfield 26, 3) := by decide +kernel
theorem d1_closePart_33 : decode b1_closePart 33 = .ok (.getfield 104, 3) := by decide +kernel
theorem d1_closePart_36 : decode b1_closePart 36 = .ok (.iastore, 1) := by decide +kernel
theorem d1_closePart_37 : decode b1_closePart 37 = .ok (.aload_n 0, 1) := by decide +kernel
theorem d1_closePart_38 : decode b1_closePart 38 = .ok (.aload_n 0, 1) := by decide +kernel
theorem d1_closePart_39 : decode b1_closePart 39 = .ok (.getfield 26, 3) := by decide +kernel
theorem d1_closePart_42 : decode b1_closePart 42 = .ok (.getfield 131, 3) := by decide +kernel
theorem d1_closePart_45 : decode b1_closePart 45 = .ok (.aload_n 0, 1) := by decide +kernel
theorem d1_closePart_46 : decode b1_closePart 46 = .ok (.getfield 116, 3) := by decide +kernel
theorem d1_closePart_49 : decode b1_closePart 49 = .ok (.iaload, 1) := by decide +kernel
theorem d1_closePart_50 : decode b1_closePart 50 = .ok (.putfield 116, 3) := by decide +kernel
theorem d1_readField_0 : decode b1_readField 0 = .ok (.aload_n 0, 1) := by decide +kernel
theorem d1_readField_1 : decode b1_readField 1 = .ok (.getfield 9, 3) := by decide +kernel
theorem d1_readField_4 : decode b1_readField 4 = .ok (.aload_n 0, 1) := by decide +kernel
theorem d1_readField_5 : decode b1_readField 5 = .ok (.getfield 47, 3) := by decide +kernel
theorem d1_readField_8 : decode b1_readField 8 = .ok (.iaload, 1) := by decide +kernel
theorem d1_readField_9 : decode b1_readField 9 = .ok (.bipush 48, 2) := by decide +kernel
theorem d1_readField_11 : decode b1_readField 11 = .ok (.isub, 1) := by decide +kernel
theorem d1_readField_12 : decode b1_readField 12 = .ok (.istore_n 2, 1) := by decide +kernel
theorem d1_readField_13 : decode b1_readField 13 = .ok (.aload_n 0, 1) := by decide +kernel
theorem d1_readField_14 : decode b1_readField 14 = .ok (.getfield 26, 3) := by decide +kernel
theorem d1_readField_17 : decode b1_readField 17 = .ok (.iload_n 2, 1) := by decide +kernel
theorem d1_readField_18 : decode b1_readField 18 = .ok (.aload_n 0, 1) := by decide +kernel
theorem d1_readField_19 : decode b1_readField 19 = .ok (.getfield 116, 3) := by decide +kernel
theorem d1_readField_22 : decode b1_readField 22 = .ok (.invokevirtual 144, 3) := by decide +kernel
theorem d1_readField_25 : decode b1_readField 25 = .ok (.ifCond .eq 11, 3) := by decide +kernel
theorem d1_readField_36 : decode b1_readField 36 = .ok (.aload_n 0, 1) := by decide +kernel
theorem d1_readField_37 : decode b1_readField 37 = .ok (.getfield 26, 3) := by decide +kernel
theorem d1_readField_40 : decode b1_readField 40 = .ok (.getfield 148, 3) := by decide +kernel
theorem d1_readField_43 : decode b1_readField 43 = .ok (.bipush 60, 2) := by decide +kernel
theorem d1_readField_45 : decode b1_readField 45 = .ok (.if_icmp .lt 11, 3) := by decide +kernel
theorem d1_readField_56 : decode b1_readField 56 = .ok (.aload_n 0, 1) := by decide +kernel
theorem d1_readField_57 : decode b1_readField 57 = .ok (.dup, 1) := by decide +kernel
theorem d1_readField_58 : decode b1_readField 58 = .ok (.getfield 47, 3) := by decide +kernel
theorem d1_readField_61 : decode b1_readField 61 = .ok (.iconst 1, 1) := by decide +kernel
theorem d1_readField_62 : decode b1_readField 62 = .ok (.iadd, 1) := by decide +kernel
theorem d1_readField_63 : decode b1_readField 63 = .ok (.putfield 47, 3) := by decide +kernel
theorem d1_readField_66 : decode b1_readField 66 = .ok (.aload_n 0, 1) := by decide +kernel
theorem d1_readField_67 : decode b1_readField 67 = .ok (.getfield 116, 3) := by decide +kernel
theorem d1_readField_70 : decode b1_readField 70 = .ok (.iconst (-1), 1) := by decide +kernel
theorem d1_readField_71 : decode b1_readField 71 = .ok (.if_icmp .eq 23, 3) := by decide +kernel
theorem d1_readField_74 : decode b1_readField 74 = .ok (.aload_n 0, 1) := by decide +kernel
theorem d1_readField_75 : decode b1_readField 75 = .ok (.getfield 26, 3) := by decide +kernel
theorem d1_readField_78 : decode b1_readField 78 = .ok (.aload_n 0, 1) := by decide +kernel
theorem d1_readField_79 : decode b1_readField 79 = .ok (.getfield 26, 3) := by decide +kernel
theorem d1_readField_82 : decode b1_readField 82 = .ok (.getfield 151, 3) := by decide +kernel
theorem d1_readField_85 : decode b1_readField 85 = .ok (.aload_n 0, 1) := by decide +kernel
theorem d1_readField_86 : decode b1_readField 86 = .ok (.getfield 116, 3) := by decide +kernel
theorem d1_readField_89 : decode b1_readField 89 = .ok (.iaload, 1) := by decide +kernel
theorem d1_readField_90 : decode b1_readField 90 = .ok (.iload_n 2, 1) := by decide +kernel
theorem d1_readField_91 : decode b1_readField 91 = .ok (.invokevirtual 154, 3) := by decide +kernel
theorem d1_readField_48 : decode b1_readField 48 = .ok (.aload_n 0, 1) := by decide +kernel
theorem d1_readField_49 : decode b1_readField 49 = .ok (.iconst 5, 1) := by decide +kernel
theorem d1_readField_50 : decode b1_readField 50 = .ok (.iload_n 1, 1) := by decide +kernel
theorem d1_readField_51 : decode b1_readField 51 = .ok (.invokevirtual 80, 3) := by decide +kernel
theorem d1_readField_54 : decode b1_readField 54 = .ok (.iconst (-1), 1) := by decide +kernel
theorem d1_readField_55 : decode b1_readField 55 = .ok (.ireturn, 1) := by decide +kernel
theorem d1_readField_28 : decode b1_readField 28 = .ok (.aload_n 0, 1) := by decide +kernel
theorem d1_readField_29 : decode b1_readField 29 = .ok (.iconst 4, 1) := by decide +kernel
theorem d1_readField_30 : decode b1_readField 30 = .ok (.iload_n 1, 1) := by decide +kernel
theorem d1_readField_31 : decode b1_readField 31 = .ok (.invokevirtual 80, 3) := by decide +kernel
theorem d1_readField_34 : decode b1_readField 34 = .ok (.iconst (-1), 1) := by decide +kernel
theorem d1_readField_35 : decode b1_readField 35 = .ok (.ireturn, 1) := by decide +kernel
theorem d1_readField_94 : decode b1_readField 94 = .ok (.aload_n 0, 1) := by decide +kernel
theorem d1_readField_95 : decode b1_readField 95 = .ok (.getfield 26, 3) := by decide +kernel
theorem d1_readField_98 : decode b1_readField 98 = .ok (.iload_n 2, 1) := by decide +kernel
theorem d1_readField_99 : decode b1_readField 99 = .ok (.aload_n 0, 1) := by decide +kernel
theorem d1_readField_100 : decode b1_readField 100 = .ok (.getfield 116, 3) := by decide +kernel
theorem d1_readField_103 : decode b1_readField 103 = .ok (.invokevirtual 157, 3) := by decide +kernel
theorem d1_readField_106 : decode b1_readField 106 = .ok (.ireturn, 1) := by decide +kernel
theorem d1_changeOf_0 : decode b1_changeOf 0 = .ok (.iload_n 0, 1) := by decide +kernel
theorem d1_changeOf_1 : decode b1_changeOf 1 = .ok (.lookupswitch 61 #[(102, 57), (108, 53), (110, 59), (114, 55), (117, 51)], 51) := by decide +kernel
theorem d1_changeOf_58 : decode b1_changeOf 58 = .ok (.iconst 4, 1) := by decide +kernel
theorem d1_changeOf_59 : decode b1_changeOf 59 = .ok (.ireturn, 1) := by decide +kernel
theorem d1_changeOf_54 : decode b1_changeOf 54 = .ok (.iconst 2, 1) := by decide +kernel
theorem d1_changeOf_55 : decode b1_changeOf 55 = .ok (.ireturn, 1) := by decide +kernel
theorem d1_changeOf_60 : decode b1_changeOf 60 = .ok (.iconst 5, 1) := by decide +kernel
theorem d1_changeOf_61 : decode b1_changeOf 61 = .ok (.ireturn, 1) := by decide +kernel
theorem d1_changeOf_56 : decode b1_changeOf 56 = .ok (.iconst 3, 1) := by decide +kernel
theorem d1_changeOf_57 : decode b1_changeOf 57 = .ok (.ireturn, 1) := by decide +kernel
theorem d1_changeOf_52 : decode b1_changeOf 52 = .ok (.iconst 1, 1) := by decide +kernel
theorem d1_changeOf_53 : decode b1_changeOf 53 = .ok (.ireturn, 1) := by decide +kernel
theorem d1_changeOf_62 : decode b1_changeOf 62 = .ok (.iconst 0, 1) := by decide +kernel
theorem d1_changeOf_63 : decode b1_changeOf 63 = .ok (.ireturn, 1) := by decide +kernel
theorem d1_readChange_0 : decode b1_readChange 0 = .ok (.aload_n 0, 1) := by decide +kernel
theorem d1_readChange_1 : decode b1_readChange 1 = .ok (.getfield 47, 3) := by decide +kernel
theorem d1_readChange_4 : decode b1_readChange 4 = .ok (.aload_n 0, 1) := by decide +kernel
theorem d1_readChange_5 : decode b1_readChange 5 = .ok (.getfield 36, 3) := by decide +kernel
theorem d1_readChange_8 : decode b1_readChange 8 = .ok (.if_icmp .ge 18, 3) := by decide +kernel
theorem d1_readChange_26 : decode b1_readChange 26 = .ok (.iconst 0, 1) := by decide +kernel
theorem d1_readChange_11 : decode b1_readChange 11 = .ok (.aload_n 0, 1) := by decide +kernel
theorem d1_readChange_12 : decode b1_readChange 12 = .ok (.getfield 9, 3) := by decide +kernel
theorem d1_readChange_15 : decode b1_readChange 15 = .ok (.aload_n 0, 1) := by decide +kernel
theorem d1_readChange_16 : decode b1_readChange 16 = .ok (.getfield 47, 3) := by decide +kernel
theorem d1_readChange_19 : decode b1_readChange 19 = .ok (.iaload, 1) := by decide +kernel
theorem d1_readChange_20 : decode b1_readChange 20 = .ok (.invokestatic 166, 3) := by decide +kernel
theorem d1_readChange_23 : decode b1_readChange 23 = .ok (.goto 4, 3) := by decide +kernel
theorem d1_readChange_27 : decode b1_readChange 27 = .ok (.istore_n 2, 1) := by decide +kernel
theorem d1_readChange_28 : decode b1_readChange 28 = .ok (.iload_n 2, 1) := by decide +kernel
theorem d1_readChange_29 : decode b1_readChange 29 = .ok (.ifCond .ne 13, 3) := by decide +kernel
theorem d1_readChange_42 : decode b1_readChange 42 = .ok (.aload_n 0, 1) := by decide +kernel
theorem d1_readChange_43 : decode b1_readChange 43 = .ok (.dup, 1) := by decide +kernel
theorem d1_readChange_44 : decode b1_readChange 44 = .ok (.getfield 47, 3) := by decide +kernel
theorem d1_readChange_47 : decode b1_readChange 47 = .ok (.iconst 1, 1) := by decide +kernel
theorem d1_readChange_48 : decode b1_readChange 48 = .ok (.iadd, 1) := by decide +kernel
theorem d1_readChange_49 : decode b1_readChange 49 = .ok (.putfield 47, 3) := by decide +kernel
theorem d1_readChange_52 : decode b1_readChange 52 = .ok (.aload_n 0, 1) := by decide +kernel
theorem d1_readChange_53 : decode b1_readChange 53 = .ok (.bipush 125, 2) := by decide +kernel
theorem d1_readChange_55 : decode b1_readChange 55 = .ok (.invokevirtual 96, 3) := by decide +kernel
theorem d1_readChange_58 : decode b1_readChange 58 = .ok (.ifCond .ne 13, 3) := by decide +kernel
theorem d1_readChange_71 : decode b1_readChange 71 = .ok (.aload_n 0, 1) := by decide +kernel
theorem d1_readChange_72 : decode b1_readChange 72 = .ok (.dup, 1) := by decide +kernel
theorem d1_readChange_73 : decode b1_readChange 73 = .ok (.getfield 47, 3) := by decide +kernel
theorem d1_readChange_76 : decode b1_readChange 76 = .ok (.iconst 1, 1) := by decide +kernel
theorem d1_readChange_77 : decode b1_readChange 77 = .ok (.iadd, 1) := by decide +kernel
theorem d1_readChange_78 : decode b1_readChange 78 = .ok (.putfield 47, 3) := by decide +kernel
theorem d1_readChange_81 : decode b1_readChange 81 = .ok (.aload_n 0, 1) := by decide +kernel
theorem d1_readChange_82 : decode b1_readChange 82 = .ok (.getfield 26, 3) := by decide +kernel
theorem d1_readChange_85 : decode b1_readChange 85 = .ok (.getfield 169, 3) := by decide +kernel
theorem d1_readChange_88 : decode b1_readChange 88 = .ok (.iload_n 1, 1) := by decide +kernel
theorem d1_readChange_89 : decode b1_readChange 89 = .ok (.iload_n 2, 1) := by decide +kernel
theorem d1_readChange_90 : decode b1_readChange 90 = .ok (.iastore, 1) := by decide +kernel
theorem d1_readChange_91 : decode b1_readChange 91 = .ok (.return_, 1) := by decide +kernel
theorem d1_readChange_61 : decode b1_readChange 61 = .ok (.aload_n 0, 1) := by decide +kernel
theorem d1_readChange_62 : decode b1_readChange 62 = .ok (.iconst 1, 1) := by decide +kernel
theorem d1_readChange_63 : decode b1_readChange 63 = .ok (.aload_n 0, 1) := by decide +kernel
theorem d1_readChange_64 : decode b1_readChange 64 = .ok (.getfield 47, 3) := by decide +kernel
theorem d1_readChange_67 : decode b1_readChange 67 = .ok (.invokevirtual 80, 3) := by decide +kernel
theorem d1_readChange_70 : decode b1_readChange 70 = .ok (.return_, 1) := by decide +kernel
theorem d1_readChange_32 : decode b1_readChange 32 = .ok (.aload_n 0, 1) := by decide +kernel
theorem d1_readChange_33 : decode b1_readChange 33 = .ok (.iconst 1, 1) := by decide +kernel
theorem d1_readChange_34 : decode b1_readChange 34 = .ok (.aload_n 0, 1) := by decide +kernel
theorem d1_readChange_35 : decode b1_readChange 35 = .ok (.getfield 47, 3) := by decide +kernel
theorem d1_readChange_38 : decode b1_readChange 38 = .ok (.invokevirtual 80, 3) := by decide +kernel
theorem d1_readChange_41 : decode b1_readChange 41 = .ok (.return_, 1) := by decide +kernel
theorem d1_openDefault_0 : decode b1_openDefault 0 = .ok (.aload_n 0, 1) := by decide +kernel
theorem d1_openDefault_1 : decode b1_openDefault 1 = .ok (.getfield 26, 3) := by decide +kernel
theorem d1_openDefault_4 : decode b1_openDefault 4 = .ok (.getfield 172, 3) := by decide +kernel
theorem d1_openDefault_7 : decode b1_openDefault 7 = .ok (.iload_n 1, 1) := by decide +kernel
theorem d1_openDefault_8 : decode b1_openDefault 8 = .ok (.iaload, 1) := by decide +kernel
theorem d1_openDefault_9 : decode b1_openDefault 9 = .ok (.iconst 4, 1) := by decide +kernel
theorem d1_openDefault_10 : decode b1_openDefault 10 = .ok (.if_icmp .lt 10, 3) := by decide +kernel
theorem d1_openDefault_20 : decode b1_openDefault 20 = .ok (.aload_n 0, 1) := by decide +kernel
theorem d1_openDefault_21 : decode b1_openDefault 21 = .ok (.dup, 1) := by decide +kernel
theorem d1_openDefault_22 : decode b1_openDefault 22 = .ok (.getfield 47, 3) := by decide +kernel
theorem d1_openDefault_25 : decode b1_openDefault 25 = .ok (.iconst 1, 1) := by decide +kernel
theorem d1_openDefault_26 : decode b1_openDefault 26 = .ok (.iadd, 1) := by decide +kernel
theorem d1_openDefault_27 : decode b1_openDefault 27 = .ok (.putfield 47, 3) := by decide +kernel
theorem d1_openDefault_30 : decode b1_openDefault 30 = .ok (.aload_n 0, 1) := by decide +kernel
theorem d1_openDefault_31 : decode b1_openDefault 31 = .ok (.getfield 26, 3) := by decide +kernel
theorem d1_openDefault_34 : decode b1_openDefault 34 = .ok (.getfield 175, 3) := by decide +kernel
theorem d1_openDefault_37 : decode b1_openDefault 37 = .ok (.iload_n 1, 1) := by decide +kernel
theorem d1_openDefault_38 : decode b1_openDefault 38 = .ok (.iconst 1, 1) := by decide +kernel
theorem d1_openDefault_39 : decode b1_openDefault 39 = .ok (.bastore, 1) := by decide +kernel
theorem d1_openDefault_40 : decode b1_openDefault 40 = .ok (.aload_n 0, 1) := by decide +kernel
theorem d1_openDefault_41 : decode b1_openDefault 41 = .ok (.iload_n 1, 1) := by decide +kernel
theorem d1_openDefault_42 : decode b1_openDefault 42 = .ok (.putfield 116, 3) := by decide +kernel
theorem d1_openDefault_45 : decode b1_openDefault 45 = .ok (.return_, 1) := by decide +kernel
theorem d1_openDefault_13 : decode b1_openDefault 13 = .ok (.aload_n 0, 1) := by decide +kernel
theorem d1_openDefault_14 : decode b1_openDefault 14 = .ok (.iconst 2, 1) := by decide +kernel
theorem d1_openDefault_15 : decode b1_openDefault 15 = .ok (.iload_n 2, 1) := by decide +kernel
theorem d1_openDefault_16 : decode b1_openDefault 16 = .ok (.invokevirtual 80, 3) := by decide +kernel
theorem d1_openDefault_19 : decode b1_openDefault 19 = .ok (.return_, 1) := by decide +kernel
theorem d1_readBehindField_0 : decode b1_readBehindField 0 = .ok (.aload_n 0, 1) := by decide +kernel
theorem d1_readBehindField_1 : decode b1_readBehindField 1 = .ok (.bipush 125, 2) := by decide +kernel
theorem d1_readBehindField_3 : decode b1_readBehindField 3 = .ok (.invokevirtual 96, 3) := by decide +kernel
theorem d1_readBehindField_6 : decode b1_readBehindField 6 = .ok (.ifCond .eq 16, 3) := by decide +kernel
theorem d1_readBehindField_22 : decode b1_readBehindField 22 = .ok (.aload_n 0, 1) := by decide +kernel
theorem d1_readBehindField_23 : decode b1_readBehindField 23 = .ok (.bipush 47, 2) := by decide +kernel
theorem d1_readBehindField_25 : decode b1_readBehindField 25 = .ok (.invokevirtual 96, 3) := by decide +kernel
theorem d1_readBehindField_28 : decode b1_readBehindField 28 = .ok (.ifCond .eq 21, 3) := by decide +kernel
theorem d1_readBehindField_49 : decode b1_readBehindField 49 = .ok (.aload_n 0, 1) := by decide +kernel
theorem d1_readBehindField_50 : decode b1_readBehindField 50 = .ok (.bipush 58, 2) := by decide +kernel
theorem d1_readBehindField_52 : decode b1_readBehindField 52 = .ok (.invokevirtual 96, 3) := by decide +kernel
theorem d1_readBehindField_55 : decode b1_readBehindField 55 = .ok (.ifCond .eq 12, 3) := by decide +kernel
theorem d1_readBehindField_67 : decode b1_readBehindField 67 = .ok (.aload_n 0, 1) := by decide +kernel
theorem d1_readBehindField_68 : decode b1_readBehindField 68 = .ok (.iconst 1, 1) := by decide +kernel
theorem d1_readBehindField_69 : decode b1_readBehindField 69 = .ok (.aload_n 0, 1) := by decide +kernel
theorem d1_readBehindField_70 : decode b1_readBehindField 70 = .ok (.getfield 47, 3) := by decide +kernel
theorem d1_readBehindField_73 : decode b1_readBehindField 73 = .ok (.invokevirtual 80, 3) := by decide +kernel
theorem d1_readBehindField_76 : decode b1_readBehindField 76 = .ok (.return_, 1) := by decide +kernel
theorem d1_readBehindField_58 : decode b1_readBehindField 58 = .ok (.aload_n 0, 1) := by decide +kernel
theorem d1_readBehindField_59 : decode b1_readBehindField 59 = .ok (.iload_n 1, 1) := by decide +kernel
theorem d1_readBehindField_60 : decode b1_readBehindField 60 = .ok (.iload_n 2, 1) := by decide +kernel
theorem d1_readBehindField_61 : decode b1_readBehindField 61 = .ok (.invokevirtual 163, 3) := by decide +kernel
theorem d1_readBehindField_64 : decode b1_readBehindField 64 = .ok (.goto 12, 3) := by decide +kernel
theorem d1_readBehindField_31 : decode b1_readBehindField 31 = .ok (.aload_n 0, 1) := by decide +kernel
theorem d1_readBehindField_32 : decode b1_readBehindField 32 = .ok (.dup, 1) := by decide +kernel
theorem d1_readBehindField_33 : decode b1_readBehindField 33 = .ok (.getfield 47, 3) := by decide +kernel
theorem d1_readBehindField_36 : decode b1_readBehindField 36 = .ok (.iconst 1, 1) := by decide +kernel
theorem d1_readBehindField_37 : decode b1_readBehindField 37 = .ok (.iadd, 1) := by decide +kernel
theorem d1_readBehindField_38 : decode b1_readBehindField 38 = .ok (.putfield 47, 3) := by decide +kernel
theorem d1_readBehindField_41 : decode b1_readBehindField 41 = .ok (.aload_n 0, 1) := by decide +kernel
theorem d1_readBehindField_42 : decode b1_readBehindField 42 = .ok (.iload_n 1, 1) := by decide +kernel
theorem d1_readBehindField_43 : decode b1_readBehindField 43 = .ok (.invokevirtual 160, 3) := by decide +kernel
theorem d1_readBehindField_46 : decode b1_readBehindField 46 = .ok (.goto 30, 3) := by decide +kernel
theorem d1_readBehindField_9 : decode b1_readBehindField 9 = .ok (.aload_n 0, 1) := by decide +kernel
theorem d1_readBehindField_10 : decode b1_readBehindField 10 = .ok (.dup, 1) := by decide +kernel
theorem d1_readBehindField_11 : decode b1_readBehindField 11 = .ok (.getfield 47, 3) := by decide +kernel
theorem d1_readBehindField_14 : decode b1_readBehindField 14 = .ok (.iconst 1, 1) := by decide +kernel
theorem d1_readBehindField_15 : decode b1_readBehindField 15 = .ok (.iadd, 1) := by decide +kernel
theorem d1_readBehindField_16 : decode b1_readBehindField 16 = .ok (.putfield 47, 3) := by decide +kernel
theorem d1_readBehindField_19 : decode b1_readBehindField 19 = .ok (.goto 57, 3) := by decide +kernel
theorem d1_readDollar_0 : decode b1_readDollar 0 = .ok (.aload_n 0, 1) := by decide +kernel
theorem d1_readDollar_1 : decode b1_readDollar 1 = .ok (.getfield 47, 3) := by decide +kernel
theorem d1_readDollar_4 : decode b1_readDollar 4 = .ok (.istore_n 1, 1) := by decide +kernel
theorem d1_readDollar_5 : decode b1_readDollar 5 = .ok (.aload_n 0, 1) := by decide +kernel
theorem d1_readDollar_6 : decode b1_readDollar 6 = .ok (.dup, 1) := by decide +kernel
theorem d1_readDollar_7 : decode b1_readDollar 7 = .ok (.getfield 47, 3) := by decide +kernel
theorem d1_readDollar_10 : decode b1_readDollar 10 = .ok (.iconst 1, 1) := by decide +kernel
theorem d1_readDollar_11 : decode b1_readDollar 11 = .ok (.iadd, 1) := by decide +kernel
theorem d1_readDollar_12 : decode b1_readDollar 12 = .ok (.putfield 47, 3) := by decide +kernel
theorem d1_readDollar_15 : decode b1_readDollar 15 = .ok (.aload_n 0, 1) := by decide +kernel
theorem d1_readDollar_16 : decode b1_readDollar 16 = .ok (.bipush 36, 2) := by decide +kernel
theorem d1_readDollar_18 : decode b1_readDollar 18 = .ok (.invokevirtual 96, 3) := by decide +kernel
theorem d1_readDollar_21 : decode b1_readDollar 21 = .ok (.ifCond .ne 12, 3) := by decide +kernel
theorem d1_readDollar_24 : decode b1_readDollar 24 = .ok (.aload_n 0, 1) := by decide +kernel
theorem d1_readDollar_25 : decode b1_readDollar 25 = .ok (.bipush 125, 2) := by decide +kernel
theorem d1_readDollar_27 : decode b1_readDollar 27 = .ok (.invokevirtual 96, 3) := by decide +kernel
theorem d1_readDollar_30 : decode b1_readDollar 30 = .ok (.ifCond .eq 34, 3) := by decide +kernel
theorem d1_readDollar_64 : decode b1_readDollar 64 = .ok (.aload_n 0, 1) := by decide +kernel
theorem d1_readDollar_65 : decode b1_readDollar 65 = .ok (.bipush 123, 2) := by decide +kernel
theorem d1_readDollar_67 : decode b1_readDollar 67 = .ok (.invokevirtual 96, 3) := by decide +kernel
theorem d1_readDollar_70 : decode b1_readDollar 70 = .ok (.istore_n 2, 1) := by decide +kernel
theorem d1_readDollar_71 : decode b1_readDollar 71 = .ok (.iload_n 2, 1) := by decide +kernel
theorem d1_readDollar_72 : decode b1_readDollar 72 = .ok (.ifCond .eq 13, 3) := by decide +kernel
theorem d1_readDollar_75 : decode b1_readDollar 75 = .ok (.aload_n 0, 1) := by decide +kernel
theorem d1_readDollar_76 : decode b1_readDollar 76 = .ok (.dup, 1) := by decide +kernel
theorem d1_readDollar_77 : decode b1_readDollar 77 = .ok (.getfield 47, 3) := by decide +kernel
theorem d1_readDollar_80 : decode b1_readDollar 80 = .ok (.iconst 1, 1) := by decide +kernel
theorem d1_readDollar_81 : decode b1_readDollar 81 = .ok (.iadd, 1) := by decide +kernel
theorem d1_readDollar_82 : decode b1_readDollar 82 = .ok (.putfield 47, 3) := by decide +kernel
theorem d1_readDollar_33 : decode b1_readDollar 33 = .ok (.aload_n 0, 1) := by decide +kernel
theorem d1_readDollar_34 : decode b1_readDollar 34 = .ok (.getfield 26, 3) := by decide +kernel
theorem d1_readDollar_37 : decode b1_readDollar 37 = .ok (.aload_n 0, 1) := by decide +kernel
theorem d1_readDollar_38 : decode b1_readDollar 38 = .ok (.getfield 9, 3) := by decide +kernel
theorem d1_readDollar_41 : decode b1_readDollar 41 = .ok (.aload_n 0, 1) := by decide +kernel
theorem d1_readDollar_42 : decode b1_readDollar 42 = .ok (.getfield 47, 3) := by decide +kernel
theorem d1_readDollar_45 : decode b1_readDollar 45 = .ok (.iaload, 1) := by decide +kernel
theorem d1_readDollar_46 : decode b1_readDollar 46 = .ok (.aload_n 0, 1) := by decide +kernel
theorem d1_readDollar_47 : decode b1_readDollar 47 = .ok (.getfield 116, 3) := by decide +kernel
theorem d1_readDollar_50 : decode b1_readDollar 50 = .ok (.invokevirtual 134, 3) := by decide +kernel
theorem d1_readDollar_53 : decode b1_readDollar 53 = .ok (.aload_n 0, 1) := by decide +kernel
theorem d1_readDollar_54 : decode b1_readDollar 54 = .ok (.dup, 1) := by decide +kernel
theorem d1_readDollar_55 : decode b1_readDollar 55 = .ok (.getfield 47, 3) := by decide +kernel
theorem d1_readDollar_58 : decode b1_readDollar 58 = .ok (.iconst 1, 1) := by decide +kernel
theorem d1_readDollar_59 : decode b1_readDollar 59 = .ok (.iadd, 1) := by decide +kernel
theorem d1_readDollar_60 : decode b1_readDollar 60 = .ok (.putfield 47, 3) := by decide +kernel
theorem d1_readDollar_63 : decode b1_readDollar 63 = .ok (.return_, 1) := by decide +kernel
theorem d1_readDollar_85 : decode b1_readDollar 85 = .ok (.aload_n 0, 1) := by decide +kernel
theorem d1_readDollar_86 : decode b1_readDollar 86 = .ok (.getfield 47, 3) := by decide +kernel
theorem d1_readDollar_89 : decode b1_readDollar 89 = .ok (.aload_n 0, 1) := by decide +kernel
theorem d1_readDollar_90 : decode b1_readDollar 90 = .ok (.getfield 36, 3) := by decide +kernel
theorem d1_readDollar_93 : decode b1_readDollar 93 = .ok (.if_icmp .ge 31, 3) := by decide +kernel
theorem d1_readDollar_96 : decode b1_readDollar 96 = .ok (.aload_n 0, 1) := by decide +kernel
theorem d1_readDollar_97 : decode b1_readDollar 97 = .ok (.getfield 9, 3) := by decide +kernel
theorem d1_readDollar_100 : decode b1_readDollar 100 = .ok (.aload_n 0, 1) := by decide +kernel
theorem d1_readDollar_101 : decode b1_readDollar 101 = .ok (.getfield 47, 3) := by decide +kernel
theorem d1_readDollar_104 : decode b1_readDollar 104 = .ok (.iaload, 1) := by decide +kernel
theorem d1_readDollar_105 : decode b1_readDollar 105 = .ok (.bipush 48, 2) := by decide +kernel
theorem d1_readDollar_107 : decode b1_readDollar 107 = .ok (.if_icmp .lt 17, 3) := by decide +kernel
theorem d1_readDollar_110 : decode b1_readDollar 110 = .ok (.aload_n 0, 1) := by decide +kernel
theorem d1_readDollar_111 : decode b1_readDollar 111 = .ok (.getfield 9, 3) := by decide +kernel
theorem d1_readDollar_114 : decode b1_readDollar 114 = .ok (.aload_n 0, 1) := by decide +kernel
theorem d1_readDollar_115 : decode b1_readDollar 115 = .ok (.getfield 47, 3) := by decide +kernel
theorem d1_readDollar_118 : decode b1_readDollar 118 = .ok (.iaload, 1) := by decide +kernel
theorem d1_readDollar_119 : decode b1_readDollar 119 = .ok (.bipush 57, 2) := by decide +kernel
theorem d1_readDollar_121 : decode b1_readDollar 121 = .ok (.if_icmp .le 13, 3) := by decide +kernel
theorem d1_readDollar_134 : decode b1_readDollar 134 = .ok (.aload_n 0, 1) := by decide +kernel
theorem d1_readDollar_135 : decode b1_readDollar 135 = .ok (.iload_n 1, 1) := by decide +kernel
theorem d1_readDollar_136 : decode b1_readDollar 136 = .ok (.invokevirtual 137, 3) := by decide +kernel
theorem d1_readDollar_139 : decode b1_readDollar 139 = .ok (.istore_n 3, 1) := by decide +kernel
theorem d1_readDollar_140 : decode b1_readDollar 140 = .ok (.iload_n 2, 1) := by decide +kernel
theorem d1_readDollar_141 : decode b1_readDollar 141 = .ok (.ifCond .eq 14, 3) := by decide +kernel
theorem d1_readDollar_155 : decode b1_readDollar 155 = .ok (.return_, 1) := by decide +kernel
theorem d1_readDollar_144 : decode b1_readDollar 144 = .ok (.iload_n 3, 1) := by decide +kernel
theorem d1_readDollar_145 : decode b1_readDollar 145 = .ok (.iconst (-1), 1) := by decide +kernel
theorem d1_readDollar_146 : decode b1_readDollar 146 = .ok (.if_icmp .eq 9, 3) := by decide +kernel
theorem d1_readDollar_149 : decode b1_readDollar 149 = .ok (.aload_n 0, 1) := by decide +kernel
theorem d1_readDollar_150 : decode b1_readDollar 150 = .ok (.iload_n 3, 1) := by decide +kernel
theorem d1_readDollar_151 : decode b1_readDollar 151 = .ok (.iload_n 1, 1) := by decide +kernel
theorem d1_readDollar_152 : decode b1_readDollar 152 = .ok (.invokevirtual 141, 3) := by decide +kernel
theorem d1_readDollar_124 : decode b1_readDollar 124 = .ok (.aload_n 0, 1) := by decide +kernel
theorem d1_readDollar_125 : decode b1_readDollar 125 = .ok (.iconst 1, 1) := by decide +kernel
theorem d1_readDollar_126 : decode b1_readDollar 126 = .ok (.aload_n 0, 1) := by decide +kernel
theorem d1_readDollar_127 : decode b1_readDollar 127 = .ok (.getfield 47, 3) := by decide +kernel
theorem d1_readDollar_130 : decode b1_readDollar 130 = .ok (.invokevirtual 80, 3) := by decide +kernel
theorem d1_readDollar_133 : decode b1_readDollar 133 = .ok (.return_, 1) := by decide +kernel
theorem d1_readLiteral_0 : decode b1_readLiteral 0 = .ok (.aload_n 0, 1) := by decide +kernel
theorem d1_readLiteral_1 : decode b1_readLiteral 1 = .ok (.getfield 9, 3) := by decide +kernel
theorem d1_readLiteral_4 : decode b1_readLiteral 4 = .ok (.aload_n 0, 1) := by decide +kernel
theorem d1_readLiteral_5 : decode b1_readLiteral 5 = .ok (.getfield 47, 3) := by decide +kernel
theorem d1_readLiteral_8 : decode b1_readLiteral 8 = .ok (.iaload, 1) := by decide +kernel
theorem d1_readLiteral_9 : decode b1_readLiteral 9 = .ok (.istore_n 1, 1) := by decide +kernel
theorem d1_readLiteral_10 : decode b1_readLiteral 10 = .ok (.iload_n 1, 1) := by decide +kernel
theorem d1_readLiteral_11 : decode b1_readLiteral 11 = .ok (.bipush 10, 2) := by decide +kernel
theorem d1_readLiteral_13 : decode b1_readLiteral 13 = .ok (.if_icmp .eq 25, 3) := by decide +kernel
theorem d1_readLiteral_16 : decode b1_readLiteral 16 = .ok (.iload_n 1, 1) := by decide +kernel
theorem d1_readLiteral_17 : decode b1_readLiteral 17 = .ok (.bipush 32, 2) := by decide +kernel
theorem d1_readLiteral_19 : decode b1_readLiteral 19 = .ok (.if_icmp .lt 9, 3) := by decide +kernel
theorem d1_readLiteral_22 : decode b1_readLiteral 22 = .ok (.iload_n 1, 1) := by decide +kernel
theorem d1_readLiteral_23 : decode b1_readLiteral 23 = .ok (.bipush 126, 2) := by decide +kernel
theorem d1_readLiteral_25 : decode b1_readLiteral 25 = .ok (.if_icmp .le 13, 3) := by decide +kernel
theorem d1_readLiteral_38 : decode b1_readLiteral 38 = .ok (.aload_n 0, 1) := by decide +kernel
theorem d1_readLiteral_39 : decode b1_readLiteral 39 = .ok (.getfield 26, 3) := by decide +kernel
theorem d1_readLiteral_42 : decode b1_readLiteral 42 = .ok (.iload_n 1, 1) := by decide +kernel
theorem d1_readLiteral_43 : decode b1_readLiteral 43 = .ok (.aload_n 0, 1) := by decide +kernel
theorem d1_readLiteral_44 : decode b1_readLiteral 44 = .ok (.getfield 116, 3) := by decide +kernel
theorem d1_readLiteral_47 : decode b1_readLiteral 47 = .ok (.invokevirtual 134, 3) := by decide +kernel
theorem d1_readLiteral_50 : decode b1_readLiteral 50 = .ok (.aload_n 0, 1) := by decide +kernel
theorem d1_readLiteral_51 : decode b1_readLiteral 51 = .ok (.dup, 1) := by decide +kernel
theorem d1_readLiteral_52 : decode b1_readLiteral 52 = .ok (.getfield 47, 3) := by decide +kernel
theorem d1_readLiteral_55 : decode b1_readLiteral 55 = .ok (.iconst 1, 1) := by decide +kernel
theorem d1_readLiteral_56 : decode b1_readLiteral 56 = .ok (.iadd, 1) := by decide +kernel
theorem d1_readLiteral_57 : decode b1_readLiteral 57 = .ok (.putfield 47, 3) := by decide +kernel
theorem d1_readLiteral_60 : decode b1_readLiteral 60 = .ok (.return_, 1) := by decide +kernel
theorem d1_readLiteral_28 : decode b1_readLiteral 28 = .ok (.aload_n 0, 1) := by decide +kernel
theorem d1_readLiteral_29 : decode b1_readLiteral 29 = .ok (.iconst 1, 1) := by decide +kernel
theorem d1_readLiteral_30 : decode b1_readLiteral 30 = .ok (.aload_n 0, 1) := by decide +kernel
theorem d1_readLiteral_31 : decode b1_readLiteral 31 = .ok (.getfield 47, 3) := by decide +kernel
theorem d1_readLiteral_34 : decode b1_readLiteral 34 = .ok (.invokevirtual 80, 3) := by decide +kernel
theorem d1_readLiteral_37 : decode b1_readLiteral 37 = .ok (.return_, 1) := by decide +kernel
theorem d1_readBody_0 : decode b1_readBody 0 = .ok (.aload_n 0, 1) := by decide +kernel
theorem d1_readBody_1 : decode b1_readBody 1 = .ok (.iconst (-1), 1) := by decide +kernel
theorem d1_readBody_2 : decode b1_readBody 2 = .ok (.putfield 116, 3) := by decide +kernel
theorem d1_readBody_5 : decode b1_readBody 5 = .ok (.iconst 0, 1) := by decide +kernel
theorem d1_readBody_6 : decode b1_readBody 6 = .ok (.istore_n 1, 1) := by decide +kernel
theorem d1_readBody_7 : decode b1_readBody 7 = .ok (.iconst 0, 1) := by decide +kernel
theorem d1_readBody_8 : decode b1_readBody 8 = .ok (.istore_n 2, 1) := by decide +kernel
theorem d1_readBody_9 : decode b1_readBody 9 = .ok (.iload_n 2, 1) := by decide +kernel
theorem d1_readBody_10 : decode b1_readBody 10 = .ok (.aload_n 0, 1) := by decide +kernel
theorem d1_readBody_11 : decode b1_readBody 11 = .ok (.getfield 36, 3) := by decide +kernel
theorem d1_readBody_14 : decode b1_readBody 14 = .ok (.if_icmp .gt 103, 3) := by decide +kernel
theorem d1_readBody_117 : decode b1_readBody 117 = .ok (.return_, 1) := by decide +kernel
theorem d1_readBody_17 : decode b1_readBody 17 = .ok (.iload_n 1, 1) := by decide +kernel
theorem d1_readBody_18 : decode b1_readBody 18 = .ok (.ifCond .ne 99, 3) := by decide +kernel
theorem d1_readBody_21 : decode b1_readBody 21 = .ok (.aload_n 0, 1) := by decide +kernel
theorem d1_readBody_22 : decode b1_readBody 22 = .ok (.getfield 50, 3) := by decide +kernel
theorem d1_readBody_25 : decode b1_readBody 25 = .ok (.ifCond .ne 92, 3) := by decide +kernel
theorem d1_readBody_28 : decode b1_readBody 28 = .ok (.aload_n 0, 1) := by decide +kernel
theorem d1_readBody_29 : decode b1_readBody 29 = .ok (.getfield 47, 3) := by decide +kernel
theorem d1_readBody_32 : decode b1_readBody 32 = .ok (.aload_n 0, 1) := by decide +kernel
theorem d1_readBody_33 : decode b1_readBody 33 = .ok (.getfield 36, 3) := by decide +kernel
theorem d1_readBody_36 : decode b1_readBody 36 = .ok (.if_icmp .lt 15, 3) := by decide +kernel
theorem d1_readBody_51 : decode b1_readBody 51 = .ok (.aload_n 0, 1) := by decide +kernel
theorem d1_readBody_52 : decode b1_readBody 52 = .ok (.getfield 9, 3) := by decide +kernel
theorem d1_readBody_55 : decode b1_readBody 55 = .ok (.aload_n 0, 1) := by decide +kernel
theorem d1_readBody_56 : decode b1_readBody 56 = .ok (.getfield 47, 3) := by decide +kernel
theorem d1_readBody_59 : decode b1_readBody 59 = .ok (.iaload, 1) := by decide +kernel
theorem d1_readBody_60 : decode b1_readBody 60 = .ok (.bipush 125, 2) := by decide +kernel
theorem d1_readBody_62 : decode b1_readBody 62 = .ok (.if_icmp .ne 24, 3) := by decide +kernel
theorem d1_readBody_86 : decode b1_readBody 86 = .ok (.aload_n 0, 1) := by decide +kernel
theorem d1_readBody_87 : decode b1_readBody 87 = .ok (.getfield 9, 3) := by decide +kernel
theorem d1_readBody_90 : decode b1_readBody 90 = .ok (.aload_n 0, 1) := by decide +kernel
theorem d1_readBody_91 : decode b1_readBody 91 = .ok (.getfield 47, 3) := by decide +kernel
theorem d1_readBody_94 : decode b1_readBody 94 = .ok (.iaload, 1) := by decide +kernel
theorem d1_readBody_95 : decode b1_readBody 95 = .ok (.bipush 36, 2) := by decide +kernel
theorem d1_readBody_97 : decode b1_readBody 97 = .ok (.if_icmp .ne 10, 3) := by decide +kernel
theorem d1_readBody_107 : decode b1_readBody 107 = .ok (.aload_n 0, 1) := by decide +kernel
theorem d1_readBody_108 : decode b1_readBody 108 = .ok (.invokevirtual 125, 3) := by decide +kernel
theorem d1_readBody_111 : decode b1_readBody 111 = .ok (.iinc 2 1, 3) := by decide +kernel
theorem d1_readBody_114 : decode b1_readBody 114 = .ok (.goto (-105), 3) := by decide +kernel
theorem d1_readBody_100 : decode b1_readBody 100 = .ok (.aload_n 0, 1) := by decide +kernel
theorem d1_readBody_101 : decode b1_readBody 101 = .ok (.invokevirtual 122, 3) := by decide +kernel
theorem d1_readBody_104 : decode b1_readBody 104 = .ok (.goto 7, 3) := by decide +kernel
theorem d1_readBody_65 : decode b1_readBody 65 = .ok (.aload_n 0, 1) := by decide +kernel
theorem d1_readBody_66 : decode b1_readBody 66 = .ok (.getfield 116, 3) := by decide +kernel
theorem d1_readBody_69 : decode b1_readBody 69 = .ok (.iconst (-1), 1) := by decide +kernel
theorem d1_readBody_70 : decode b1_readBody 70 = .ok (.if_icmp .ne 7, 3) := by decide +kernel
theorem d1_readBody_77 : decode b1_readBody 77 = .ok (.iconst 0, 1) := by decide +kernel
theorem d1_readBody_73 : decode b1_readBody 73 = .ok (.iconst 1, 1) := by decide +kernel
theorem d1_readBody_74 : decode b1_readBody 74 = .ok (.goto 4, 3) := by decide +kernel
theorem d1_readBody_39 : decode b1_readBody 39 = .ok (.aload_n 0, 1) := by decide +kernel
theorem d1_readBody_40 : decode b1_readBody 40 = .ok (.iconst 1, 1) := by decide +kernel
theorem d1_readBody_41 : decode b1_readBody 41 = .ok (.aload_n 0, 1) := by decide +kernel
theorem d1_readBody_42 : decode b1_readBody 42 = .ok (.getfield 36, 3) := by decide +kernel
theorem d1_readBody_45 : decode b1_readBody 45 = .ok (.invokevirtual 80, 3) := by decide +kernel
theorem d1_readBody_48 : decode b1_readBody 48 = .ok (.goto 63, 3) := by decide +kernel
theorem d1_readBody_78 : decode b1_readBody 78 = .ok (.istore_n 1, 1) := by decide +kernel
theorem d1_readBody_79 : decode b1_readBody 79 = .ok (.aload_n 0, 1) := by decide +kernel
theorem d1_readBody_80 : decode b1_readBody 80 = .ok (.invokevirtual 119, 3) := by decide +kernel
theorem d1_readBody_83 : decode b1_readBody 83 = .ok (.goto 28, 3) := by decide +kernel
theorem d1_readOrder_0 : decode b1_readOrder 0 = .ok (.aload_n 0, 1) := by decide +kernel
theorem d1_readOrder_1 : decode b1_readOrder 1 = .ok (.iload_n 1, 1) := by decide +kernel
theorem d1_readOrder_2 : decode b1_readOrder 2 = .ok (.putfield 47, 3) := by decide +kernel
theorem d1_readOrder_5 : decode b1_readOrder 5 = .ok (.aload_n 0, 1) := by decide +kernel
theorem d1_readOrder_6 : decode b1_readOrder 6 = .ok (.invokevirtual 56, 3) := by decide +kernel
theorem d1_readOrder_9 : decode b1_readOrder 9 = .ok (.aload_n 0, 1) := by decide +kernel
theorem d1_readOrder_10 : decode b1_readOrder 10 = .ok (.invokevirtual 59, 3) := by decide +kernel
theorem d1_readOrder_13 : decode b1_readOrder 13 = .ok (.istore_n 2, 1) := by decide +kernel
theorem d1_readOrder_14 : decode b1_readOrder 14 = .ok (.aload_n 0, 1) := by decide +kernel
theorem d1_readOrder_15 : decode b1_readOrder 15 = .ok (.iload_n 2, 1) := by decide +kernel
theorem d1_readOrder_16 : decode b1_readOrder 16 = .ok (.ldc 92, 2) := by decide +kernel
theorem d1_readOrder_18 : decode b1_readOrder 18 = .ok (.invokevirtual 64, 3) := by decide +kernel
theorem d1_readOrder_21 : decode b1_readOrder 21 = .ok (.istore_n 3, 1) := by decide +kernel
theorem d1_readOrder_22 : decode b1_readOrder 22 = .ok (.iload_n 3, 1) := by decide +kernel
theorem d1_readOrder_23 : decode b1_readOrder 23 = .ok (.ifCond .ne 23, 3) := by decide +kernel
theorem d1_readOrder_26 : decode b1_readOrder 26 = .ok (.aload_n 0, 1) := by decide +kernel
theorem d1_readOrder_27 : decode b1_readOrder 27 = .ok (.iload_n 2, 1) := by decide +kernel
theorem d1_readOrder_28 : decode b1_readOrder 28 = .ok (.ldc 94, 2) := by decide +kernel
theorem d1_readOrder_30 : decode b1_readOrder 30 = .ok (.invokevirtual 64, 3) := by decide +kernel
theorem d1_readOrder_33 : decode b1_readOrder 33 = .ok (.ifCond .ne 13, 3) := by decide +kernel
theorem d1_readOrder_36 : decode b1_readOrder 36 = .ok (.aload_n 0, 1) := by decide +kernel
theorem d1_readOrder_37 : decode b1_readOrder 37 = .ok (.iconst 1, 1) := by decide +kernel
theorem d1_readOrder_38 : decode b1_readOrder 38 = .ok (.aload_n 0, 1) := by decide +kernel
theorem d1_readOrder_39 : decode b1_readOrder 39 = .ok (.getfield 47, 3) := by decide +kernel
theorem d1_readOrder_42 : decode b1_readOrder 42 = .ok (.invokevirtual 80, 3) := by decide +kernel
theorem d1_readOrder_45 : decode b1_readOrder 45 = .ok (.return_, 1) := by decide +kernel
theorem d1_readOrder_46 : decode b1_readOrder 46 = .ok (.aload_n 0, 1) := by decide +kernel
theorem d1_readOrder_47 : decode b1_readOrder 47 = .ok (.iload_n 2, 1) := by decide +kernel
theorem d1_readOrder_48 : decode b1_readOrder 48 = .ok (.putfield 47, 3) := by decide +kernel
theorem d1_readOrder_51 : decode b1_readOrder 51 = .ok (.aload_n 0, 1) := by decide +kernel
theorem d1_readOrder_52 : decode b1_readOrder 52 = .ok (.invokevirtual 56, 3) := by decide +kernel
theorem d1_readOrder_55 : decode b1_readOrder 55 = .ok (.aload_n 0, 1) := by decide +kernel
theorem d1_readOrder_56 : decode b1_readOrder 56 = .ok (.bipush 59, 2) := by decide +kernel
theorem d1_readOrder_58 : decode b1_readOrder 58 = .ok (.invokevirtual 96, 3) := by decide +kernel
theorem d1_readOrder_61 : decode b1_readOrder 61 = .ok (.ifCond .ne 13, 3) := by decide +kernel
theorem d1_readOrder_74 : decode b1_readOrder 74 = .ok (.aload_n 0, 1) := by decide +kernel
theorem d1_readOrder_75 : decode b1_readOrder 75 = .ok (.dup, 1) := by decide +kernel
theorem d1_readOrder_76 : decode b1_readOrder 76 = .ok (.getfield 47, 3) := by decide +kernel
theorem d1_readOrder_79 : decode b1_readOrder 79 = .ok (.iconst 1, 1) := by decide +kernel
theorem d1_readOrder_80 : decode b1_readOrder 80 = .ok (.iadd, 1) := by decide +kernel
theorem d1_readOrder_81 : decode b1_readOrder 81 = .ok (.putfield 47, 3) := by decide +kernel
theorem d1_readOrder_84 : decode b1_readOrder 84 = .ok (.aload_n 0, 1) := by decide +kernel
theorem d1_readOrder_85 : decode b1_readOrder 85 = .ok (.getfield 18, 3) := by decide +kernel
theorem d1_readOrder_88 : decode b1_readOrder 88 = .ok (.iload_n 3, 1) := by decide +kernel
theorem d1_readOrder_89 : decode b1_readOrder 89 = .ok (.putfield 43, 3) := by decide +kernel
theorem d1_readOrder_92 : decode b1_readOrder 92 = .ok (.return_, 1) := by decide +kernel
theorem d1_readOrder_64 : decode b1_readOrder 64 = .ok (.aload_n 0, 1) := by decide +kernel
theorem d1_readOrder_65 : decode b1_readOrder 65 = .ok (.iconst 1, 1) := by decide +kernel
theorem d1_readOrder_66 : decode b1_readOrder 66 = .ok (.aload_n 0, 1) := by decide +kernel
theorem d1_readOrder_67 : decode b1_readOrder 67 = .ok (.getfield 47, 3) := by decide +kernel
theorem d1_readOrder_70 : decode b1_readOrder 70 = .ok (.invokevirtual 80, 3) := by decide +kernel
theorem d1_readOrder_73 : decode b1_readOrder 73 = .ok (.return_, 1) := by decide +kernel
theorem d1_readLibrary_0 : decode b1_readLibrary 0 = .ok (.aload_n 0, 1) := by decide +kernel
theorem d1_readLibrary_1 : decode b1_readLibrary 1 = .ok (.aload_n 1, 1) := by decide +kernel
theorem d1_readLibrary_2 : decode b1_readLibrary 2 = .ok (.putfield 9, 3) := by decide +kernel
theorem d1_readLibrary_5 : decode b1_readLibrary 5 = .ok (.aload_n 0, 1) := by decide +kernel
theorem d1_readLibrary_6 : decode b1_readLibrary 6 = .ok (.iload_n 2, 1) := by decide +kernel
theorem d1_readLibrary_7 : decode b1_readLibrary 7 = .ok (.aload_n 1, 1) := by decide +kernel
theorem d1_readLibrary_8 : decode b1_readLibrary 8 = .ok (.arraylength, 1) := by decide +kernel
theorem d1_readLibrary_9 : decode b1_readLibrary 9 = .ok (.invokestatic 30, 3) := by decide +kernel
theorem d1_readLibrary_12 : decode b1_readLibrary 12 = .ok (.putfield 36, 3) := by decide +kernel
theorem d1_readLibrary_15 : decode b1_readLibrary 15 = .ok (.aload_n 0, 1) := by decide +kernel
theorem d1_readLibrary_16 : decode b1_readLibrary 16 = .ok (.getfield 18, 3) := by decide +kernel
theorem d1_readLibrary_19 : decode b1_readLibrary 19 = .ok (.iconst 0, 1) := by decide +kernel
theorem d1_readLibrary_20 : decode b1_readLibrary 20 = .ok (.putfield 40, 3) := by decide +kernel
theorem d1_readLibrary_23 : decode b1_readLibrary 23 = .ok (.aload_n 0, 1) := by decide +kernel
theorem d1_readLibrary_24 : decode b1_readLibrary 24 = .ok (.getfield 18, 3) := by decide +kernel
theorem d1_readLibrary_27 : decode b1_readLibrary 27 = .ok (.iconst 0, 1) := by decide +kernel
theorem d1_readLibrary_28 : decode b1_readLibrary 28 = .ok (.putfield 43, 3) := by decide +kernel
theorem d1_readLibrary_31 : decode b1_readLibrary 31 = .ok (.aload_n 0, 1) := by decide +kernel
theorem d1_readLibrary_32 : decode b1_readLibrary 32 = .ok (.iconst 0, 1) := by decide +kernel
theorem d1_readLibrary_33 : decode b1_readLibrary 33 = .ok (.putfield 47, 3) := by decide +kernel
theorem d1_readLibrary_36 : decode b1_readLibrary 36 = .ok (.aload_n 0, 1) := by decide +kernel
theorem d1_readLibrary_37 : decode b1_readLibrary 37 = .ok (.iconst 0, 1) := by decide +kernel
theorem d1_readLibrary_38 : decode b1_readLibrary 38 = .ok (.putfield 50, 3) := by decide +kernel
theorem d1_readLibrary_41 : decode b1_readLibrary 41 = .ok (.aload_n 0, 1) := by decide +kernel
theorem d1_readLibrary_42 : decode b1_readLibrary 42 = .ok (.iconst (-1), 1) := by decide +kernel
theorem d1_readLibrary_43 : decode b1_readLibrary 43 = .ok (.putfield 53, 3) := by decide +kernel
theorem d1_readLibrary_46 : decode b1_readLibrary 46 = .ok (.aload_n 0, 1) := by decide +kernel
theorem d1_readLibrary_47 : decode b1_readLibrary 47 = .ok (.invokevirtual 56, 3) := by decide +kernel
theorem d1_readLibrary_50 : decode b1_readLibrary 50 = .ok (.iconst 0, 1) := by decide +kernel
theorem d1_readLibrary_51 : decode b1_readLibrary 51 = .ok (.istore_n 3, 1) := by decide +kernel
theorem d1_readLibrary_52 : decode b1_readLibrary 52 = .ok (.iload_n 3, 1) := by decide +kernel
theorem d1_readLibrary_53 : decode b1_readLibrary 53 = .ok (.aload_n 0, 1) := by decide +kernel
theorem d1_readLibrary_54 : decode b1_readLibrary 54 = .ok (.getfield 36, 3) := by decide +kernel
theorem d1_readLibrary_57 : decode b1_readLibrary 57 = .ok (.if_icmp .ge 110, 3) := by decide +kernel
theorem d1_readLibrary_167 : decode b1_readLibrary 167 = .ok (.return_, 1) := by decide +kernel
theorem d1_readLibrary_60 : decode b1_readLibrary 60 = .ok (.aload_n 0, 1) := by decide +kernel
theorem d1_readLibrary_61 : decode b1_readLibrary 61 = .ok (.getfield 47, 3) := by decide +kernel
theorem d1_readLibrary_64 : decode b1_readLibrary 64 = .ok (.aload_n 0, 1) := by decide +kernel
theorem d1_readLibrary_65 : decode b1_readLibrary 65 = .ok (.getfield 36, 3) := by decide +kernel
theorem d1_readLibrary_68 : decode b1_readLibrary 68 = .ok (.if_icmp .ge 99, 3) := by decide +kernel
theorem d1_readLibrary_71 : decode b1_readLibrary 71 = .ok (.aload_n 0, 1) := by decide +kernel
theorem d1_readLibrary_72 : decode b1_readLibrary 72 = .ok (.getfield 50, 3) := by decide +kernel
theorem d1_readLibrary_75 : decode b1_readLibrary 75 = .ok (.ifCond .ne 92, 3) := by decide +kernel
theorem d1_readLibrary_78 : decode b1_readLibrary 78 = .ok (.aload_n 0, 1) := by decide +kernel
theorem d1_readLibrary_79 : decode b1_readLibrary 79 = .ok (.invokevirtual 59, 3) := by decide +kernel
theorem d1_readLibrary_82 : decode b1_readLibrary 82 = .ok (.istore 4, 2) := by decide +kernel
theorem d1_readLibrary_84 : decode b1_readLibrary 84 = .ok (.aload_n 0, 1) := by decide +kernel
theorem d1_readLibrary_85 : decode b1_readLibrary 85 = .ok (.iload 4, 2) := by decide +kernel
theorem d1_readLibrary_87 : decode b1_readLibrary 87 = .ok (.ldc 63, 2) := by decide +kernel
theorem d1_readLibrary_89 : decode b1_readLibrary 89 = .ok (.invokevirtual 64, 3) := by decide +kernel
theorem d1_readLibrary_92 : decode b1_readLibrary 92 = .ok (.ifCond .eq 36, 3) := by decide +kernel
theorem d1_readLibrary_128 : decode b1_readLibrary 128 = .ok (.aload_n 0, 1) := by decide +kernel
theorem d1_readLibrary_129 : decode b1_readLibrary 129 = .ok (.iload 4, 2) := by decide +kernel
theorem d1_readLibrary_131 : decode b1_readLibrary 131 = .ok (.ldc 75, 2) := by decide +kernel
theorem d1_readLibrary_133 : decode b1_readLibrary 133 = .ok (.invokevirtual 64, 3) := by decide +kernel
theorem d1_readLibrary_136 : decode b1_readLibrary 136 = .ok (.ifCond .eq 12, 3) := by decide +kernel
theorem d1_readLibrary_148 : decode b1_readLibrary 148 = .ok (.aload_n 0, 1) := by decide +kernel
theorem d1_readLibrary_149 : decode b1_readLibrary 149 = .ok (.iconst 1, 1) := by decide +kernel
theorem d1_readLibrary_150 : decode b1_readLibrary 150 = .ok (.aload_n 0, 1) := by decide +kernel
theorem d1_readLibrary_151 : decode b1_readLibrary 151 = .ok (.getfield 47, 3) := by decide +kernel
theorem d1_readLibrary_154 : decode b1_readLibrary 154 = .ok (.invokevirtual 80, 3) := by decide +kernel
theorem d1_readLibrary_139 : decode b1_readLibrary 139 = .ok (.aload_n 0, 1) := by decide +kernel
theorem d1_readLibrary_140 : decode b1_readLibrary 140 = .ok (.iload 4, 2) := by decide +kernel
theorem d1_readLibrary_142 : decode b1_readLibrary 142 = .ok (.invokevirtual 77, 3) := by decide +kernel
theorem d1_readLibrary_145 : decode b1_readLibrary 145 = .ok (.goto 12, 3) := by decide +kernel
theorem d1_readLibrary_95 : decode b1_readLibrary 95 = .ok (.aload_n 0, 1) := by decide +kernel
theorem d1_readLibrary_96 : decode b1_readLibrary 96 = .ok (.iload 4, 2) := by decide +kernel
theorem d1_readLibrary_98 : decode b1_readLibrary 98 = .ok (.invokevirtual 68, 3) := by decide +kernel
theorem d1_readLibrary_101 : decode b1_readLibrary 101 = .ok (.aload_n 0, 1) := by decide +kernel
theorem d1_readLibrary_102 : decode b1_readLibrary 102 = .ok (.getfield 50, 3) := by decide +kernel
theorem d1_readLibrary_105 : decode b1_readLibrary 105 = .ok (.ifCond .ne 52, 3) := by decide +kernel
theorem d1_readLibrary_108 : decode b1_readLibrary 108 = .ok (.aload_n 0, 1) := by decide +kernel
theorem d1_readLibrary_109 : decode b1_readLibrary 109 = .ok (.invokevirtual 72, 3) := by decide +kernel
theorem d1_readLibrary_112 : decode b1_readLibrary 112 = .ok (.aload_n 0, 1) := by decide +kernel
theorem d1_readLibrary_113 : decode b1_readLibrary 113 = .ok (.getfield 18, 3) := by decide +kernel
theorem d1_readLibrary_116 : decode b1_readLibrary 116 = .ok (.dup, 1) := by decide +kernel
theorem d1_readLibrary_117 : decode b1_readLibrary 117 = .ok (.getfield 40, 3) := by decide +kernel
theorem d1_readLibrary_120 : decode b1_readLibrary 120 = .ok (.iconst 1, 1) := by decide +kernel
theorem d1_readLibrary_121 : decode b1_readLibrary 121 = .ok (.iadd, 1) := by decide +kernel
theorem d1_readLibrary_122 : decode b1_readLibrary 122 = .ok (.putfield 40, 3) := by decide +kernel
theorem d1_readLibrary_125 : decode b1_readLibrary 125 = .ok (.goto 32, 3) := by decide +kernel
theorem d1_readLibrary_157 : decode b1_readLibrary 157 = .ok (.aload_n 0, 1) := by decide +kernel
theorem d1_readLibrary_158 : decode b1_readLibrary 158 = .ok (.invokevirtual 56, 3) := by decide +kernel
theorem d1_readLibrary_161 : decode b1_readLibrary 161 = .ok (.iinc 3 1, 3) := by decide +kernel
theorem d1_readLibrary_164 : decode b1_readLibrary 164 = .ok (.goto (-112), 3) := by decide +kernel
