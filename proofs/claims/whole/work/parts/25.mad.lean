theorem d7_thrown_0 : decode b7_thrown 0 = .ok (.aload_n 0, 1) := by decide +kernel
theorem d7_thrown_1 : decode b7_thrown 1 = .ok (.getfield 79, 3) := by decide +kernel
theorem d7_thrown_4 : decode b7_thrown 4 = .ok (.ireturn, 1) := by decide +kernel
theorem d7_within_0 : decode b7_within 0 = .ok (.iload_n 0, 1) := by decide +kernel
theorem d7_within_1 : decode b7_within 1 = .ok (.iload_n 1, 1) := by decide +kernel
theorem d7_within_2 : decode b7_within 2 = .ok (.if_icmp .lt 12, 3) := by decide +kernel
theorem d7_within_14 : decode b7_within 14 = .ok (.iconst 0, 1) := by decide +kernel
theorem d7_within_15 : decode b7_within 15 = .ok (.ireturn, 1) := by decide +kernel
theorem d7_within_5 : decode b7_within 5 = .ok (.iload_n 0, 1) := by decide +kernel
theorem d7_within_6 : decode b7_within 6 = .ok (.iload_n 2, 1) := by decide +kernel
theorem d7_within_7 : decode b7_within 7 = .ok (.if_icmp .gt 7, 3) := by decide +kernel
theorem d7_within_10 : decode b7_within 10 = .ok (.iconst 1, 1) := by decide +kernel
theorem d7_within_11 : decode b7_within 11 = .ok (.goto 4, 3) := by decide +kernel
theorem d7_has_0 : decode b7_has 0 = .ok (.iload_n 0, 1) := by decide +kernel
theorem d7_has_1 : decode b7_has 1 = .ok (.iload_n 1, 1) := by decide +kernel
theorem d7_has_2 : decode b7_has 2 = .ok (.ishr, 1) := by decide +kernel
theorem d7_has_3 : decode b7_has 3 = .ok (.iconst 1, 1) := by decide +kernel
theorem d7_has_4 : decode b7_has 4 = .ok (.iand, 1) := by decide +kernel
theorem d7_has_5 : decode b7_has 5 = .ok (.iconst 1, 1) := by decide +kernel
theorem d7_has_6 : decode b7_has 6 = .ok (.if_icmp .ne 7, 3) := by decide +kernel
theorem d7_has_13 : decode b7_has 13 = .ok (.iconst 0, 1) := by decide +kernel
theorem d7_has_14 : decode b7_has 14 = .ok (.ireturn, 1) := by decide +kernel
theorem d7_has_9 : decode b7_has 9 = .ok (.iconst 1, 1) := by decide +kernel
theorem d7_has_10 : decode b7_has 10 = .ok (.goto 4, 3) := by decide +kernel
theorem d7_bits_0 : decode b7_bits 0 = .ok (.iconst 0, 1) := by decide +kernel
theorem d7_bits_1 : decode b7_bits 1 = .ok (.istore_n 1, 1) := by decide +kernel
theorem d7_bits_2 : decode b7_bits 2 = .ok (.iconst 0, 1) := by decide +kernel
theorem d7_bits_3 : decode b7_bits 3 = .ok (.istore_n 2, 1) := by decide +kernel
theorem d7_bits_4 : decode b7_bits 4 = .ok (.iload_n 2, 1) := by decide +kernel
theorem d7_bits_5 : decode b7_bits 5 = .ok (.bipush 12, 2) := by decide +kernel
theorem d7_bits_7 : decode b7_bits 7 = .ok (.if_icmp .ge 17, 3) := by decide +kernel
theorem d7_bits_24 : decode b7_bits 24 = .ok (.iload_n 1, 1) := by decide +kernel
theorem d7_bits_25 : decode b7_bits 25 = .ok (.ireturn, 1) := by decide +kernel
theorem d7_bits_10 : decode b7_bits 10 = .ok (.iload_n 1, 1) := by decide +kernel
theorem d7_bits_11 : decode b7_bits 11 = .ok (.iload_n 0, 1) := by decide +kernel
theorem d7_bits_12 : decode b7_bits 12 = .ok (.iload_n 2, 1) := by decide +kernel
theorem d7_bits_13 : decode b7_bits 13 = .ok (.ishr, 1) := by decide +kernel
theorem d7_bits_14 : decode b7_bits 14 = .ok (.iconst 1, 1) := by decide +kernel
theorem d7_bits_15 : decode b7_bits 15 = .ok (.iand, 1) := by decide +kernel
theorem d7_bits_16 : decode b7_bits 16 = .ok (.iadd, 1) := by decide +kernel
theorem d7_bits_17 : decode b7_bits 17 = .ok (.istore_n 1, 1) := by decide +kernel
theorem d7_bits_18 : decode b7_bits 18 = .ok (.iinc 2 1, 3) := by decide +kernel
theorem d7_bits_21 : decode b7_bits 21 = .ok (.goto (-17), 3) := by decide +kernel
theorem d7_throwsIf_0 : decode b7_throwsIf 0 = .ok (.aload_n 0, 1) := by decide +kernel
theorem d7_throwsIf_1 : decode b7_throwsIf 1 = .ok (.getfield 79, 3) := by decide +kernel
theorem d7_throwsIf_4 : decode b7_throwsIf 4 = .ok (.ifCond .ne 12, 3) := by decide +kernel
theorem d7_throwsIf_7 : decode b7_throwsIf 7 = .ok (.iload_n 1, 1) := by decide +kernel
theorem d7_throwsIf_8 : decode b7_throwsIf 8 = .ok (.ifCond .eq 8, 3) := by decide +kernel
theorem d7_throwsIf_11 : decode b7_throwsIf 11 = .ok (.aload_n 0, 1) := by decide +kernel
theorem d7_throwsIf_12 : decode b7_throwsIf 12 = .ok (.iload_n 2, 1) := by decide +kernel
theorem d7_throwsIf_13 : decode b7_throwsIf 13 = .ok (.putfield 79, 3) := by decide +kernel
theorem d7_throwsIf_16 : decode b7_throwsIf 16 = .ok (.aload_n 0, 1) := by decide +kernel
theorem d7_throwsIf_17 : decode b7_throwsIf 17 = .ok (.getfield 79, 3) := by decide +kernel
theorem d7_throwsIf_20 : decode b7_throwsIf 20 = .ok (.ifCond .le 7, 3) := by decide +kernel
theorem d7_throwsIf_27 : decode b7_throwsIf 27 = .ok (.iconst 0, 1) := by decide +kernel
theorem d7_throwsIf_28 : decode b7_throwsIf 28 = .ok (.ireturn, 1) := by decide +kernel
theorem d7_throwsIf_23 : decode b7_throwsIf 23 = .ok (.iconst 1, 1) := by decide +kernel
theorem d7_throwsIf_24 : decode b7_throwsIf 24 = .ok (.goto 4, 3) := by decide +kernel
theorem d7_copies_0 : decode b7_copies 0 = .ok (.iconst 0, 1) := by decide +kernel
theorem d7_copies_1 : decode b7_copies 1 = .ok (.istore 4, 2) := by decide +kernel
theorem d7_copies_3 : decode b7_copies 3 = .ok (.iload 4, 2) := by decide +kernel
theorem d7_copies_5 : decode b7_copies 5 = .ok (.sipush 2256, 3) := by decide +kernel
theorem d7_copies_8 : decode b7_copies 8 = .ok (.if_icmp .ge 21, 3) := by decide +kernel
theorem d7_copies_29 : decode b7_copies 29 = .ok (.return_, 1) := by decide +kernel
theorem d7_copies_11 : decode b7_copies 11 = .ok (.aload_n 2, 1) := by decide +kernel
theorem d7_copies_12 : decode b7_copies 12 = .ok (.iload_n 3, 1) := by decide +kernel
theorem d7_copies_13 : decode b7_copies 13 = .ok (.iload 4, 2) := by decide +kernel
theorem d7_copies_15 : decode b7_copies 15 = .ok (.iadd, 1) := by decide +kernel
theorem d7_copies_16 : decode b7_copies 16 = .ok (.aload_n 0, 1) := by decide +kernel
theorem d7_copies_17 : decode b7_copies 17 = .ok (.iload_n 1, 1) := by decide +kernel
theorem d7_copies_18 : decode b7_copies 18 = .ok (.iload 4, 2) := by decide +kernel
theorem d7_copies_20 : decode b7_copies 20 = .ok (.iadd, 1) := by decide +kernel
theorem d7_copies_21 : decode b7_copies 21 = .ok (.iaload, 1) := by decide +kernel
theorem d7_copies_22 : decode b7_copies 22 = .ok (.iastore, 1) := by decide +kernel
theorem d7_copies_23 : decode b7_copies 23 = .ok (.iinc 4 1, 3) := by decide +kernel
theorem d7_copies_26 : decode b7_copies 26 = .ok (.goto (-23), 3) := by decide +kernel
theorem d7_noSnippet_0 : decode b7_noSnippet 0 = .ok (.aload_n 0, 1) := by decide +kernel
theorem d7_noSnippet_1 : decode b7_noSnippet 1 = .ok (.iload_n 1, 1) := by decide +kernel
theorem d7_noSnippet_2 : decode b7_noSnippet 2 = .ok (.iconst 0, 1) := by decide +kernel
theorem d7_noSnippet_3 : decode b7_noSnippet 3 = .ok (.aload_n 0, 1) := by decide +kernel
theorem d7_noSnippet_4 : decode b7_noSnippet 4 = .ok (.getfield 32, 3) := by decide +kernel
theorem d7_noSnippet_7 : decode b7_noSnippet 7 = .ok (.getfield 82, 3) := by decide +kernel
theorem d7_noSnippet_10 : decode b7_noSnippet 10 = .ok (.iconst 1, 1) := by decide +kernel
theorem d7_noSnippet_11 : decode b7_noSnippet 11 = .ok (.isub, 1) := by decide +kernel
theorem d7_noSnippet_12 : decode b7_noSnippet 12 = .ok (.invokestatic 85, 3) := by decide +kernel
theorem d7_noSnippet_15 : decode b7_noSnippet 15 = .ok (.ifCond .ne 7, 3) := by decide +kernel
theorem d7_noSnippet_22 : decode b7_noSnippet 22 = .ok (.iconst 0, 1) := by decide +kernel
theorem d7_noSnippet_18 : decode b7_noSnippet 18 = .ok (.iconst 1, 1) := by decide +kernel
theorem d7_noSnippet_19 : decode b7_noSnippet 19 = .ok (.goto 4, 3) := by decide +kernel
theorem d7_noSnippet_23 : decode b7_noSnippet 23 = .ok (.iconst 1, 1) := by decide +kernel
theorem d7_noSnippet_24 : decode b7_noSnippet 24 = .ok (.invokevirtual 89, 3) := by decide +kernel
theorem d7_noSnippet_27 : decode b7_noSnippet 27 = .ok (.ireturn, 1) := by decide +kernel
theorem d7_isField_0 : decode b7_isField 0 = .ok (.iload_n 0, 1) := by decide +kernel
theorem d7_isField_1 : decode b7_isField 1 = .ok (.iconst 0, 1) := by decide +kernel
theorem d7_isField_2 : decode b7_isField 2 = .ok (.bipush 9, 2) := by decide +kernel
theorem d7_isField_4 : decode b7_isField 4 = .ok (.invokestatic 85, 3) := by decide +kernel
theorem d7_isField_7 : decode b7_isField 7 = .ok (.ireturn, 1) := by decide +kernel
theorem d7_bytesIn_0 : decode b7_bytesIn 0 = .ok (.iconst 0, 1) := by decide +kernel
theorem d7_bytesIn_1 : decode b7_bytesIn 1 = .ok (.istore_n 1, 1) := by decide +kernel
theorem d7_bytesIn_2 : decode b7_bytesIn 2 = .ok (.bipush 24, 2) := by decide +kernel
theorem d7_bytesIn_4 : decode b7_bytesIn 4 = .ok (.istore_n 2, 1) := by decide +kernel
theorem d7_bytesIn_5 : decode b7_bytesIn 5 = .ok (.iload_n 2, 1) := by decide +kernel
theorem d7_bytesIn_6 : decode b7_bytesIn 6 = .ok (.ifCond .lt 27, 3) := by decide +kernel
theorem d7_bytesIn_33 : decode b7_bytesIn 33 = .ok (.iload_n 1, 1) := by decide +kernel
theorem d7_bytesIn_34 : decode b7_bytesIn 34 = .ok (.ireturn, 1) := by decide +kernel
theorem d7_bytesIn_9 : decode b7_bytesIn 9 = .ok (.iload_n 1, 1) := by decide +kernel
theorem d7_bytesIn_10 : decode b7_bytesIn 10 = .ok (.iload_n 0, 1) := by decide +kernel
theorem d7_bytesIn_11 : decode b7_bytesIn 11 = .ok (.iload_n 2, 1) := by decide +kernel
theorem d7_bytesIn_12 : decode b7_bytesIn 12 = .ok (.ishr, 1) := by decide +kernel
theorem d7_bytesIn_13 : decode b7_bytesIn 13 = .ok (.sipush 255, 3) := by decide +kernel
theorem d7_bytesIn_16 : decode b7_bytesIn 16 = .ok (.iand, 1) := by decide +kernel
theorem d7_bytesIn_17 : decode b7_bytesIn 17 = .ok (.ifCond .eq 7, 3) := by decide +kernel
theorem d7_bytesIn_24 : decode b7_bytesIn 24 = .ok (.iconst 0, 1) := by decide +kernel
theorem d7_bytesIn_25 : decode b7_bytesIn 25 = .ok (.iadd, 1) := by decide +kernel
theorem d7_bytesIn_26 : decode b7_bytesIn 26 = .ok (.istore_n 1, 1) := by decide +kernel
theorem d7_bytesIn_27 : decode b7_bytesIn 27 = .ok (.iinc 2 (-8), 3) := by decide +kernel
theorem d7_bytesIn_30 : decode b7_bytesIn 30 = .ok (.goto (-25), 3) := by decide +kernel
theorem d7_bytesIn_20 : decode b7_bytesIn 20 = .ok (.iconst 1, 1) := by decide +kernel
theorem d7_bytesIn_21 : decode b7_bytesIn 21 = .ok (.goto 4, 3) := by decide +kernel
theorem d7_puts_0 : decode b7_puts 0 = .ok (.bipush 24, 2) := by decide +kernel
theorem d7_puts_2 : decode b7_puts 2 = .ok (.istore_n 2, 1) := by decide +kernel
theorem d7_puts_3 : decode b7_puts 3 = .ok (.iload_n 2, 1) := by decide +kernel
theorem d7_puts_4 : decode b7_puts 4 = .ok (.ifCond .lt 45, 3) := by decide +kernel
theorem d7_puts_49 : decode b7_puts 49 = .ok (.return_, 1) := by decide +kernel
theorem d7_puts_7 : decode b7_puts 7 = .ok (.iload_n 1, 1) := by decide +kernel
theorem d7_puts_8 : decode b7_puts 8 = .ok (.iload_n 2, 1) := by decide +kernel
theorem d7_puts_9 : decode b7_puts 9 = .ok (.ishr, 1) := by decide +kernel
theorem d7_puts_10 : decode b7_puts 10 = .ok (.sipush 255, 3) := by decide +kernel
theorem d7_puts_13 : decode b7_puts 13 = .ok (.iand, 1) := by decide +kernel
theorem d7_puts_14 : decode b7_puts 14 = .ok (.ifCond .eq 29, 3) := by decide +kernel
theorem d7_puts_43 : decode b7_puts 43 = .ok (.iinc 2 (-8), 3) := by decide +kernel
theorem d7_puts_46 : decode b7_puts 46 = .ok (.goto (-43), 3) := by decide +kernel
theorem d7_puts_17 : decode b7_puts 17 = .ok (.aload_n 0, 1) := by decide +kernel
theorem d7_puts_18 : decode b7_puts 18 = .ok (.getfield 36, 3) := by decide +kernel
theorem d7_puts_21 : decode b7_puts 21 = .ok (.aload_n 0, 1) := by decide +kernel
theorem d7_puts_22 : decode b7_puts 22 = .ok (.getfield 93, 3) := by decide +kernel
theorem d7_puts_25 : decode b7_puts 25 = .ok (.iload_n 1, 1) := by decide +kernel
theorem d7_puts_26 : decode b7_puts 26 = .ok (.iload_n 2, 1) := by decide +kernel
theorem d7_puts_27 : decode b7_puts 27 = .ok (.ishr, 1) := by decide +kernel
theorem d7_puts_28 : decode b7_puts 28 = .ok (.sipush 255, 3) := by decide +kernel
theorem d7_puts_31 : decode b7_puts 31 = .ok (.iand, 1) := by decide +kernel
theorem d7_puts_32 : decode b7_puts 32 = .ok (.iastore, 1) := by decide +kernel
theorem d7_puts_33 : decode b7_puts 33 = .ok (.aload_n 0, 1) := by decide +kernel
theorem d7_puts_34 : decode b7_puts 34 = .ok (.dup, 1) := by decide +kernel
theorem d7_puts_35 : decode b7_puts 35 = .ok (.getfield 93, 3) := by decide +kernel
theorem d7_puts_38 : decode b7_puts 38 = .ok (.iconst 1, 1) := by decide +kernel
theorem d7_puts_39 : decode b7_puts 39 = .ok (.iadd, 1) := by decide +kernel
theorem d7_puts_40 : decode b7_puts 40 = .ok (.putfield 93, 3) := by decide +kernel
theorem d7_append_0 : decode b7_append 0 = .ok (.aload_n 0, 1) := by decide +kernel
theorem d7_append_1 : decode b7_append 1 = .ok (.iconst 0, 1) := by decide +kernel
theorem d7_append_2 : decode b7_append 2 = .ok (.putfield 79, 3) := by decide +kernel
theorem d7_append_5 : decode b7_append 5 = .ok (.aload_n 0, 1) := by decide +kernel
theorem d7_append_6 : decode b7_append 6 = .ok (.aload_n 0, 1) := by decide +kernel
theorem d7_append_7 : decode b7_append 7 = .ok (.getfield 93, 3) := by decide +kernel
theorem d7_append_10 : decode b7_append 10 = .ok (.iload_n 1, 1) := by decide +kernel
theorem d7_append_11 : decode b7_append 11 = .ok (.invokestatic 96, 3) := by decide +kernel
theorem d7_append_14 : decode b7_append 14 = .ok (.iadd, 1) := by decide +kernel
theorem d7_append_15 : decode b7_append 15 = .ok (.iload_n 2, 1) := by decide +kernel
theorem d7_append_16 : decode b7_append 16 = .ok (.invokestatic 96, 3) := by decide +kernel
theorem d7_append_19 : decode b7_append 19 = .ok (.iadd, 1) := by decide +kernel
theorem d7_append_20 : decode b7_append 20 = .ok (.iload_n 3, 1) := by decide +kernel
theorem d7_append_21 : decode b7_append 21 = .ok (.invokestatic 96, 3) := by decide +kernel
theorem d7_append_24 : decode b7_append 24 = .ok (.iadd, 1) := by decide +kernel
theorem d7_append_25 : decode b7_append 25 = .ok (.iload 4, 2) := by decide +kernel
theorem d7_append_27 : decode b7_append 27 = .ok (.invokestatic 96, 3) := by decide +kernel
theorem d7_append_30 : decode b7_append 30 = .ok (.iadd, 1) := by decide +kernel
theorem d7_append_31 : decode b7_append 31 = .ok (.iload 5, 2) := by decide +kernel
theorem d7_append_33 : decode b7_append 33 = .ok (.invokestatic 96, 3) := by decide +kernel
theorem d7_append_36 : decode b7_append 36 = .ok (.iadd, 1) := by decide +kernel
theorem d7_append_37 : decode b7_append 37 = .ok (.sipush 700, 3) := by decide +kernel
theorem d7_append_40 : decode b7_append 40 = .ok (.if_icmp .le 7, 3) := by decide +kernel
theorem d7_append_47 : decode b7_append 47 = .ok (.iconst 0, 1) := by decide +kernel
theorem d7_append_43 : decode b7_append 43 = .ok (.iconst 1, 1) := by decide +kernel
theorem d7_append_44 : decode b7_append 44 = .ok (.goto 4, 3) := by decide +kernel
theorem d7_append_48 : decode b7_append 48 = .ok (.iconst 1, 1) := by decide +kernel
theorem d7_append_49 : decode b7_append 49 = .ok (.invokevirtual 89, 3) := by decide +kernel
theorem d7_append_52 : decode b7_append 52 = .ok (.ifCond .eq 5, 3) := by decide +kernel
theorem d7_append_57 : decode b7_append 57 = .ok (.aload_n 0, 1) := by decide +kernel
theorem d7_append_58 : decode b7_append 58 = .ok (.iload_n 1, 1) := by decide +kernel
theorem d7_append_59 : decode b7_append 59 = .ok (.invokevirtual 100, 3) := by decide +kernel
theorem d7_append_62 : decode b7_append 62 = .ok (.aload_n 0, 1) := by decide +kernel
theorem d7_append_63 : decode b7_append 63 = .ok (.iload_n 2, 1) := by decide +kernel
theorem d7_append_64 : decode b7_append 64 = .ok (.invokevirtual 100, 3) := by decide +kernel
theorem d7_append_67 : decode b7_append 67 = .ok (.aload_n 0, 1) := by decide +kernel
theorem d7_append_68 : decode b7_append 68 = .ok (.iload_n 3, 1) := by decide +kernel
theorem d7_append_69 : decode b7_append 69 = .ok (.invokevirtual 100, 3) := by decide +kernel
theorem d7_append_72 : decode b7_append 72 = .ok (.aload_n 0, 1) := by decide +kernel
theorem d7_append_73 : decode b7_append 73 = .ok (.iload 4, 2) := by decide +kernel
theorem d7_append_75 : decode b7_append 75 = .ok (.invokevirtual 100, 3) := by decide +kernel
theorem d7_append_78 : decode b7_append 78 = .ok (.aload_n 0, 1) := by decide +kernel
theorem d7_append_79 : decode b7_append 79 = .ok (.iload 5, 2) := by decide +kernel
theorem d7_append_81 : decode b7_append 81 = .ok (.invokevirtual 100, 3) := by decide +kernel
theorem d7_append_84 : decode b7_append 84 = .ok (.aload_n 0, 1) := by decide +kernel
theorem d7_append_85 : decode b7_append 85 = .ok (.getfield 93, 3) := by decide +kernel
theorem d7_append_88 : decode b7_append 88 = .ok (.ireturn, 1) := by decide +kernel
theorem d7_append_55 : decode b7_append 55 = .ok (.iconst 0, 1) := by decide +kernel
theorem d7_append_56 : decode b7_append 56 = .ok (.ireturn, 1) := by decide +kernel
theorem d7_byteAt_0 : decode b7_byteAt 0 = .ok (.iload_n 1, 1) := by decide +kernel
theorem d7_byteAt_1 : decode b7_byteAt 1 = .ok (.aload_n 0, 1) := by decide +kernel
theorem d7_byteAt_2 : decode b7_byteAt 2 = .ok (.getfield 93, 3) := by decide +kernel
theorem d7_byteAt_5 : decode b7_byteAt 5 = .ok (.if_icmp .ge 12, 3) := by decide +kernel
theorem d7_byteAt_17 : decode b7_byteAt 17 = .ok (.iconst (-1), 1) := by decide +kernel
theorem d7_byteAt_18 : decode b7_byteAt 18 = .ok (.ireturn, 1) := by decide +kernel
theorem d7_byteAt_8 : decode b7_byteAt 8 = .ok (.aload_n 0, 1) := by decide +kernel
theorem d7_byteAt_9 : decode b7_byteAt 9 = .ok (.getfield 36, 3) := by decide +kernel
theorem d7_byteAt_12 : decode b7_byteAt 12 = .ok (.iload_n 1, 1) := by decide +kernel
theorem d7_byteAt_13 : decode b7_byteAt 13 = .ok (.iaload, 1) := by decide +kernel
theorem d7_byteAt_14 : decode b7_byteAt 14 = .ok (.goto 4, 3) := by decide +kernel
theorem d7_fails_0 : decode b7_fails 0 = .ok (.aload_n 0, 1) := by decide +kernel
theorem d7_fails_1 : decode b7_fails 1 = .ok (.getfield 104, 3) := by decide +kernel
theorem d7_fails_4 : decode b7_fails 4 = .ok (.ifCond .ne 13, 3) := by decide +kernel
theorem d7_fails_17 : decode b7_fails 17 = .ok (.iconst 0, 1) := by decide +kernel
theorem d7_fails_18 : decode b7_fails 18 = .ok (.ireturn, 1) := by decide +kernel
theorem d7_fails_7 : decode b7_fails 7 = .ok (.aload_n 0, 1) := by decide +kernel
theorem d7_fails_8 : decode b7_fails 8 = .ok (.iload_n 1, 1) := by decide +kernel
theorem d7_fails_9 : decode b7_fails 9 = .ok (.putfield 104, 3) := by decide +kernel
theorem d7_fails_12 : decode b7_fails 12 = .ok (.aload_n 0, 1) := by decide +kernel
theorem d7_fails_13 : decode b7_fails 13 = .ok (.iload_n 2, 1) := by decide +kernel
theorem d7_fails_14 : decode b7_fails 14 = .ok (.putfield 39, 3) := by decide +kernel
theorem d7_isLetter_0 : decode b7_isLetter 0 = .ok (.iload_n 0, 1) := by decide +kernel
theorem d7_isLetter_1 : decode b7_isLetter 1 = .ok (.bipush 97, 2) := by decide +kernel
theorem d7_isLetter_3 : decode b7_isLetter 3 = .ok (.bipush 122, 2) := by decide +kernel
theorem d7_isLetter_5 : decode b7_isLetter 5 = .ok (.invokestatic 85, 3) := by decide +kernel
theorem d7_isLetter_8 : decode b7_isLetter 8 = .ok (.ireturn, 1) := by decide +kernel
theorem d7_token_0 : decode b7_token 0 = .ok (.aload_n 0, 1) := by decide +kernel
theorem d7_token_1 : decode b7_token 1 = .ok (.aload_n 0, 1) := by decide +kernel
theorem d7_token_2 : decode b7_token 2 = .ok (.getfield 107, 3) := by decide +kernel
theorem d7_token_5 : decode b7_token 5 = .ok (.invokevirtual 110, 3) := by decide +kernel
theorem d7_token_8 : decode b7_token 8 = .ok (.bipush 32, 2) := by decide +kernel
theorem d7_token_10 : decode b7_token 10 = .ok (.if_icmp .eq 16, 3) := by decide +kernel
theorem d7_token_13 : decode b7_token 13 = .ok (.aload_n 0, 1) := by decide +kernel
theorem d7_token_14 : decode b7_token 14 = .ok (.aload_n 0, 1) := by decide +kernel
theorem d7_token_15 : decode b7_token 15 = .ok (.getfield 107, 3) := by decide +kernel
theorem d7_token_18 : decode b7_token 18 = .ok (.invokevirtual 110, 3) := by decide +kernel
theorem d7_token_21 : decode b7_token 21 = .ok (.bipush 10, 2) := by decide +kernel
theorem d7_token_23 : decode b7_token 23 = .ok (.if_icmp .ne 16, 3) := by decide +kernel
theorem d7_token_39 : decode b7_token 39 = .ok (.aload_n 0, 1) := by decide +kernel
theorem d7_token_40 : decode b7_token 40 = .ok (.aload_n 0, 1) := by decide +kernel
theorem d7_token_41 : decode b7_token 41 = .ok (.getfield 107, 3) := by decide +kernel
theorem d7_token_44 : decode b7_token 44 = .ok (.putfield 113, 3) := by decide +kernel
theorem d7_token_47 : decode b7_token 47 = .ok (.aload_n 0, 1) := by decide +kernel
theorem d7_token_48 : decode b7_token 48 = .ok (.aload_n 0, 1) := by decide +kernel
theorem d7_token_49 : decode b7_token 49 = .ok (.aload_n 0, 1) := by decide +kernel
theorem d7_token_50 : decode b7_token 50 = .ok (.getfield 107, 3) := by decide +kernel
theorem d7_token_53 : decode b7_token 53 = .ok (.invokevirtual 110, 3) := by decide +kernel
theorem d7_token_56 : decode b7_token 56 = .ok (.invokestatic 116, 3) := by decide +kernel
theorem d7_token_59 : decode b7_token 59 = .ok (.putfield 120, 3) := by decide +kernel
theorem d7_token_26 : decode b7_token 26 = .ok (.aload_n 0, 1) := by decide +kernel
theorem d7_token_27 : decode b7_token 27 = .ok (.dup, 1) := by decide +kernel
theorem d7_token_28 : decode b7_token 28 = .ok (.getfield 107, 3) := by decide +kernel
theorem d7_token_31 : decode b7_token 31 = .ok (.iconst 1, 1) := by decide +kernel
theorem d7_token_32 : decode b7_token 32 = .ok (.iadd, 1) := by decide +kernel
theorem d7_token_33 : decode b7_token 33 = .ok (.putfield 107, 3) := by decide +kernel
theorem d7_token_36 : decode b7_token 36 = .ok (.goto (-36), 3) := by decide +kernel
theorem d7_token_62 : decode b7_token 62 = .ok (.aload_n 0, 1) := by decide +kernel
theorem d7_token_63 : decode b7_token 63 = .ok (.aload_n 0, 1) := by decide +kernel
theorem d7_token_64 : decode b7_token 64 = .ok (.getfield 107, 3) := by decide +kernel
theorem d7_token_67 : decode b7_token 67 = .ok (.invokevirtual 110, 3) := by decide +kernel
theorem d7_token_70 : decode b7_token 70 = .ok (.invokestatic 116, 3) := by decide +kernel
theorem d7_token_73 : decode b7_token 73 = .ok (.ifCond .eq 16, 3) := by decide +kernel
theorem d7_token_89 : decode b7_token 89 = .ok (.aload_n 0, 1) := by decide +kernel
theorem d7_token_90 : decode b7_token 90 = .ok (.dup, 1) := by decide +kernel
theorem d7_token_91 : decode b7_token 91 = .ok (.getfield 107, 3) := by decide +kernel
theorem d7_token_94 : decode b7_token 94 = .ok (.aload_n 0, 1) := by decide +kernel
theorem d7_token_95 : decode b7_token 95 = .ok (.getfield 120, 3) := by decide +kernel
theorem d7_token_98 : decode b7_token 98 = .ok (.ifCond .ne 15, 3) := by decide +kernel
theorem d7_token_113 : decode b7_token 113 = .ok (.iconst 0, 1) := by decide +kernel
theorem d7_token_114 : decode b7_token 114 = .ok (.goto 4, 3) := by decide +kernel
theorem d7_token_101 : decode b7_token 101 = .ok (.aload_n 0, 1) := by decide +kernel
theorem d7_token_102 : decode b7_token 102 = .ok (.aload_n 0, 1) := by decide +kernel
theorem d7_token_103 : decode b7_token 103 = .ok (.getfield 107, 3) := by decide +kernel
theorem d7_token_106 : decode b7_token 106 = .ok (.invokevirtual 110, 3) := by decide +kernel
theorem d7_token_109 : decode b7_token 109 = .ok (.iconst (-1), 1) := by decide +kernel
theorem d7_token_110 : decode b7_token 110 = .ok (.if_icmp .ne 7, 3) := by decide +kernel
theorem d7_token_117 : decode b7_token 117 = .ok (.iconst 1, 1) := by decide +kernel
theorem d7_token_76 : decode b7_token 76 = .ok (.aload_n 0, 1) := by decide +kernel
theorem d7_token_77 : decode b7_token 77 = .ok (.dup, 1) := by decide +kernel
theorem d7_token_78 : decode b7_token 78 = .ok (.getfield 107, 3) := by decide +kernel
theorem d7_token_81 : decode b7_token 81 = .ok (.iconst 1, 1) := by decide +kernel
theorem d7_token_82 : decode b7_token 82 = .ok (.iadd, 1) := by decide +kernel
theorem d7_token_83 : decode b7_token 83 = .ok (.putfield 107, 3) := by decide +kernel
theorem d7_token_86 : decode b7_token 86 = .ok (.goto (-24), 3) := by decide +kernel
theorem d7_token_118 : decode b7_token 118 = .ok (.iadd, 1) := by decide +kernel
theorem d7_token_119 : decode b7_token 119 = .ok (.putfield 107, 3) := by decide +kernel
theorem d7_token_122 : decode b7_token 122 = .ok (.aload_n 0, 1) := by decide +kernel
theorem d7_token_123 : decode b7_token 123 = .ok (.aload_n 0, 1) := by decide +kernel
theorem d7_token_124 : decode b7_token 124 = .ok (.getfield 107, 3) := by decide +kernel
theorem d7_token_127 : decode b7_token 127 = .ok (.putfield 124, 3) := by decide +kernel
theorem d7_token_130 : decode b7_token 130 = .ok (.return_, 1) := by decide +kernel
theorem d7_is_0 : decode b7_is 0 = .ok (.aload_n 0, 1) := by decide +kernel
theorem d7_is_1 : decode b7_is 1 = .ok (.getfield 120, 3) := by decide +kernel
theorem d7_is_4 : decode b7_is 4 = .ok (.ifCond .eq 23, 3) := by decide +kernel
theorem d7_is_7 : decode b7_is 7 = .ok (.aload_n 0, 1) := by decide +kernel
theorem d7_is_8 : decode b7_is 8 = .ok (.getfield 124, 3) := by decide +kernel
theorem d7_is_11 : decode b7_is 11 = .ok (.aload_n 0, 1) := by decide +kernel
theorem d7_is_12 : decode b7_is 12 = .ok (.getfield 113, 3) := by decide +kernel
theorem d7_is_15 : decode b7_is 15 = .ok (.isub, 1) := by decide +kernel
theorem d7_is_16 : decode b7_is 16 = .ok (.aload_n 1, 1) := by decide +kernel
theorem d7_is_17 : decode b7_is 17 = .ok (.invokevirtual 127, 3) := by decide +kernel
theorem d7_is_20 : decode b7_is 20 = .ok (.if_icmp .ne 7, 3) := by decide +kernel
theorem d7_is_23 : decode b7_is 23 = .ok (.iconst 1, 1) := by decide +kernel
theorem d7_is_24 : decode b7_is 24 = .ok (.goto 4, 3) := by decide +kernel
theorem d7_is_28 : decode b7_is 28 = .ok (.istore_n 2, 1) := by decide +kernel
theorem d7_is_29 : decode b7_is 29 = .ok (.iconst 0, 1) := by decide +kernel
theorem d7_is_30 : decode b7_is 30 = .ok (.istore_n 3, 1) := by decide +kernel
theorem d7_is_27 : decode b7_is 27 = .ok (.iconst 0, 1) := by decide +kernel
theorem d7_is_31 : decode b7_is 31 = .ok (.iload_n 3, 1) := by decide +kernel
theorem d7_is_32 : decode b7_is 32 = .ok (.aload_n 1, 1) := by decide +kernel
theorem d7_is_33 : decode b7_is 33 = .ok (.invokevirtual 127, 3) := by decide +kernel
theorem d7_is_36 : decode b7_is 36 = .ok (.if_icmp .ge 38, 3) := by decide +kernel
theorem d7_is_74 : decode b7_is 74 = .ok (.iload_n 2, 1) := by decide +kernel
theorem d7_is_75 : decode b7_is 75 = .ok (.ireturn, 1) := by decide +kernel
theorem d7_is_39 : decode b7_is 39 = .ok (.iload_n 2, 1) := by decide +kernel
theorem d7_is_40 : decode b7_is 40 = .ok (.ifCond .eq 34, 3) := by decide +kernel
theorem d7_is_43 : decode b7_is 43 = .ok (.aload_n 0, 1) := by decide +kernel
theorem d7_is_44 : decode b7_is 44 = .ok (.getfield 36, 3) := by decide +kernel
theorem d7_is_47 : decode b7_is 47 = .ok (.aload_n 0, 1) := by decide +kernel
theorem d7_is_48 : decode b7_is 48 = .ok (.getfield 113, 3) := by decide +kernel
theorem d7_is_51 : decode b7_is 51 = .ok (.iload_n 3, 1) := by decide +kernel
theorem d7_is_52 : decode b7_is 52 = .ok (.iadd, 1) := by decide +kernel
theorem d7_is_53 : decode b7_is 53 = .ok (.iaload, 1) := by decide +kernel
theorem d7_is_54 : decode b7_is 54 = .ok (.aload_n 1, 1) := by decide +kernel
theorem d7_is_55 : decode b7_is 55 = .ok (.iload_n 3, 1) := by decide +kernel
theorem d7_is_56 : decode b7_is 56 = .ok (.invokevirtual 132, 3) := by decide +kernel
theorem d7_is_59 : decode b7_is 59 = .ok (.if_icmp .ne 7, 3) := by decide +kernel
theorem d7_is_66 : decode b7_is 66 = .ok (.iconst 0, 1) := by decide +kernel
theorem d7_is_67 : decode b7_is 67 = .ok (.istore_n 2, 1) := by decide +kernel
theorem d7_is_68 : decode b7_is 68 = .ok (.iinc 3 1, 3) := by decide +kernel
theorem d7_is_71 : decode b7_is 71 = .ok (.goto (-40), 3) := by decide +kernel
theorem d7_is_62 : decode b7_is 62 = .ok (.iconst 1, 1) := by decide +kernel
theorem d7_is_63 : decode b7_is 63 = .ok (.goto 4, 3) := by decide +kernel
theorem d7_isSign_0 : decode b7_isSign 0 = .ok (.aload_n 0, 1) := by decide +kernel
theorem d7_isSign_1 : decode b7_isSign 1 = .ok (.getfield 120, 3) := by decide +kernel
theorem d7_isSign_4 : decode b7_isSign 4 = .ok (.ifCond .ne 19, 3) := by decide +kernel
theorem d7_isSign_23 : decode b7_isSign 23 = .ok (.iconst 0, 1) := by decide +kernel
theorem d7_isSign_24 : decode b7_isSign 24 = .ok (.ireturn, 1) := by decide +kernel
theorem d7_isSign_7 : decode b7_isSign 7 = .ok (.aload_n 0, 1) := by decide +kernel
theorem d7_isSign_8 : decode b7_isSign 8 = .ok (.aload_n 0, 1) := by decide +kernel
theorem d7_isSign_9 : decode b7_isSign 9 = .ok (.getfield 113, 3) := by decide +kernel
theorem d7_isSign_12 : decode b7_isSign 12 = .ok (.invokevirtual 110, 3) := by decide +kernel
theorem d7_isSign_15 : decode b7_isSign 15 = .ok (.iload_n 1, 1) := by decide +kernel
theorem d7_isSign_16 : decode b7_isSign 16 = .ok (.if_icmp .ne 7, 3) := by decide +kernel
theorem d7_isSign_19 : decode b7_isSign 19 = .ok (.iconst 1, 1) := by decide +kernel
theorem d7_isSign_20 : decode b7_isSign 20 = .ok (.goto 4, 3) := by decide +kernel
theorem d7_isName_0 : decode b7_isName 0 = .ok (.aload_n 1, 1) := by decide +kernel
theorem d7_isName_1 : decode b7_isName 1 = .ok (.getfield 136, 3) := by decide +kernel
theorem d7_isName_4 : decode b7_isName 4 = .ok (.iload_n 2, 1) := by decide +kernel
theorem d7_isName_5 : decode b7_isName 5 = .ok (.iaload, 1) := by decide +kernel
theorem d7_isName_6 : decode b7_isName 6 = .ok (.iload 4, 2) := by decide +kernel
theorem d7_isName_8 : decode b7_isName 8 = .ok (.if_icmp .ne 7, 3) := by decide +kernel
theorem d7_isName_15 : decode b7_isName 15 = .ok (.iconst 0, 1) := by decide +kernel
theorem d7_isName_16 : decode b7_isName 16 = .ok (.istore 5, 2) := by decide +kernel
theorem d7_isName_18 : decode b7_isName 18 = .ok (.iconst 0, 1) := by decide +kernel
theorem d7_isName_19 : decode b7_isName 19 = .ok (.istore 6, 2) := by decide +kernel
theorem d7_isName_11 : decode b7_isName 11 = .ok (.iconst 1, 1) := by decide +kernel
theorem d7_isName_12 : decode b7_isName 12 = .ok (.goto 4, 3) := by decide +kernel
theorem d7_isName_21 : decode b7_isName 21 = .ok (.iload 6, 2) := by decide +kernel
theorem d7_isName_23 : decode b7_isName 23 = .ok (.iload 4, 2) := by decide +kernel
theorem d7_isName_25 : decode b7_isName 25 = .ok (.if_icmp .ge 45, 3) := by decide +kernel
theorem d7_isName_70 : decode b7_isName 70 = .ok (.iload 5, 2) := by decide +kernel
theorem d7_isName_72 : decode b7_isName 72 = .ok (.ireturn, 1) := by decide +kernel
theorem d7_isName_28 : decode b7_isName 28 = .ok (.iload 5, 2) := by decide +kernel
theorem d7_isName_30 : decode b7_isName 30 = .ok (.ifCond .eq 40, 3) := by decide +kernel
theorem d7_isName_33 : decode b7_isName 33 = .ok (.aload_n 1, 1) := by decide +kernel
theorem d7_isName_34 : decode b7_isName 34 = .ok (.getfield 139, 3) := by decide +kernel
theorem d7_isName_37 : decode b7_isName 37 = .ok (.bipush 8, 2) := by decide +kernel
theorem d7_isName_39 : decode b7_isName 39 = .ok (.iload_n 2, 1) := by decide +kernel
theorem d7_isName_40 : decode b7_isName 40 = .ok (.imul, 1) := by decide +kernel
theorem d7_isName_41 : decode b7_isName 41 = .ok (.iload 6, 2) := by decide +kernel
theorem d7_isName_43 : decode b7_isName 43 = .ok (.iadd, 1) := by decide +kernel
theorem d7_isName_44 : decode b7_isName 44 = .ok (.iaload, 1) := by decide +kernel
theorem d7_isName_45 : decode b7_isName 45 = .ok (.aload_n 0, 1) := by decide +kernel
theorem d7_isName_46 : decode b7_isName 46 = .ok (.getfield 36, 3) := by decide +kernel
theorem d7_isName_49 : decode b7_isName 49 = .ok (.iload_n 3, 1) := by decide +kernel
theorem d7_isName_50 : decode b7_isName 50 = .ok (.iload 6, 2) := by decide +kernel
theorem d7_isName_52 : decode b7_isName 52 = .ok (.iadd, 1) := by decide +kernel
theorem d7_isName_53 : decode b7_isName 53 = .ok (.iaload, 1) := by decide +kernel
theorem d7_isName_54 : decode b7_isName 54 = .ok (.if_icmp .ne 7, 3) := by decide +kernel
theorem d7_isName_61 : decode b7_isName 61 = .ok (.iconst 0, 1) := by decide +kernel
theorem d7_isName_62 : decode b7_isName 62 = .ok (.istore 5, 2) := by decide +kernel
theorem d7_isName_64 : decode b7_isName 64 = .ok (.iinc 6 1, 3) := by decide +kernel
theorem d7_isName_67 : decode b7_isName 67 = .ok (.goto (-46), 3) := by decide +kernel
theorem d7_isName_57 : decode b7_isName 57 = .ok (.iconst 1, 1) := by decide +kernel
theorem d7_isName_58 : decode b7_isName 58 = .ok (.goto 4, 3) := by decide +kernel
theorem d7_readName_0 : decode b7_readName 0 = .ok (.aload_n 0, 1) := by decide +kernel
theorem d7_readName_1 : decode b7_readName 1 = .ok (.invokevirtual 142, 3) := by decide +kernel
theorem d7_readName_4 : decode b7_readName 4 = .ok (.aload_n 0, 1) := by decide +kernel
theorem d7_readName_5 : decode b7_readName 5 = .ok (.getfield 124, 3) := by decide +kernel
theorem d7_readName_8 : decode b7_readName 8 = .ok (.aload_n 0, 1) := by decide +kernel
theorem d7_readName_9 : decode b7_readName 9 = .ok (.getfield 113, 3) := by decide +kernel
theorem d7_readName_12 : decode b7_readName 12 = .ok (.isub, 1) := by decide +kernel
theorem d7_readName_13 : decode b7_readName 13 = .ok (.istore_n 1, 1) := by decide +kernel
theorem d7_readName_14 : decode b7_readName 14 = .ok (.aload_n 0, 1) := by decide +kernel
theorem d7_readName_15 : decode b7_readName 15 = .ok (.getfield 120, 3) := by decide +kernel
theorem d7_readName_18 : decode b7_readName 18 = .ok (.ifCond .eq 9, 3) := by decide +kernel
theorem d7_readName_21 : decode b7_readName 21 = .ok (.iload_n 1, 1) := by decide +kernel
theorem d7_readName_22 : decode b7_readName 22 = .ok (.bipush 8, 2) := by decide +kernel
theorem d7_readName_24 : decode b7_readName 24 = .ok (.if_icmp .le 13, 3) := by decide +kernel
theorem d7_readName_37 : decode b7_readName 37 = .ok (.iconst 0, 1) := by decide +kernel
theorem d7_readName_38 : decode b7_readName 38 = .ok (.istore_n 2, 1) := by decide +kernel
theorem d7_readName_27 : decode b7_readName 27 = .ok (.aload_n 0, 1) := by decide +kernel
theorem d7_readName_28 : decode b7_readName 28 = .ok (.iconst 1, 1) := by decide +kernel
theorem d7_readName_29 : decode b7_readName 29 = .ok (.aload_n 0, 1) := by decide +kernel
theorem d7_readName_30 : decode b7_readName 30 = .ok (.getfield 113, 3) := by decide +kernel
theorem d7_readName_33 : decode b7_readName 33 = .ok (.invokevirtual 145, 3) := by decide +kernel
theorem d7_readName_36 : decode b7_readName 36 = .ok (.ireturn, 1) := by decide +kernel
theorem d7_readName_39 : decode b7_readName 39 = .ok (.iload_n 2, 1) := by decide +kernel
theorem d7_readName_40 : decode b7_readName 40 = .ok (.aload_n 0, 1) := by decide +kernel
theorem d7_readName_41 : decode b7_readName 41 = .ok (.getfield 43, 3) := by decide +kernel
theorem d7_readName_44 : decode b7_readName 44 = .ok (.getfield 82, 3) := by decide +kernel
theorem d7_readName_47 : decode b7_readName 47 = .ok (.if_icmp .ge 36, 3) := by decide +kernel
theorem d7_readName_83 : decode b7_readName 83 = .ok (.aload_n 0, 1) := by decide +kernel
theorem d7_readName_84 : decode b7_readName 84 = .ok (.getfield 43, 3) := by decide +kernel
theorem d7_readName_87 : decode b7_readName 87 = .ok (.getfield 136, 3) := by decide +kernel
theorem d7_readName_90 : decode b7_readName 90 = .ok (.aload_n 0, 1) := by decide +kernel
theorem d7_readName_91 : decode b7_readName 91 = .ok (.getfield 43, 3) := by decide +kernel
theorem d7_readName_94 : decode b7_readName 94 = .ok (.getfield 82, 3) := by decide +kernel
theorem d7_readName_97 : decode b7_readName 97 = .ok (.iload_n 1, 1) := by decide +kernel
theorem d7_readName_98 : decode b7_readName 98 = .ok (.iastore, 1) := by decide +kernel
theorem d7_readName_99 : decode b7_readName 99 = .ok (.iconst 0, 1) := by decide +kernel
theorem d7_readName_100 : decode b7_readName 100 = .ok (.istore_n 2, 1) := by decide +kernel
theorem d7_readName_50 : decode b7_readName 50 = .ok (.aload_n 0, 1) := by decide +kernel
theorem d7_readName_51 : decode b7_readName 51 = .ok (.aload_n 0, 1) := by decide +kernel
theorem d7_readName_52 : decode b7_readName 52 = .ok (.getfield 43, 3) := by decide +kernel
theorem d7_readName_55 : decode b7_readName 55 = .ok (.iload_n 2, 1) := by decide +kernel
theorem d7_readName_56 : decode b7_readName 56 = .ok (.aload_n 0, 1) := by decide +kernel
theorem d7_readName_57 : decode b7_readName 57 = .ok (.getfield 113, 3) := by decide +kernel
theorem d7_readName_60 : decode b7_readName 60 = .ok (.iload_n 1, 1) := by decide +kernel
theorem d7_readName_61 : decode b7_readName 61 = .ok (.invokevirtual 149, 3) := by decide +kernel
theorem d7_readName_64 : decode b7_readName 64 = .ok (.ifCond .eq 13, 3) := by decide +kernel
theorem d7_readName_77 : decode b7_readName 77 = .ok (.iinc 2 1, 3) := by decide +kernel
theorem d7_readName_80 : decode b7_readName 80 = .ok (.goto (-41), 3) := by decide +kernel
theorem d7_readName_67 : decode b7_readName 67 = .ok (.aload_n 0, 1) := by decide +kernel
theorem d7_readName_68 : decode b7_readName 68 = .ok (.iconst 3, 1) := by decide +kernel
theorem d7_readName_69 : decode b7_readName 69 = .ok (.aload_n 0, 1) := by decide +kernel
theorem d7_readName_70 : decode b7_readName 70 = .ok (.getfield 113, 3) := by decide +kernel
theorem d7_readName_73 : decode b7_readName 73 = .ok (.invokevirtual 145, 3) := by decide +kernel
theorem d7_readName_76 : decode b7_readName 76 = .ok (.ireturn, 1) := by decide +kernel
theorem d7_readName_101 : decode b7_readName 101 = .ok (.iload_n 2, 1) := by decide +kernel
theorem d7_readName_102 : decode b7_readName 102 = .ok (.iload_n 1, 1) := by decide +kernel
theorem d7_readName_103 : decode b7_readName 103 = .ok (.if_icmp .ge 40, 3) := by decide +kernel
theorem d7_readName_143 : decode b7_readName 143 = .ok (.iconst 1, 1) := by decide +kernel
theorem d7_readName_144 : decode b7_readName 144 = .ok (.ireturn, 1) := by decide +kernel
theorem d7_readName_106 : decode b7_readName 106 = .ok (.aload_n 0, 1) := by decide +kernel
theorem d7_readName_107 : decode b7_readName 107 = .ok (.getfield 43, 3) := by decide +kernel
theorem d7_readName_110 : decode b7_readName 110 = .ok (.getfield 139, 3) := by decide +kernel
theorem d7_readName_113 : decode b7_readName 113 = .ok (.bipush 8, 2) := by decide +kernel
theorem d7_readName_115 : decode b7_readName 115 = .ok (.aload_n 0, 1) := by decide +kernel
theorem d7_readName_116 : decode b7_readName 116 = .ok (.getfield 43, 3) := by decide +kernel
theorem d7_readName_119 : decode b7_readName 119 = .ok (.getfield 82, 3) := by decide +kernel
theorem d7_readName_122 : decode b7_readName 122 = .ok (.imul, 1) := by decide +kernel
theorem d7_readName_123 : decode b7_readName 123 = .ok (.iload_n 2, 1) := by decide +kernel
theorem d7_readName_124 : decode b7_readName 124 = .ok (.iadd, 1) := by decide +kernel
theorem d7_readName_125 : decode b7_readName 125 = .ok (.aload_n 0, 1) := by decide +kernel
theorem d7_readName_126 : decode b7_readName 126 = .ok (.getfield 36, 3) := by decide +kernel
theorem d7_readName_129 : decode b7_readName 129 = .ok (.aload_n 0, 1) := by decide +kernel
theorem d7_readName_130 : decode b7_readName 130 = .ok (.getfield 113, 3) := by decide +kernel
theorem d7_readName_133 : decode b7_readName 133 = .ok (.iload_n 2, 1) := by decide +kernel
theorem d7_readName_134 : decode b7_readName 134 = .ok (.iadd, 1) := by decide +kernel
theorem d7_readName_135 : decode b7_readName 135 = .ok (.iaload, 1) := by decide +kernel
theorem d7_readName_136 : decode b7_readName 136 = .ok (.iastore, 1) := by decide +kernel
theorem d7_readName_137 : decode b7_readName 137 = .ok (.iinc 2 1, 3) := by decide +kernel
theorem d7_readName_140 : decode b7_readName 140 = .ok (.goto (-39), 3) := by decide +kernel
theorem d7_item_0 : decode b7_item 0 = .ok (.aload_n 0, 1) := by decide +kernel
theorem d7_item_1 : decode b7_item 1 = .ok (.getfield 43, 3) := by decide +kernel
theorem d7_item_4 : decode b7_item 4 = .ok (.getfield 153, 3) := by decide +kernel
theorem d7_item_7 : decode b7_item 7 = .ok (.aload_n 0, 1) := by decide +kernel
theorem d7_item_8 : decode b7_item 8 = .ok (.getfield 156, 3) := by decide +kernel
theorem d7_item_11 : decode b7_item 11 = .ok (.iload_n 1, 1) := by decide +kernel
theorem d7_item_12 : decode b7_item 12 = .ok (.iastore, 1) := by decide +kernel
theorem d7_item_13 : decode b7_item 13 = .ok (.aload_n 0, 1) := by decide +kernel
theorem d7_item_14 : decode b7_item 14 = .ok (.dup, 1) := by decide +kernel
theorem d7_item_15 : decode b7_item 15 = .ok (.getfield 156, 3) := by decide +kernel
theorem d7_item_18 : decode b7_item 18 = .ok (.iconst 1, 1) := by decide +kernel
theorem d7_item_19 : decode b7_item 19 = .ok (.iadd, 1) := by decide +kernel
theorem d7_item_20 : decode b7_item 20 = .ok (.putfield 156, 3) := by decide +kernel
theorem d7_item_23 : decode b7_item 23 = .ok (.return_, 1) := by decide +kernel
theorem d7_turnsBack_0 : decode b7_turnsBack 0 = .ok (.iconst 0, 1) := by decide +kernel
theorem d7_turnsBack_1 : decode b7_turnsBack 1 = .ok (.istore_n 2, 1) := by decide +kernel
theorem d7_turnsBack_2 : decode b7_turnsBack 2 = .ok (.bipush 10, 2) := by decide +kernel
theorem d7_turnsBack_4 : decode b7_turnsBack 4 = .ok (.aload_n 0, 1) := by decide +kernel
theorem d7_turnsBack_5 : decode b7_turnsBack 5 = .ok (.getfield 43, 3) := by decide +kernel
theorem d7_turnsBack_8 : decode b7_turnsBack 8 = .ok (.getfield 82, 3) := by decide +kernel
theorem d7_turnsBack_11 : decode b7_turnsBack 11 = .ok (.imul, 1) := by decide +kernel
theorem d7_turnsBack_12 : decode b7_turnsBack 12 = .ok (.istore_n 3, 1) := by decide +kernel
theorem d7_turnsBack_13 : decode b7_turnsBack 13 = .ok (.iconst 0, 1) := by decide +kernel
theorem d7_turnsBack_14 : decode b7_turnsBack 14 = .ok (.istore 4, 2) := by decide +kernel
theorem d7_turnsBack_16 : decode b7_turnsBack 16 = .ok (.iload 4, 2) := by decide +kernel
theorem d7_turnsBack_18 : decode b7_turnsBack 18 = .ok (.aload_n 0, 1) := by decide +kernel
theorem d7_turnsBack_19 : decode b7_turnsBack 19 = .ok (.getfield 159, 3) := by decide +kernel
theorem d7_turnsBack_22 : decode b7_turnsBack 22 = .ok (.if_icmp .ge 72, 3) := by decide +kernel
theorem d7_turnsBack_94 : decode b7_turnsBack 94 = .ok (.iload_n 2, 1) := by decide +kernel
theorem d7_turnsBack_95 : decode b7_turnsBack 95 = .ok (.ireturn, 1) := by decide +kernel
theorem d7_turnsBack_25 : decode b7_turnsBack 25 = .ok (.aload_n 0, 1) := by decide +kernel
theorem d7_turnsBack_26 : decode b7_turnsBack 26 = .ok (.getfield 43, 3) := by decide +kernel
theorem d7_turnsBack_29 : decode b7_turnsBack 29 = .ok (.getfield 162, 3) := by decide +kernel
theorem d7_turnsBack_32 : decode b7_turnsBack 32 = .ok (.bipush 60, 2) := by decide +kernel
theorem d7_turnsBack_34 : decode b7_turnsBack 34 = .ok (.aload_n 0, 1) := by decide +kernel
theorem d7_turnsBack_35 : decode b7_turnsBack 35 = .ok (.getfield 43, 3) := by decide +kernel
theorem d7_turnsBack_38 : decode b7_turnsBack 38 = .ok (.getfield 82, 3) := by decide +kernel
theorem d7_turnsBack_41 : decode b7_turnsBack 41 = .ok (.imul, 1) := by decide +kernel
theorem d7_turnsBack_42 : decode b7_turnsBack 42 = .ok (.aload_n 0, 1) := by decide +kernel
theorem d7_turnsBack_43 : decode b7_turnsBack 43 = .ok (.getfield 46, 3) := by decide +kernel
theorem d7_turnsBack_46 : decode b7_turnsBack 46 = .ok (.iload 4, 2) := by decide +kernel
theorem d7_turnsBack_48 : decode b7_turnsBack 48 = .ok (.iaload, 1) := by decide +kernel
theorem d7_turnsBack_49 : decode b7_turnsBack 49 = .ok (.iadd, 1) := by decide +kernel
theorem d7_turnsBack_50 : decode b7_turnsBack 50 = .ok (.iaload, 1) := by decide +kernel
theorem d7_turnsBack_51 : decode b7_turnsBack 51 = .ok (.istore 5, 2) := by decide +kernel
theorem d7_turnsBack_53 : decode b7_turnsBack 53 = .ok (.iload_n 2, 1) := by decide +kernel
theorem d7_turnsBack_54 : decode b7_turnsBack 54 = .ok (.ifCond .ne 28, 3) := by decide +kernel
theorem d7_turnsBack_82 : decode b7_turnsBack 82 = .ok (.iconst 1, 1) := by decide +kernel
theorem d7_turnsBack_83 : decode b7_turnsBack 83 = .ok (.goto 4, 3) := by decide +kernel
theorem d7_turnsBack_87 : decode b7_turnsBack 87 = .ok (.istore_n 2, 1) := by decide +kernel
theorem d7_turnsBack_88 : decode b7_turnsBack 88 = .ok (.iinc 4 1, 3) := by decide +kernel
theorem d7_turnsBack_91 : decode b7_turnsBack 91 = .ok (.goto (-75), 3) := by decide +kernel
theorem d7_turnsBack_57 : decode b7_turnsBack 57 = .ok (.iload 5, 2) := by decide +kernel
theorem d7_turnsBack_59 : decode b7_turnsBack 59 = .ok (.iload_n 1, 1) := by decide +kernel
theorem d7_turnsBack_60 : decode b7_turnsBack 60 = .ok (.if_icmp .eq 22, 3) := by decide +kernel
theorem d7_turnsBack_63 : decode b7_turnsBack 63 = .ok (.aload_n 0, 1) := by decide +kernel
theorem d7_turnsBack_64 : decode b7_turnsBack 64 = .ok (.getfield 43, 3) := by decide +kernel
theorem d7_turnsBack_67 : decode b7_turnsBack 67 = .ok (.getfield 165, 3) := by decide +kernel
theorem d7_turnsBack_70 : decode b7_turnsBack 70 = .ok (.iload_n 3, 1) := by decide +kernel
theorem d7_turnsBack_71 : decode b7_turnsBack 71 = .ok (.iload_n 1, 1) := by decide +kernel
theorem d7_turnsBack_72 : decode b7_turnsBack 72 = .ok (.iadd, 1) := by decide +kernel
theorem d7_turnsBack_73 : decode b7_turnsBack 73 = .ok (.iaload, 1) := by decide +kernel
theorem d7_turnsBack_74 : decode b7_turnsBack 74 = .ok (.iload 5, 2) := by decide +kernel
theorem d7_turnsBack_76 : decode b7_turnsBack 76 = .ok (.invokestatic 168, 3) := by decide +kernel
theorem d7_turnsBack_79 : decode b7_turnsBack 79 = .ok (.ifCond .eq 7, 3) := by decide +kernel
theorem d7_turnsBack_86 : decode b7_turnsBack 86 = .ok (.iconst 0, 1) := by decide +kernel
theorem d7_dependsOn_0 : decode b7_dependsOn 0 = .ok (.bipush 10, 2) := by decide +kernel
theorem d7_dependsOn_2 : decode b7_dependsOn 2 = .ok (.aload_n 0, 1) := by decide +kernel
theorem d7_dependsOn_3 : decode b7_dependsOn 3 = .ok (.getfield 43, 3) := by decide +kernel
theorem d7_dependsOn_6 : decode b7_dependsOn 6 = .ok (.getfield 82, 3) := by decide +kernel
theorem d7_dependsOn_9 : decode b7_dependsOn 9 = .ok (.imul, 1) := by decide +kernel
theorem d7_dependsOn_10 : decode b7_dependsOn 10 = .ok (.istore_n 2, 1) := by decide +kernel
theorem d7_dependsOn_11 : decode b7_dependsOn 11 = .ok (.iconst 0, 1) := by decide +kernel
theorem d7_dependsOn_12 : decode b7_dependsOn 12 = .ok (.istore_n 3, 1) := by decide +kernel
theorem d7_dependsOn_13 : decode b7_dependsOn 13 = .ok (.iload_n 3, 1) := by decide +kernel
theorem d7_dependsOn_14 : decode b7_dependsOn 14 = .ok (.aload_n 0, 1) := by decide +kernel
theorem d7_dependsOn_15 : decode b7_dependsOn 15 = .ok (.getfield 159, 3) := by decide +kernel
theorem d7_dependsOn_18 : decode b7_dependsOn 18 = .ok (.if_icmp .ge 117, 3) := by decide +kernel
theorem d7_dependsOn_135 : decode b7_dependsOn 135 = .ok (.return_, 1) := by decide +kernel
theorem d7_dependsOn_21 : decode b7_dependsOn 21 = .ok (.aload_n 0, 1) := by decide +kernel
theorem d7_dependsOn_22 : decode b7_dependsOn 22 = .ok (.getfield 43, 3) := by decide +kernel
theorem d7_dependsOn_25 : decode b7_dependsOn 25 = .ok (.getfield 162, 3) := by decide +kernel
theorem d7_dependsOn_28 : decode b7_dependsOn 28 = .ok (.bipush 60, 2) := by decide +kernel
theorem d7_dependsOn_30 : decode b7_dependsOn 30 = .ok (.aload_n 0, 1) := by decide +kernel
theorem d7_dependsOn_31 : decode b7_dependsOn 31 = .ok (.getfield 43, 3) := by decide +kernel
theorem d7_dependsOn_34 : decode b7_dependsOn 34 = .ok (.getfield 82, 3) := by decide +kernel
theorem d7_dependsOn_37 : decode b7_dependsOn 37 = .ok (.imul, 1) := by decide +kernel
theorem d7_dependsOn_38 : decode b7_dependsOn 38 = .ok (.aload_n 0, 1) := by decide +kernel
theorem d7_dependsOn_39 : decode b7_dependsOn 39 = .ok (.getfield 46, 3) := by decide +kernel
theorem d7_dependsOn_42 : decode b7_dependsOn 42 = .ok (.iload_n 3, 1) := by decide +kernel
theorem d7_dependsOn_43 : decode b7_dependsOn 43 = .ok (.iaload, 1) := by decide +kernel
theorem d7_dependsOn_44 : decode b7_dependsOn 44 = .ok (.iadd, 1) := by decide +kernel
theorem d7_dependsOn_45 : decode b7_dependsOn 45 = .ok (.iaload, 1) := by decide +kernel
theorem d7_dependsOn_46 : decode b7_dependsOn 46 = .ok (.istore 4, 2) := by decide +kernel
theorem d7_dependsOn_48 : decode b7_dependsOn 48 = .ok (.iconst 1, 1) := by decide +kernel
theorem d7_dependsOn_49 : decode b7_dependsOn 49 = .ok (.iload_n 1, 1) := by decide +kernel
theorem d7_dependsOn_50 : decode b7_dependsOn 50 = .ok (.ishl, 1) := by decide +kernel
theorem d7_dependsOn_51 : decode b7_dependsOn 51 = .ok (.aload_n 0, 1) := by decide +kernel
theorem d7_dependsOn_52 : decode b7_dependsOn 52 = .ok (.getfield 43, 3) := by decide +kernel
theorem d7_dependsOn_55 : decode b7_dependsOn 55 = .ok (.getfield 165, 3) := by decide +kernel
theorem d7_dependsOn_58 : decode b7_dependsOn 58 = .ok (.iload_n 2, 1) := by decide +kernel
theorem d7_dependsOn_59 : decode b7_dependsOn 59 = .ok (.iload_n 1, 1) := by decide +kernel
theorem d7_dependsOn_60 : decode b7_dependsOn 60 = .ok (.iadd, 1) := by decide +kernel
theorem d7_dependsOn_61 : decode b7_dependsOn 61 = .ok (.iaload, 1) := by decide +kernel
theorem d7_dependsOn_62 : decode b7_dependsOn 62 = .ok (.ior, 1) := by decide +kernel
theorem d7_dependsOn_63 : decode b7_dependsOn 63 = .ok (.istore 5, 2) := by decide +kernel
theorem d7_dependsOn_65 : decode b7_dependsOn 65 = .ok (.iconst 0, 1) := by decide +kernel
theorem d7_dependsOn_66 : decode b7_dependsOn 66 = .ok (.istore 6, 2) := by decide +kernel
theorem d7_dependsOn_68 : decode b7_dependsOn 68 = .ok (.iload 6, 2) := by decide +kernel
theorem d7_dependsOn_70 : decode b7_dependsOn 70 = .ok (.bipush 10, 2) := by decide +kernel
theorem d7_dependsOn_72 : decode b7_dependsOn 72 = .ok (.if_icmp .ge 57, 3) := by decide +kernel
theorem d7_dependsOn_129 : decode b7_dependsOn 129 = .ok (.iinc 3 1, 3) := by decide +kernel
theorem d7_dependsOn_132 : decode b7_dependsOn 132 = .ok (.goto (-119), 3) := by decide +kernel
theorem d7_dependsOn_75 : decode b7_dependsOn 75 = .ok (.aload_n 0, 1) := by decide +kernel
theorem d7_dependsOn_76 : decode b7_dependsOn 76 = .ok (.getfield 43, 3) := by decide +kernel
theorem d7_dependsOn_79 : decode b7_dependsOn 79 = .ok (.getfield 165, 3) := by decide +kernel
theorem d7_dependsOn_82 : decode b7_dependsOn 82 = .ok (.iload_n 2, 1) := by decide +kernel
theorem d7_dependsOn_83 : decode b7_dependsOn 83 = .ok (.iload 6, 2) := by decide +kernel
theorem d7_dependsOn_85 : decode b7_dependsOn 85 = .ok (.iadd, 1) := by decide +kernel
theorem d7_dependsOn_86 : decode b7_dependsOn 86 = .ok (.dup2, 1) := by decide +kernel
theorem d7_dependsOn_87 : decode b7_dependsOn 87 = .ok (.iaload, 1) := by decide +kernel
theorem d7_dependsOn_88 : decode b7_dependsOn 88 = .ok (.iload 6, 2) := by decide +kernel
theorem d7_dependsOn_90 : decode b7_dependsOn 90 = .ok (.iload 4, 2) := by decide +kernel
theorem d7_dependsOn_92 : decode b7_dependsOn 92 = .ok (.if_icmp .eq 23, 3) := by decide +kernel
theorem d7_dependsOn_115 : decode b7_dependsOn 115 = .ok (.iload 5, 2) := by decide +kernel
theorem d7_dependsOn_117 : decode b7_dependsOn 117 = .ok (.goto 4, 3) := by decide +kernel
theorem d7_dependsOn_95 : decode b7_dependsOn 95 = .ok (.aload_n 0, 1) := by decide +kernel
theorem d7_dependsOn_96 : decode b7_dependsOn 96 = .ok (.getfield 43, 3) := by decide +kernel
theorem d7_dependsOn_99 : decode b7_dependsOn 99 = .ok (.getfield 165, 3) := by decide +kernel
theorem d7_dependsOn_102 : decode b7_dependsOn 102 = .ok (.iload_n 2, 1) := by decide +kernel
theorem d7_dependsOn_103 : decode b7_dependsOn 103 = .ok (.iload 6, 2) := by decide +kernel
theorem d7_dependsOn_105 : decode b7_dependsOn 105 = .ok (.iadd, 1) := by decide +kernel
theorem d7_dependsOn_106 : decode b7_dependsOn 106 = .ok (.iaload, 1) := by decide +kernel
theorem d7_dependsOn_107 : decode b7_dependsOn 107 = .ok (.iload 4, 2) := by decide +kernel
theorem d7_dependsOn_109 : decode b7_dependsOn 109 = .ok (.invokestatic 168, 3) := by decide +kernel
theorem d7_dependsOn_112 : decode b7_dependsOn 112 = .ok (.ifCond .eq 8, 3) := by decide +kernel
theorem d7_dependsOn_120 : decode b7_dependsOn 120 = .ok (.iconst 0, 1) := by decide +kernel
theorem d7_dependsOn_121 : decode b7_dependsOn 121 = .ok (.ior, 1) := by decide +kernel
theorem d7_dependsOn_122 : decode b7_dependsOn 122 = .ok (.iastore, 1) := by decide +kernel
theorem d7_dependsOn_123 : decode b7_dependsOn 123 = .ok (.iinc 6 1, 3) := by decide +kernel
theorem d7_dependsOn_126 : decode b7_dependsOn 126 = .ok (.goto (-58), 3) := by decide +kernel
theorem d7_changeOf_0 : decode b7_changeOf 0 = .ok (.iload_n 0, 1) := by decide +kernel
theorem d7_changeOf_1 : decode b7_changeOf 1 = .ok (.bipush 117, 2) := by decide +kernel
theorem d7_changeOf_3 : decode b7_changeOf 3 = .ok (.if_icmp .ne 7, 3) := by decide +kernel
theorem d7_changeOf_10 : decode b7_changeOf 10 = .ok (.iload_n 0, 1) := by decide +kernel
theorem d7_changeOf_11 : decode b7_changeOf 11 = .ok (.bipush 108, 2) := by decide +kernel
theorem d7_changeOf_13 : decode b7_changeOf 13 = .ok (.if_icmp .ne 7, 3) := by decide +kernel
theorem d7_changeOf_20 : decode b7_changeOf 20 = .ok (.iload_n 0, 1) := by decide +kernel
theorem d7_changeOf_21 : decode b7_changeOf 21 = .ok (.bipush 114, 2) := by decide +kernel
theorem d7_changeOf_23 : decode b7_changeOf 23 = .ok (.if_icmp .ne 7, 3) := by decide +kernel
theorem d7_changeOf_30 : decode b7_changeOf 30 = .ok (.iload_n 0, 1) := by decide +kernel
theorem d7_changeOf_31 : decode b7_changeOf 31 = .ok (.bipush 102, 2) := by decide +kernel
theorem d7_changeOf_33 : decode b7_changeOf 33 = .ok (.if_icmp .ne 7, 3) := by decide +kernel
theorem d7_changeOf_40 : decode b7_changeOf 40 = .ok (.iload_n 0, 1) := by decide +kernel
theorem d7_changeOf_41 : decode b7_changeOf 41 = .ok (.bipush 110, 2) := by decide +kernel
theorem d7_changeOf_43 : decode b7_changeOf 43 = .ok (.if_icmp .ne 7, 3) := by decide +kernel
theorem d7_changeOf_50 : decode b7_changeOf 50 = .ok (.iconst 0, 1) := by decide +kernel
theorem d7_changeOf_51 : decode b7_changeOf 51 = .ok (.ireturn, 1) := by decide +kernel
theorem d7_changeOf_46 : decode b7_changeOf 46 = .ok (.iconst 5, 1) := by decide +kernel
theorem d7_changeOf_47 : decode b7_changeOf 47 = .ok (.goto 4, 3) := by decide +kernel
theorem d7_changeOf_36 : decode b7_changeOf 36 = .ok (.iconst 4, 1) := by decide +kernel
theorem d7_changeOf_37 : decode b7_changeOf 37 = .ok (.goto 14, 3) := by decide +kernel
theorem d7_changeOf_26 : decode b7_changeOf 26 = .ok (.iconst 3, 1) := by decide +kernel
theorem d7_changeOf_27 : decode b7_changeOf 27 = .ok (.goto 24, 3) := by decide +kernel
theorem d7_changeOf_16 : decode b7_changeOf 16 = .ok (.iconst 2, 1) := by decide +kernel
theorem d7_changeOf_17 : decode b7_changeOf 17 = .ok (.goto 34, 3) := by decide +kernel
theorem d7_changeOf_6 : decode b7_changeOf 6 = .ok (.iconst 1, 1) := by decide +kernel
theorem d7_changeOf_7 : decode b7_changeOf 7 = .ok (.goto 44, 3) := by decide +kernel
theorem d7_readRest_0 : decode b7_readRest 0 = .ok (.aload_n 0, 1) := by decide +kernel
theorem d7_readRest_1 : decode b7_readRest 1 = .ok (.aload_n 0, 1) := by decide +kernel
theorem d7_readRest_2 : decode b7_readRest 2 = .ok (.getfield 107, 3) := by decide +kernel
theorem d7_readRest_5 : decode b7_readRest 5 = .ok (.invokevirtual 110, 3) := by decide +kernel
theorem d7_readRest_8 : decode b7_readRest 8 = .ok (.istore 4, 2) := by decide +kernel
theorem d7_readRest_10 : decode b7_readRest 10 = .ok (.iload 4, 2) := by decide +kernel
theorem d7_readRest_12 : decode b7_readRest 12 = .ok (.bipush 58, 2) := by decide +kernel
theorem d7_readRest_14 : decode b7_readRest 14 = .ok (.if_icmp .ne 60, 3) := by decide +kernel
theorem d7_readRest_74 : decode b7_readRest 74 = .ok (.iload 4, 2) := by decide +kernel
theorem d7_readRest_76 : decode b7_readRest 76 = .ok (.bipush 47, 2) := by decide +kernel
theorem d7_readRest_78 : decode b7_readRest 78 = .ok (.if_icmp .ne 75, 3) := by decide +kernel
theorem d7_readRest_81 : decode b7_readRest 81 = .ok (.aload_n 0, 1) := by decide +kernel
theorem d7_readRest_82 : decode b7_readRest 82 = .ok (.dup, 1) := by decide +kernel
theorem d7_readRest_83 : decode b7_readRest 83 = .ok (.getfield 107, 3) := by decide +kernel
theorem d7_readRest_86 : decode b7_readRest 86 = .ok (.iconst 1, 1) := by decide +kernel
theorem d7_readRest_87 : decode b7_readRest 87 = .ok (.iadd, 1) := by decide +kernel
theorem d7_readRest_88 : decode b7_readRest 88 = .ok (.putfield 107, 3) := by decide +kernel
theorem d7_readRest_91 : decode b7_readRest 91 = .ok (.aload_n 0, 1) := by decide +kernel
theorem d7_readRest_92 : decode b7_readRest 92 = .ok (.getfield 43, 3) := by decide +kernel
theorem d7_readRest_95 : decode b7_readRest 95 = .ok (.getfield 177, 3) := by decide +kernel
theorem d7_readRest_98 : decode b7_readRest 98 = .ok (.iload_n 2, 1) := by decide +kernel
theorem d7_readRest_99 : decode b7_readRest 99 = .ok (.aload_n 0, 1) := by decide +kernel
theorem d7_readRest_100 : decode b7_readRest 100 = .ok (.aload_n 0, 1) := by decide +kernel
theorem d7_readRest_101 : decode b7_readRest 101 = .ok (.getfield 107, 3) := by decide +kernel
theorem d7_readRest_104 : decode b7_readRest 104 = .ok (.invokevirtual 110, 3) := by decide +kernel
theorem d7_readRest_107 : decode b7_readRest 107 = .ok (.invokestatic 204, 3) := by decide +kernel
theorem d7_readRest_110 : decode b7_readRest 110 = .ok (.iastore, 1) := by decide +kernel
theorem d7_readRest_111 : decode b7_readRest 111 = .ok (.aload_n 0, 1) := by decide +kernel
theorem d7_readRest_112 : decode b7_readRest 112 = .ok (.getfield 43, 3) := by decide +kernel
theorem d7_readRest_115 : decode b7_readRest 115 = .ok (.getfield 177, 3) := by decide +kernel
theorem d7_readRest_118 : decode b7_readRest 118 = .ok (.iload_n 2, 1) := by decide +kernel
theorem d7_readRest_119 : decode b7_readRest 119 = .ok (.iaload, 1) := by decide +kernel
theorem d7_readRest_120 : decode b7_readRest 120 = .ok (.ifCond .ne 13, 3) := by decide +kernel
theorem d7_readRest_133 : decode b7_readRest 133 = .ok (.aload_n 0, 1) := by decide +kernel
theorem d7_readRest_134 : decode b7_readRest 134 = .ok (.dup, 1) := by decide +kernel
theorem d7_readRest_135 : decode b7_readRest 135 = .ok (.getfield 107, 3) := by decide +kernel
theorem d7_readRest_138 : decode b7_readRest 138 = .ok (.iconst 1, 1) := by decide +kernel
theorem d7_readRest_139 : decode b7_readRest 139 = .ok (.iadd, 1) := by decide +kernel
theorem d7_readRest_140 : decode b7_readRest 140 = .ok (.putfield 107, 3) := by decide +kernel
theorem d7_readRest_143 : decode b7_readRest 143 = .ok (.aload_n 0, 1) := by decide +kernel
theorem d7_readRest_144 : decode b7_readRest 144 = .ok (.aload_n 0, 1) := by decide +kernel
theorem d7_readRest_145 : decode b7_readRest 145 = .ok (.getfield 107, 3) := by decide +kernel
theorem d7_readRest_148 : decode b7_readRest 148 = .ok (.invokevirtual 110, 3) := by decide +kernel
theorem d7_readRest_151 : decode b7_readRest 151 = .ok (.istore 4, 2) := by decide +kernel
theorem d7_readRest_123 : decode b7_readRest 123 = .ok (.aload_n 0, 1) := by decide +kernel
theorem d7_readRest_124 : decode b7_readRest 124 = .ok (.iconst 1, 1) := by decide +kernel
theorem d7_readRest_125 : decode b7_readRest 125 = .ok (.aload_n 0, 1) := by decide +kernel
theorem d7_readRest_126 : decode b7_readRest 126 = .ok (.getfield 107, 3) := by decide +kernel
theorem d7_readRest_129 : decode b7_readRest 129 = .ok (.invokevirtual 145, 3) := by decide +kernel
theorem d7_readRest_132 : decode b7_readRest 132 = .ok (.ireturn, 1) := by decide +kernel
theorem d7_readRest_17 : decode b7_readRest 17 = .ok (.aload_n 0, 1) := by decide +kernel
theorem d7_readRest_18 : decode b7_readRest 18 = .ok (.getfield 159, 3) := by decide +kernel
theorem d7_readRest_21 : decode b7_readRest 21 = .ok (.iconst 4, 1) := by decide +kernel
theorem d7_readRest_22 : decode b7_readRest 22 = .ok (.if_icmp .ne 10, 3) := by decide +kernel
theorem d7_readRest_32 : decode b7_readRest 32 = .ok (.aload_n 0, 1) := by decide +kernel
theorem d7_readRest_33 : decode b7_readRest 33 = .ok (.getfield 43, 3) := by decide +kernel
theorem d7_readRest_36 : decode b7_readRest 36 = .ok (.getfield 180, 3) := by decide +kernel
theorem d7_readRest_39 : decode b7_readRest 39 = .ok (.iload_n 2, 1) := by decide +kernel
theorem d7_readRest_40 : decode b7_readRest 40 = .ok (.iconst 1, 1) := by decide +kernel
theorem d7_readRest_41 : decode b7_readRest 41 = .ok (.bastore, 1) := by decide +kernel
theorem d7_readRest_42 : decode b7_readRest 42 = .ok (.aload_n 0, 1) := by decide +kernel
theorem d7_readRest_43 : decode b7_readRest 43 = .ok (.getfield 46, 3) := by decide +kernel
theorem d7_readRest_46 : decode b7_readRest 46 = .ok (.aload_n 0, 1) := by decide +kernel
theorem d7_readRest_47 : decode b7_readRest 47 = .ok (.getfield 159, 3) := by decide +kernel
theorem d7_readRest_50 : decode b7_readRest 50 = .ok (.iload_n 3, 1) := by decide +kernel
theorem d7_readRest_51 : decode b7_readRest 51 = .ok (.iastore, 1) := by decide +kernel
theorem d7_readRest_52 : decode b7_readRest 52 = .ok (.aload_n 0, 1) := by decide +kernel
theorem d7_readRest_53 : decode b7_readRest 53 = .ok (.dup, 1) := by decide +kernel
theorem d7_readRest_54 : decode b7_readRest 54 = .ok (.getfield 159, 3) := by decide +kernel
theorem d7_readRest_57 : decode b7_readRest 57 = .ok (.iconst 1, 1) := by decide +kernel
theorem d7_readRest_58 : decode b7_readRest 58 = .ok (.iadd, 1) := by decide +kernel
theorem d7_readRest_59 : decode b7_readRest 59 = .ok (.putfield 159, 3) := by decide +kernel
theorem d7_readRest_62 : decode b7_readRest 62 = .ok (.aload_n 0, 1) := by decide +kernel
theorem d7_readRest_63 : decode b7_readRest 63 = .ok (.dup, 1) := by decide +kernel
theorem d7_readRest_64 : decode b7_readRest 64 = .ok (.getfield 107, 3) := by decide +kernel
theorem d7_readRest_67 : decode b7_readRest 67 = .ok (.iconst 1, 1) := by decide +kernel
theorem d7_readRest_68 : decode b7_readRest 68 = .ok (.iadd, 1) := by decide +kernel
theorem d7_readRest_69 : decode b7_readRest 69 = .ok (.putfield 107, 3) := by decide +kernel
theorem d7_readRest_72 : decode b7_readRest 72 = .ok (.iconst 1, 1) := by decide +kernel
theorem d7_readRest_73 : decode b7_readRest 73 = .ok (.ireturn, 1) := by decide +kernel
theorem d7_readRest_25 : decode b7_readRest 25 = .ok (.aload_n 0, 1) := by decide +kernel
theorem d7_readRest_26 : decode b7_readRest 26 = .ok (.iconst 2, 1) := by decide +kernel
theorem d7_readRest_27 : decode b7_readRest 27 = .ok (.iload_n 1, 1) := by decide +kernel
theorem d7_readRest_28 : decode b7_readRest 28 = .ok (.invokevirtual 145, 3) := by decide +kernel
theorem d7_readRest_31 : decode b7_readRest 31 = .ok (.ireturn, 1) := by decide +kernel
theorem d7_readRest_153 : decode b7_readRest 153 = .ok (.iload 4, 2) := by decide +kernel
theorem d7_readRest_155 : decode b7_readRest 155 = .ok (.bipush 125, 2) := by decide +kernel
theorem d7_readRest_157 : decode b7_readRest 157 = .ok (.if_icmp .eq 13, 3) := by decide +kernel
theorem d7_readRest_170 : decode b7_readRest 170 = .ok (.aload_n 0, 1) := by decide +kernel
theorem d7_readRest_171 : decode b7_readRest 171 = .ok (.dup, 1) := by decide +kernel
theorem d7_readRest_172 : decode b7_readRest 172 = .ok (.getfield 107, 3) := by decide +kernel
theorem d7_readRest_175 : decode b7_readRest 175 = .ok (.iconst 1, 1) := by decide +kernel
theorem d7_readRest_176 : decode b7_readRest 176 = .ok (.iadd, 1) := by decide +kernel
theorem d7_readRest_177 : decode b7_readRest 177 = .ok (.putfield 107, 3) := by decide +kernel
theorem d7_readRest_180 : decode b7_readRest 180 = .ok (.iconst 1, 1) := by decide +kernel
theorem d7_readRest_181 : decode b7_readRest 181 = .ok (.ireturn, 1) := by decide +kernel
theorem d7_readRest_160 : decode b7_readRest 160 = .ok (.aload_n 0, 1) := by decide +kernel
theorem d7_readRest_161 : decode b7_readRest 161 = .ok (.iconst 1, 1) := by decide +kernel
theorem d7_readRest_162 : decode b7_readRest 162 = .ok (.aload_n 0, 1) := by decide +kernel
theorem d7_readRest_163 : decode b7_readRest 163 = .ok (.getfield 107, 3) := by decide +kernel
theorem d7_readRest_166 : decode b7_readRest 166 = .ok (.invokevirtual 145, 3) := by decide +kernel
theorem d7_readRest_169 : decode b7_readRest 169 = .ok (.ireturn, 1) := by decide +kernel
theorem d7_readOccurrence_0 : decode b7_readOccurrence 0 = .ok (.aload_n 0, 1) := by decide +kernel
theorem d7_readOccurrence_1 : decode b7_readOccurrence 1 = .ok (.aload_n 0, 1) := by decide +kernel
theorem d7_readOccurrence_2 : decode b7_readOccurrence 2 = .ok (.getfield 107, 3) := by decide +kernel
theorem d7_readOccurrence_5 : decode b7_readOccurrence 5 = .ok (.invokevirtual 110, 3) := by decide +kernel
theorem d7_readOccurrence_8 : decode b7_readOccurrence 8 = .ok (.bipush 123, 2) := by decide +kernel
theorem d7_readOccurrence_10 : decode b7_readOccurrence 10 = .ok (.if_icmp .ne 7, 3) := by decide +kernel
theorem d7_readOccurrence_17 : decode b7_readOccurrence 17 = .ok (.iconst 0, 1) := by decide +kernel
theorem d7_readOccurrence_13 : decode b7_readOccurrence 13 = .ok (.iconst 1, 1) := by decide +kernel
theorem d7_readOccurrence_14 : decode b7_readOccurrence 14 = .ok (.goto 4, 3) := by decide +kernel
theorem d7_readOccurrence_18 : decode b7_readOccurrence 18 = .ok (.istore_n 2, 1) := by decide +kernel
theorem d7_readOccurrence_19 : decode b7_readOccurrence 19 = .ok (.aload_n 0, 1) := by decide +kernel
theorem d7_readOccurrence_20 : decode b7_readOccurrence 20 = .ok (.dup, 1) := by decide +kernel
theorem d7_readOccurrence_21 : decode b7_readOccurrence 21 = .ok (.getfield 107, 3) := by decide +kernel
theorem d7_readOccurrence_24 : decode b7_readOccurrence 24 = .ok (.iload_n 2, 1) := by decide +kernel
theorem d7_readOccurrence_25 : decode b7_readOccurrence 25 = .ok (.ifCond .eq 7, 3) := by decide +kernel
theorem d7_readOccurrence_32 : decode b7_readOccurrence 32 = .ok (.iconst 0, 1) := by decide +kernel
theorem d7_readOccurrence_28 : decode b7_readOccurrence 28 = .ok (.iconst 1, 1) := by decide +kernel
theorem d7_readOccurrence_29 : decode b7_readOccurrence 29 = .ok (.goto 4, 3) := by decide +kernel
theorem d7_readOccurrence_33 : decode b7_readOccurrence 33 = .ok (.iadd, 1) := by decide +kernel
theorem d7_readOccurrence_34 : decode b7_readOccurrence 34 = .ok (.putfield 107, 3) := by decide +kernel
theorem d7_readOccurrence_37 : decode b7_readOccurrence 37 = .ok (.aload_n 0, 1) := by decide +kernel
theorem d7_readOccurrence_38 : decode b7_readOccurrence 38 = .ok (.aload_n 0, 1) := by decide +kernel
theorem d7_readOccurrence_39 : decode b7_readOccurrence 39 = .ok (.getfield 107, 3) := by decide +kernel
theorem d7_readOccurrence_42 : decode b7_readOccurrence 42 = .ok (.invokevirtual 110, 3) := by decide +kernel
theorem d7_readOccurrence_45 : decode b7_readOccurrence 45 = .ok (.istore_n 3, 1) := by decide +kernel
theorem d7_readOccurrence_46 : decode b7_readOccurrence 46 = .ok (.iload_n 3, 1) := by decide +kernel
theorem d7_readOccurrence_47 : decode b7_readOccurrence 47 = .ok (.bipush 48, 2) := by decide +kernel
theorem d7_readOccurrence_49 : decode b7_readOccurrence 49 = .ok (.bipush 57, 2) := by decide +kernel
theorem d7_readOccurrence_51 : decode b7_readOccurrence 51 = .ok (.invokestatic 85, 3) := by decide +kernel
theorem d7_readOccurrence_54 : decode b7_readOccurrence 54 = .ok (.ifCond .ne 13, 3) := by decide +kernel
theorem d7_readOccurrence_67 : decode b7_readOccurrence 67 = .ok (.aload_n 0, 1) := by decide +kernel
theorem d7_readOccurrence_68 : decode b7_readOccurrence 68 = .ok (.dup, 1) := by decide +kernel
theorem d7_readOccurrence_69 : decode b7_readOccurrence 69 = .ok (.getfield 107, 3) := by decide +kernel
theorem d7_readOccurrence_72 : decode b7_readOccurrence 72 = .ok (.iconst 1, 1) := by decide +kernel
theorem d7_readOccurrence_73 : decode b7_readOccurrence 73 = .ok (.iadd, 1) := by decide +kernel
theorem d7_readOccurrence_74 : decode b7_readOccurrence 74 = .ok (.putfield 107, 3) := by decide +kernel
theorem d7_readOccurrence_77 : decode b7_readOccurrence 77 = .ok (.iload_n 3, 1) := by decide +kernel
theorem d7_readOccurrence_78 : decode b7_readOccurrence 78 = .ok (.bipush 48, 2) := by decide +kernel
theorem d7_readOccurrence_80 : decode b7_readOccurrence 80 = .ok (.isub, 1) := by decide +kernel
theorem d7_readOccurrence_81 : decode b7_readOccurrence 81 = .ok (.istore 4, 2) := by decide +kernel
theorem d7_readOccurrence_83 : decode b7_readOccurrence 83 = .ok (.aload_n 0, 1) := by decide +kernel
theorem d7_readOccurrence_84 : decode b7_readOccurrence 84 = .ok (.getfield 43, 3) := by decide +kernel
theorem d7_readOccurrence_87 : decode b7_readOccurrence 87 = .ok (.getfield 171, 3) := by decide +kernel
theorem d7_readOccurrence_90 : decode b7_readOccurrence 90 = .ok (.aload_n 0, 1) := by decide +kernel
theorem d7_readOccurrence_91 : decode b7_readOccurrence 91 = .ok (.getfield 43, 3) := by decide +kernel
theorem d7_readOccurrence_94 : decode b7_readOccurrence 94 = .ok (.getfield 82, 3) := by decide +kernel
theorem d7_readOccurrence_97 : decode b7_readOccurrence 97 = .ok (.iaload, 1) := by decide +kernel
theorem d7_readOccurrence_98 : decode b7_readOccurrence 98 = .ok (.istore 5, 2) := by decide +kernel
theorem d7_readOccurrence_100 : decode b7_readOccurrence 100 = .ok (.aload_n 0, 1) := by decide +kernel
theorem d7_readOccurrence_101 : decode b7_readOccurrence 101 = .ok (.iload 4, 2) := by decide +kernel
theorem d7_readOccurrence_103 : decode b7_readOccurrence 103 = .ok (.invokevirtual 174, 3) := by decide +kernel
theorem d7_readOccurrence_106 : decode b7_readOccurrence 106 = .ok (.ifCond .eq 10, 3) := by decide +kernel
theorem d7_readOccurrence_116 : decode b7_readOccurrence 116 = .ok (.iload 5, 2) := by decide +kernel
theorem d7_readOccurrence_118 : decode b7_readOccurrence 118 = .ok (.bipush 60, 2) := by decide +kernel
theorem d7_readOccurrence_120 : decode b7_readOccurrence 120 = .ok (.if_icmp .ne 10, 3) := by decide +kernel
theorem d7_readOccurrence_130 : decode b7_readOccurrence 130 = .ok (.bipush 60, 2) := by decide +kernel
theorem d7_readOccurrence_132 : decode b7_readOccurrence 132 = .ok (.aload_n 0, 1) := by decide +kernel
theorem d7_readOccurrence_133 : decode b7_readOccurrence 133 = .ok (.getfield 43, 3) := by decide +kernel
theorem d7_readOccurrence_136 : decode b7_readOccurrence 136 = .ok (.getfield 82, 3) := by decide +kernel
theorem d7_readOccurrence_139 : decode b7_readOccurrence 139 = .ok (.imul, 1) := by decide +kernel
theorem d7_readOccurrence_140 : decode b7_readOccurrence 140 = .ok (.iload 5, 2) := by decide +kernel
theorem d7_readOccurrence_142 : decode b7_readOccurrence 142 = .ok (.iadd, 1) := by decide +kernel
theorem d7_readOccurrence_143 : decode b7_readOccurrence 143 = .ok (.istore 6, 2) := by decide +kernel
theorem d7_readOccurrence_145 : decode b7_readOccurrence 145 = .ok (.aload_n 0, 1) := by decide +kernel
theorem d7_readOccurrence_146 : decode b7_readOccurrence 146 = .ok (.getfield 43, 3) := by decide +kernel
theorem d7_readOccurrence_149 : decode b7_readOccurrence 149 = .ok (.getfield 171, 3) := by decide +kernel
theorem d7_readOccurrence_152 : decode b7_readOccurrence 152 = .ok (.aload_n 0, 1) := by decide +kernel
theorem d7_readOccurrence_153 : decode b7_readOccurrence 153 = .ok (.getfield 43, 3) := by decide +kernel
theorem d7_readOccurrence_156 : decode b7_readOccurrence 156 = .ok (.getfield 82, 3) := by decide +kernel
theorem d7_readOccurrence_159 : decode b7_readOccurrence 159 = .ok (.dup2, 1) := by decide +kernel
theorem d7_readOccurrence_160 : decode b7_readOccurrence 160 = .ok (.iaload, 1) := by decide +kernel
theorem d7_readOccurrence_161 : decode b7_readOccurrence 161 = .ok (.iconst 1, 1) := by decide +kernel
theorem d7_readOccurrence_162 : decode b7_readOccurrence 162 = .ok (.iadd, 1) := by decide +kernel
theorem d7_readOccurrence_163 : decode b7_readOccurrence 163 = .ok (.iastore, 1) := by decide +kernel
theorem d7_readOccurrence_164 : decode b7_readOccurrence 164 = .ok (.aload_n 0, 1) := by decide +kernel
theorem d7_readOccurrence_165 : decode b7_readOccurrence 165 = .ok (.getfield 43, 3) := by decide +kernel
theorem d7_readOccurrence_168 : decode b7_readOccurrence 168 = .ok (.getfield 162, 3) := by decide +kernel
theorem d7_readOccurrence_171 : decode b7_readOccurrence 171 = .ok (.iload 6, 2) := by decide +kernel
theorem d7_readOccurrence_173 : decode b7_readOccurrence 173 = .ok (.iload 4, 2) := by decide +kernel
theorem d7_readOccurrence_175 : decode b7_readOccurrence 175 = .ok (.iastore, 1) := by decide +kernel
theorem d7_readOccurrence_176 : decode b7_readOccurrence 176 = .ok (.aload_n 0, 1) := by decide +kernel
theorem d7_readOccurrence_177 : decode b7_readOccurrence 177 = .ok (.getfield 43, 3) := by decide +kernel
theorem d7_readOccurrence_180 : decode b7_readOccurrence 180 = .ok (.getfield 177, 3) := by decide +kernel
theorem d7_readOccurrence_183 : decode b7_readOccurrence 183 = .ok (.iload 6, 2) := by decide +kernel
theorem d7_readOccurrence_185 : decode b7_readOccurrence 185 = .ok (.iconst 0, 1) := by decide +kernel
theorem d7_readOccurrence_186 : decode b7_readOccurrence 186 = .ok (.iastore, 1) := by decide +kernel
theorem d7_readOccurrence_187 : decode b7_readOccurrence 187 = .ok (.aload_n 0, 1) := by decide +kernel
theorem d7_readOccurrence_188 : decode b7_readOccurrence 188 = .ok (.getfield 43, 3) := by decide +kernel
theorem d7_readOccurrence_191 : decode b7_readOccurrence 191 = .ok (.getfield 180, 3) := by decide +kernel
theorem d7_readOccurrence_194 : decode b7_readOccurrence 194 = .ok (.iload 6, 2) := by decide +kernel
theorem d7_readOccurrence_196 : decode b7_readOccurrence 196 = .ok (.iconst 0, 1) := by decide +kernel
theorem d7_readOccurrence_197 : decode b7_readOccurrence 197 = .ok (.bastore, 1) := by decide +kernel
theorem d7_readOccurrence_198 : decode b7_readOccurrence 198 = .ok (.aload_n 0, 1) := by decide +kernel
theorem d7_readOccurrence_199 : decode b7_readOccurrence 199 = .ok (.getfield 43, 3) := by decide +kernel
theorem d7_readOccurrence_202 : decode b7_readOccurrence 202 = .ok (.getfield 183, 3) := by decide +kernel
theorem d7_readOccurrence_205 : decode b7_readOccurrence 205 = .ok (.iload 6, 2) := by decide +kernel
theorem d7_readOccurrence_207 : decode b7_readOccurrence 207 = .ok (.aload_n 0, 1) := by decide +kernel
theorem d7_readOccurrence_208 : decode b7_readOccurrence 208 = .ok (.getfield 159, 3) := by decide +kernel
theorem d7_readOccurrence_211 : decode b7_readOccurrence 211 = .ok (.ifCond .ne 7, 3) := by decide +kernel
theorem d7_readOccurrence_218 : decode b7_readOccurrence 218 = .ok (.aload_n 0, 1) := by decide +kernel
theorem d7_readOccurrence_219 : decode b7_readOccurrence 219 = .ok (.getfield 46, 3) := by decide +kernel
theorem d7_readOccurrence_222 : decode b7_readOccurrence 222 = .ok (.aload_n 0, 1) := by decide +kernel
theorem d7_readOccurrence_223 : decode b7_readOccurrence 223 = .ok (.getfield 159, 3) := by decide +kernel
theorem d7_readOccurrence_226 : decode b7_readOccurrence 226 = .ok (.iconst 1, 1) := by decide +kernel
theorem d7_readOccurrence_227 : decode b7_readOccurrence 227 = .ok (.isub, 1) := by decide +kernel
theorem d7_readOccurrence_228 : decode b7_readOccurrence 228 = .ok (.iaload, 1) := by decide +kernel
theorem d7_readOccurrence_214 : decode b7_readOccurrence 214 = .ok (.iconst (-1), 1) := by decide +kernel
theorem d7_readOccurrence_215 : decode b7_readOccurrence 215 = .ok (.goto 14, 3) := by decide +kernel
theorem d7_readOccurrence_123 : decode b7_readOccurrence 123 = .ok (.aload_n 0, 1) := by decide +kernel
theorem d7_readOccurrence_124 : decode b7_readOccurrence 124 = .ok (.iconst 5, 1) := by decide +kernel
theorem d7_readOccurrence_125 : decode b7_readOccurrence 125 = .ok (.iload_n 1, 1) := by decide +kernel
theorem d7_readOccurrence_126 : decode b7_readOccurrence 126 = .ok (.invokevirtual 145, 3) := by decide +kernel
theorem d7_readOccurrence_129 : decode b7_readOccurrence 129 = .ok (.ireturn, 1) := by decide +kernel
theorem d7_readOccurrence_109 : decode b7_readOccurrence 109 = .ok (.aload_n 0, 1) := by decide +kernel
theorem d7_readOccurrence_110 : decode b7_readOccurrence 110 = .ok (.iconst 4, 1) := by decide +kernel
theorem d7_readOccurrence_111 : decode b7_readOccurrence 111 = .ok (.iload_n 1, 1) := by decide +kernel
theorem d7_readOccurrence_112 : decode b7_readOccurrence 112 = .ok (.invokevirtual 145, 3) := by decide +kernel
theorem d7_readOccurrence_115 : decode b7_readOccurrence 115 = .ok (.ireturn, 1) := by decide +kernel
theorem d7_readOccurrence_57 : decode b7_readOccurrence 57 = .ok (.aload_n 0, 1) := by decide +kernel
theorem d7_readOccurrence_58 : decode b7_readOccurrence 58 = .ok (.iconst 1, 1) := by decide +kernel
theorem d7_readOccurrence_59 : decode b7_readOccurrence 59 = .ok (.aload_n 0, 1) := by decide +kernel
theorem d7_readOccurrence_60 : decode b7_readOccurrence 60 = .ok (.getfield 107, 3) := by decide +kernel
theorem d7_readOccurrence_63 : decode b7_readOccurrence 63 = .ok (.invokevirtual 145, 3) := by decide +kernel
theorem d7_readOccurrence_66 : decode b7_readOccurrence 66 = .ok (.ireturn, 1) := by decide +kernel
theorem d7_readOccurrence_229 : decode b7_readOccurrence 229 = .ok (.iastore, 1) := by decide +kernel
theorem d7_readOccurrence_230 : decode b7_readOccurrence 230 = .ok (.aload_n 0, 1) := by decide +kernel
theorem d7_readOccurrence_231 : decode b7_readOccurrence 231 = .ok (.getfield 43, 3) := by decide +kernel
theorem d7_readOccurrence_234 : decode b7_readOccurrence 234 = .ok (.getfield 186, 3) := by decide +kernel
theorem d7_readOccurrence_237 : decode b7_readOccurrence 237 = .ok (.iload 6, 2) := by decide +kernel
theorem d7_readOccurrence_239 : decode b7_readOccurrence 239 = .ok (.aload_n 0, 1) := by decide +kernel
theorem d7_readOccurrence_240 : decode b7_readOccurrence 240 = .ok (.getfield 156, 3) := by decide +kernel
theorem d7_readOccurrence_243 : decode b7_readOccurrence 243 = .ok (.iastore, 1) := by decide +kernel
theorem d7_readOccurrence_244 : decode b7_readOccurrence 244 = .ok (.aload_n 0, 1) := by decide +kernel
theorem d7_readOccurrence_245 : decode b7_readOccurrence 245 = .ok (.getfield 43, 3) := by decide +kernel
theorem d7_readOccurrence_248 : decode b7_readOccurrence 248 = .ok (.getfield 189, 3) := by decide +kernel
theorem d7_readOccurrence_251 : decode b7_readOccurrence 251 = .ok (.iload 6, 2) := by decide +kernel
theorem d7_readOccurrence_253 : decode b7_readOccurrence 253 = .ok (.aload_n 0, 1) := by decide +kernel
theorem d7_readOccurrence_254 : decode b7_readOccurrence 254 = .ok (.getfield 156, 3) := by decide +kernel
theorem d7_readOccurrence_257 : decode b7_readOccurrence 257 = .ok (.iastore, 1) := by decide +kernel
theorem d7_readOccurrence_258 : decode b7_readOccurrence 258 = .ok (.aload_n 0, 1) := by decide +kernel
theorem d7_readOccurrence_259 : decode b7_readOccurrence 259 = .ok (.getfield 43, 3) := by decide +kernel
theorem d7_readOccurrence_262 : decode b7_readOccurrence 262 = .ok (.getfield 192, 3) := by decide +kernel
theorem d7_readOccurrence_265 : decode b7_readOccurrence 265 = .ok (.iload 6, 2) := by decide +kernel
theorem d7_readOccurrence_267 : decode b7_readOccurrence 267 = .ok (.aload_n 0, 1) := by decide +kernel
theorem d7_readOccurrence_268 : decode b7_readOccurrence 268 = .ok (.getfield 159, 3) := by decide +kernel
theorem d7_readOccurrence_271 : decode b7_readOccurrence 271 = .ok (.iastore, 1) := by decide +kernel
theorem d7_readOccurrence_272 : decode b7_readOccurrence 272 = .ok (.aload_n 0, 1) := by decide +kernel
theorem d7_readOccurrence_273 : decode b7_readOccurrence 273 = .ok (.iload 4, 2) := by decide +kernel
theorem d7_readOccurrence_275 : decode b7_readOccurrence 275 = .ok (.invokevirtual 195, 3) := by decide +kernel
theorem d7_readOccurrence_278 : decode b7_readOccurrence 278 = .ok (.aload_n 0, 1) := by decide +kernel
theorem d7_readOccurrence_279 : decode b7_readOccurrence 279 = .ok (.sipush 1000, 3) := by decide +kernel
theorem d7_readOccurrence_282 : decode b7_readOccurrence 282 = .ok (.iload 5, 2) := by decide +kernel
theorem d7_readOccurrence_284 : decode b7_readOccurrence 284 = .ok (.iadd, 1) := by decide +kernel
theorem d7_readOccurrence_285 : decode b7_readOccurrence 285 = .ok (.invokevirtual 198, 3) := by decide +kernel
theorem d7_readOccurrence_288 : decode b7_readOccurrence 288 = .ok (.iload_n 2, 1) := by decide +kernel
theorem d7_readOccurrence_289 : decode b7_readOccurrence 289 = .ok (.ifCond .eq 15, 3) := by decide +kernel
theorem d7_readOccurrence_304 : decode b7_readOccurrence 304 = .ok (.iconst 1, 1) := by decide +kernel
theorem d7_readOccurrence_305 : decode b7_readOccurrence 305 = .ok (.goto 4, 3) := by decide +kernel
theorem d7_readOccurrence_309 : decode b7_readOccurrence 309 = .ok (.ireturn, 1) := by decide +kernel
theorem d7_readOccurrence_292 : decode b7_readOccurrence 292 = .ok (.aload_n 0, 1) := by decide +kernel
theorem d7_readOccurrence_293 : decode b7_readOccurrence 293 = .ok (.iload_n 1, 1) := by decide +kernel
theorem d7_readOccurrence_294 : decode b7_readOccurrence 294 = .ok (.iload 6, 2) := by decide +kernel
theorem d7_readOccurrence_296 : decode b7_readOccurrence 296 = .ok (.iload 5, 2) := by decide +kernel
theorem d7_readOccurrence_298 : decode b7_readOccurrence 298 = .ok (.invokevirtual 201, 3) := by decide +kernel
theorem d7_readOccurrence_301 : decode b7_readOccurrence 301 = .ok (.ifCond .eq 7, 3) := by decide +kernel
theorem d7_readOccurrence_308 : decode b7_readOccurrence 308 = .ok (.iconst 0, 1) := by decide +kernel
theorem d7_readBody_0 : decode b7_readBody 0 = .ok (.aload_n 0, 1) := by decide +kernel
theorem d7_readBody_1 : decode b7_readBody 1 = .ok (.iconst 0, 1) := by decide +kernel
theorem d7_readBody_2 : decode b7_readBody 2 = .ok (.putfield 159, 3) := by decide +kernel
theorem d7_readBody_5 : decode b7_readBody 5 = .ok (.iconst 1, 1) := by decide +kernel
theorem d7_readBody_6 : decode b7_readBody 6 = .ok (.istore_n 1, 1) := by decide +kernel
theorem d7_readBody_7 : decode b7_readBody 7 = .ok (.iload_n 1, 1) := by decide +kernel
theorem d7_readBody_8 : decode b7_readBody 8 = .ok (.ifCond .eq 218, 3) := by decide +kernel
theorem d7_readBody_226 : decode b7_readBody 226 = .ok (.iconst 1, 1) := by decide +kernel
theorem d7_readBody_227 : decode b7_readBody 227 = .ok (.ireturn, 1) := by decide +kernel
theorem d7_readBody_11 : decode b7_readBody 11 = .ok (.aload_n 0, 1) := by decide +kernel
theorem d7_readBody_12 : decode b7_readBody 12 = .ok (.aload_n 0, 1) := by decide +kernel
theorem d7_readBody_13 : decode b7_readBody 13 = .ok (.getfield 107, 3) := by decide +kernel
theorem d7_readBody_16 : decode b7_readBody 16 = .ok (.invokevirtual 110, 3) := by decide +kernel
theorem d7_readBody_19 : decode b7_readBody 19 = .ok (.istore_n 2, 1) := by decide +kernel
theorem d7_readBody_20 : decode b7_readBody 20 = .ok (.iload_n 2, 1) := by decide +kernel
theorem d7_readBody_21 : decode b7_readBody 21 = .ok (.bipush 125, 2) := by decide +kernel
theorem d7_readBody_23 : decode b7_readBody 23 = .ok (.if_icmp .ne 82, 3) := by decide +kernel
theorem d7_readBody_105 : decode b7_readBody 105 = .ok (.iload_n 2, 1) := by decide +kernel
theorem d7_readBody_106 : decode b7_readBody 106 = .ok (.bipush 36, 2) := by decide +kernel
theorem d7_readBody_108 : decode b7_readBody 108 = .ok (.if_icmp .ne 70, 3) := by decide +kernel
theorem d7_readBody_178 : decode b7_readBody 178 = .ok (.iload_n 2, 1) := by decide +kernel
theorem d7_readBody_179 : decode b7_readBody 179 = .ok (.bipush 10, 2) := by decide +kernel
theorem d7_readBody_181 : decode b7_readBody 181 = .ok (.if_icmp .eq 14, 3) := by decide +kernel
theorem d7_readBody_184 : decode b7_readBody 184 = .ok (.iload_n 2, 1) := by decide +kernel
theorem d7_readBody_185 : decode b7_readBody 185 = .ok (.bipush 32, 2) := by decide +kernel
theorem d7_readBody_187 : decode b7_readBody 187 = .ok (.bipush 126, 2) := by decide +kernel
theorem d7_readBody_189 : decode b7_readBody 189 = .ok (.invokestatic 85, 3) := by decide +kernel
theorem d7_readBody_192 : decode b7_readBody 192 = .ok (.ifCond .eq 21, 3) := by decide +kernel
theorem d7_readBody_213 : decode b7_readBody 213 = .ok (.aload_n 0, 1) := by decide +kernel
theorem d7_readBody_214 : decode b7_readBody 214 = .ok (.iconst 1, 1) := by decide +kernel
theorem d7_readBody_215 : decode b7_readBody 215 = .ok (.aload_n 0, 1) := by decide +kernel
theorem d7_readBody_216 : decode b7_readBody 216 = .ok (.getfield 107, 3) := by decide +kernel
theorem d7_readBody_219 : decode b7_readBody 219 = .ok (.invokevirtual 145, 3) := by decide +kernel
theorem d7_readBody_222 : decode b7_readBody 222 = .ok (.ireturn, 1) := by decide +kernel
theorem d7_readBody_111 : decode b7_readBody 111 = .ok (.aload_n 0, 1) := by decide +kernel
theorem d7_readBody_112 : decode b7_readBody 112 = .ok (.dup, 1) := by decide +kernel
theorem d7_readBody_113 : decode b7_readBody 113 = .ok (.getfield 107, 3) := by decide +kernel
theorem d7_readBody_116 : decode b7_readBody 116 = .ok (.iconst 1, 1) := by decide +kernel
theorem d7_readBody_117 : decode b7_readBody 117 = .ok (.iadd, 1) := by decide +kernel
theorem d7_readBody_118 : decode b7_readBody 118 = .ok (.putfield 107, 3) := by decide +kernel
theorem d7_readBody_121 : decode b7_readBody 121 = .ok (.aload_n 0, 1) := by decide +kernel
theorem d7_readBody_122 : decode b7_readBody 122 = .ok (.aload_n 0, 1) := by decide +kernel
theorem d7_readBody_123 : decode b7_readBody 123 = .ok (.getfield 107, 3) := by decide +kernel
theorem d7_readBody_126 : decode b7_readBody 126 = .ok (.invokevirtual 110, 3) := by decide +kernel
theorem d7_readBody_129 : decode b7_readBody 129 = .ok (.istore_n 3, 1) := by decide +kernel
theorem d7_readBody_130 : decode b7_readBody 130 = .ok (.iload_n 3, 1) := by decide +kernel
theorem d7_readBody_131 : decode b7_readBody 131 = .ok (.bipush 36, 2) := by decide +kernel
theorem d7_readBody_133 : decode b7_readBody 133 = .ok (.if_icmp .eq 9, 3) := by decide +kernel
theorem d7_readBody_136 : decode b7_readBody 136 = .ok (.iload_n 3, 1) := by decide +kernel
theorem d7_readBody_137 : decode b7_readBody 137 = .ok (.bipush 125, 2) := by decide +kernel
theorem d7_readBody_139 : decode b7_readBody 139 = .ok (.if_icmp .ne 21, 3) := by decide +kernel
theorem d7_readBody_160 : decode b7_readBody 160 = .ok (.aload_n 0, 1) := by decide +kernel
theorem d7_readBody_161 : decode b7_readBody 161 = .ok (.aload_n 0, 1) := by decide +kernel
theorem d7_readBody_162 : decode b7_readBody 162 = .ok (.getfield 107, 3) := by decide +kernel
theorem d7_readBody_165 : decode b7_readBody 165 = .ok (.iconst 1, 1) := by decide +kernel
theorem d7_readBody_166 : decode b7_readBody 166 = .ok (.isub, 1) := by decide +kernel
theorem d7_readBody_167 : decode b7_readBody 167 = .ok (.invokevirtual 207, 3) := by decide +kernel
theorem d7_readBody_170 : decode b7_readBody 170 = .ok (.ifCond .ne 5, 3) := by decide +kernel
theorem d7_readBody_175 : decode b7_readBody 175 = .ok (.goto 48, 3) := by decide +kernel
theorem d7_readBody_223 : decode b7_readBody 223 = .ok (.goto (-216), 3) := by decide +kernel
theorem d7_readBody_173 : decode b7_readBody 173 = .ok (.iconst 0, 1) := by decide +kernel
theorem d7_readBody_174 : decode b7_readBody 174 = .ok (.ireturn, 1) := by decide +kernel
theorem d7_readBody_26 : decode b7_readBody 26 = .ok (.aload_n 0, 1) := by decide +kernel
theorem d7_readBody_27 : decode b7_readBody 27 = .ok (.dup, 1) := by decide +kernel
theorem d7_readBody_28 : decode b7_readBody 28 = .ok (.getfield 107, 3) := by decide +kernel
theorem d7_readBody_31 : decode b7_readBody 31 = .ok (.iconst 1, 1) := by decide +kernel
theorem d7_readBody_32 : decode b7_readBody 32 = .ok (.iadd, 1) := by decide +kernel
theorem d7_readBody_33 : decode b7_readBody 33 = .ok (.putfield 107, 3) := by decide +kernel
theorem d7_readBody_36 : decode b7_readBody 36 = .ok (.aload_n 0, 1) := by decide +kernel
theorem d7_readBody_37 : decode b7_readBody 37 = .ok (.getfield 159, 3) := by decide +kernel
theorem d7_readBody_40 : decode b7_readBody 40 = .ok (.ifCond .le 7, 3) := by decide +kernel
theorem d7_readBody_47 : decode b7_readBody 47 = .ok (.iconst 0, 1) := by decide +kernel
theorem d7_readBody_43 : decode b7_readBody 43 = .ok (.iconst 1, 1) := by decide +kernel
theorem d7_readBody_44 : decode b7_readBody 44 = .ok (.goto 4, 3) := by decide +kernel
theorem d7_readBody_195 : decode b7_readBody 195 = .ok (.aload_n 0, 1) := by decide +kernel
theorem d7_readBody_196 : decode b7_readBody 196 = .ok (.iload_n 2, 1) := by decide +kernel
theorem d7_readBody_197 : decode b7_readBody 197 = .ok (.invokevirtual 198, 3) := by decide +kernel
theorem d7_readBody_200 : decode b7_readBody 200 = .ok (.aload_n 0, 1) := by decide +kernel
theorem d7_readBody_201 : decode b7_readBody 201 = .ok (.dup, 1) := by decide +kernel
theorem d7_readBody_202 : decode b7_readBody 202 = .ok (.getfield 107, 3) := by decide +kernel
theorem d7_readBody_205 : decode b7_readBody 205 = .ok (.iconst 1, 1) := by decide +kernel
theorem d7_readBody_206 : decode b7_readBody 206 = .ok (.iadd, 1) := by decide +kernel
theorem d7_readBody_207 : decode b7_readBody 207 = .ok (.putfield 107, 3) := by decide +kernel
theorem d7_readBody_210 : decode b7_readBody 210 = .ok (.goto 13, 3) := by decide +kernel
theorem d7_readBody_142 : decode b7_readBody 142 = .ok (.aload_n 0, 1) := by decide +kernel
theorem d7_readBody_143 : decode b7_readBody 143 = .ok (.iload_n 3, 1) := by decide +kernel
theorem d7_readBody_144 : decode b7_readBody 144 = .ok (.invokevirtual 198, 3) := by decide +kernel
theorem d7_readBody_147 : decode b7_readBody 147 = .ok (.aload_n 0, 1) := by decide +kernel
theorem d7_readBody_148 : decode b7_readBody 148 = .ok (.dup, 1) := by decide +kernel
theorem d7_readBody_149 : decode b7_readBody 149 = .ok (.getfield 107, 3) := by decide +kernel
theorem d7_readBody_152 : decode b7_readBody 152 = .ok (.iconst 1, 1) := by decide +kernel
theorem d7_readBody_153 : decode b7_readBody 153 = .ok (.iadd, 1) := by decide +kernel
theorem d7_readBody_154 : decode b7_readBody 154 = .ok (.putfield 107, 3) := by decide +kernel
theorem d7_readBody_157 : decode b7_readBody 157 = .ok (.goto 18, 3) := by decide +kernel
theorem d7_readBody_48 : decode b7_readBody 48 = .ok (.istore_n 1, 1) := by decide +kernel
theorem d7_readBody_49 : decode b7_readBody 49 = .ok (.iload_n 1, 1) := by decide +kernel
theorem d7_readBody_50 : decode b7_readBody 50 = .ok (.ifCond .eq 173, 3) := by decide +kernel
theorem d7_readBody_53 : decode b7_readBody 53 = .ok (.aload_n 0, 1) := by decide +kernel
theorem d7_readBody_54 : decode b7_readBody 54 = .ok (.dup, 1) := by decide +kernel
theorem d7_readBody_55 : decode b7_readBody 55 = .ok (.getfield 159, 3) := by decide +kernel
theorem d7_readBody_58 : decode b7_readBody 58 = .ok (.iconst 1, 1) := by decide +kernel
