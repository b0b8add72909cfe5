theorem d7_writesBody_102 : decode b7_writesBody 102 = .ok (.dup, 1) := by decide +kernel
theorem d7_writesBody_103 : decode b7_writesBody 103 = .ok (.getfield 285, 3) := by decide +kernel
theorem d7_writesBody_106 : decode b7_writesBody 106 = .ok (.iconst 1, 1) := by decide +kernel
theorem d7_writesBody_107 : decode b7_writesBody 107 = .ok (.iadd, 1) := by decide +kernel
theorem d7_writesBody_108 : decode b7_writesBody 108 = .ok (.putfield 285, 3) := by decide +kernel
theorem d7_writesBody_111 : decode b7_writesBody 111 = .ok (.iinc 3 1, 3) := by decide +kernel
theorem d7_writesBody_114 : decode b7_writesBody 114 = .ok (.goto (-112), 3) := by decide +kernel
theorem d7_writesBody_26 : decode b7_writesBody 26 = .ok (.aload_n 0, 1) := by decide +kernel
theorem d7_writesBody_27 : decode b7_writesBody 27 = .ok (.iload 4, 2) := by decide +kernel
theorem d7_writesBody_29 : decode b7_writesBody 29 = .ok (.sipush 1000, 3) := by decide +kernel
theorem d7_writesBody_32 : decode b7_writesBody 32 = .ok (.isub, 1) := by decide +kernel
theorem d7_writesBody_33 : decode b7_writesBody 33 = .ok (.invokevirtual 262, 3) := by decide +kernel
theorem d7_writesBody_36 : decode b7_writesBody 36 = .ok (.istore 5, 2) := by decide +kernel
theorem d7_writesBody_38 : decode b7_writesBody 38 = .ok (.aload_n 0, 1) := by decide +kernel
theorem d7_writesBody_39 : decode b7_writesBody 39 = .ok (.getfield 285, 3) := by decide +kernel
theorem d7_writesBody_42 : decode b7_writesBody 42 = .ok (.istore 6, 2) := by decide +kernel
theorem d7_writesBody_44 : decode b7_writesBody 44 = .ok (.aload_n 0, 1) := by decide +kernel
theorem d7_writesBody_45 : decode b7_writesBody 45 = .ok (.aload_n 0, 1) := by decide +kernel
theorem d7_writesBody_46 : decode b7_writesBody 46 = .ok (.getfield 32, 3) := by decide +kernel
theorem d7_writesBody_49 : decode b7_writesBody 49 = .ok (.getfield 162, 3) := by decide +kernel
theorem d7_writesBody_52 : decode b7_writesBody 52 = .ok (.iload 5, 2) := by decide +kernel
theorem d7_writesBody_54 : decode b7_writesBody 54 = .ok (.iaload, 1) := by decide +kernel
theorem d7_writesBody_55 : decode b7_writesBody 55 = .ok (.invokevirtual 301, 3) := by decide +kernel
theorem d7_writesBody_58 : decode b7_writesBody 58 = .ok (.aload_n 0, 1) := by decide +kernel
theorem d7_writesBody_59 : decode b7_writesBody 59 = .ok (.aload_n 0, 1) := by decide +kernel
theorem d7_writesBody_60 : decode b7_writesBody 60 = .ok (.getfield 32, 3) := by decide +kernel
theorem d7_writesBody_63 : decode b7_writesBody 63 = .ok (.getfield 177, 3) := by decide +kernel
theorem d7_writesBody_66 : decode b7_writesBody 66 = .ok (.iload 5, 2) := by decide +kernel
theorem d7_writesBody_68 : decode b7_writesBody 68 = .ok (.iaload, 1) := by decide +kernel
theorem d7_writesBody_69 : decode b7_writesBody 69 = .ok (.iload 6, 2) := by decide +kernel
theorem d7_writesBody_71 : decode b7_writesBody 71 = .ok (.invokevirtual 304, 3) := by decide +kernel
theorem d7_writesBody_74 : decode b7_writesBody 74 = .ok (.aload_n 0, 1) := by decide +kernel
theorem d7_writesBody_75 : decode b7_writesBody 75 = .ok (.getfield 32, 3) := by decide +kernel
theorem d7_writesBody_78 : decode b7_writesBody 78 = .ok (.getfield 189, 3) := by decide +kernel
theorem d7_writesBody_81 : decode b7_writesBody 81 = .ok (.iload 5, 2) := by decide +kernel
theorem d7_writesBody_83 : decode b7_writesBody 83 = .ok (.iaload, 1) := by decide +kernel
theorem d7_writesBody_84 : decode b7_writesBody 84 = .ok (.iconst 1, 1) := by decide +kernel
theorem d7_writesBody_85 : decode b7_writesBody 85 = .ok (.iadd, 1) := by decide +kernel
theorem d7_writesBody_86 : decode b7_writesBody 86 = .ok (.istore_n 3, 1) := by decide +kernel
theorem d7_writesBody_87 : decode b7_writesBody 87 = .ok (.goto 27, 3) := by decide +kernel
theorem d7_writesText_0 : decode b7_writesText 0 = .ok (.aload_n 0, 1) := by decide +kernel
theorem d7_writesText_1 : decode b7_writesText 1 = .ok (.iconst 0, 1) := by decide +kernel
theorem d7_writesText_2 : decode b7_writesText 2 = .ok (.putfield 285, 3) := by decide +kernel
theorem d7_writesText_5 : decode b7_writesText 5 = .ok (.aload_n 0, 1) := by decide +kernel
theorem d7_writesText_6 : decode b7_writesText 6 = .ok (.aload_n 0, 1) := by decide +kernel
theorem d7_writesText_7 : decode b7_writesText 7 = .ok (.getfield 32, 3) := by decide +kernel
theorem d7_writesText_10 : decode b7_writesText 10 = .ok (.getfield 217, 3) := by decide +kernel
theorem d7_writesText_13 : decode b7_writesText 13 = .ok (.aload_n 0, 1) := by decide +kernel
theorem d7_writesText_14 : decode b7_writesText 14 = .ok (.getfield 249, 3) := by decide +kernel
theorem d7_writesText_17 : decode b7_writesText 17 = .ok (.iaload, 1) := by decide +kernel
theorem d7_writesText_18 : decode b7_writesText 18 = .ok (.aload_n 0, 1) := by decide +kernel
theorem d7_writesText_19 : decode b7_writesText 19 = .ok (.getfield 32, 3) := by decide +kernel
theorem d7_writesText_22 : decode b7_writesText 22 = .ok (.getfield 217, 3) := by decide +kernel
theorem d7_writesText_25 : decode b7_writesText 25 = .ok (.aload_n 0, 1) := by decide +kernel
theorem d7_writesText_26 : decode b7_writesText 26 = .ok (.getfield 249, 3) := by decide +kernel
theorem d7_writesText_29 : decode b7_writesText 29 = .ok (.iconst 1, 1) := by decide +kernel
theorem d7_writesText_30 : decode b7_writesText 30 = .ok (.iadd, 1) := by decide +kernel
theorem d7_writesText_31 : decode b7_writesText 31 = .ok (.iaload, 1) := by decide +kernel
theorem d7_writesText_32 : decode b7_writesText 32 = .ok (.invokevirtual 288, 3) := by decide +kernel
theorem d7_writesText_35 : decode b7_writesText 35 = .ok (.return_, 1) := by decide +kernel
theorem d7_firstShown_0 : decode b7_firstShown 0 = .ok (.iconst 0, 1) := by decide +kernel
theorem d7_firstShown_1 : decode b7_firstShown 1 = .ok (.istore_n 2, 1) := by decide +kernel
theorem d7_firstShown_2 : decode b7_firstShown 2 = .ok (.iload_n 2, 1) := by decide +kernel
theorem d7_firstShown_3 : decode b7_firstShown 3 = .ok (.aload_n 0, 1) := by decide +kernel
theorem d7_firstShown_4 : decode b7_firstShown 4 = .ok (.invokevirtual 260, 3) := by decide +kernel
theorem d7_firstShown_7 : decode b7_firstShown 7 = .ok (.if_icmp .ge 37, 3) := by decide +kernel
theorem d7_firstShown_44 : decode b7_firstShown 44 = .ok (.iconst (-1), 1) := by decide +kernel
theorem d7_firstShown_45 : decode b7_firstShown 45 = .ok (.ireturn, 1) := by decide +kernel
theorem d7_firstShown_10 : decode b7_firstShown 10 = .ok (.aload_n 0, 1) := by decide +kernel
theorem d7_firstShown_11 : decode b7_firstShown 11 = .ok (.getfield 49, 3) := by decide +kernel
theorem d7_firstShown_14 : decode b7_firstShown 14 = .ok (.iload_n 2, 1) := by decide +kernel
theorem d7_firstShown_15 : decode b7_firstShown 15 = .ok (.baload, 1) := by decide +kernel
theorem d7_firstShown_16 : decode b7_firstShown 16 = .ok (.ifCond .eq 22, 3) := by decide +kernel
theorem d7_firstShown_38 : decode b7_firstShown 38 = .ok (.iinc 2 1, 3) := by decide +kernel
theorem d7_firstShown_41 : decode b7_firstShown 41 = .ok (.goto (-39), 3) := by decide +kernel
theorem d7_firstShown_19 : decode b7_firstShown 19 = .ok (.aload_n 0, 1) := by decide +kernel
theorem d7_firstShown_20 : decode b7_firstShown 20 = .ok (.getfield 32, 3) := by decide +kernel
theorem d7_firstShown_23 : decode b7_firstShown 23 = .ok (.getfield 162, 3) := by decide +kernel
theorem d7_firstShown_26 : decode b7_firstShown 26 = .ok (.aload_n 0, 1) := by decide +kernel
theorem d7_firstShown_27 : decode b7_firstShown 27 = .ok (.iload_n 2, 1) := by decide +kernel
theorem d7_firstShown_28 : decode b7_firstShown 28 = .ok (.invokevirtual 262, 3) := by decide +kernel
theorem d7_firstShown_31 : decode b7_firstShown 31 = .ok (.iaload, 1) := by decide +kernel
theorem d7_firstShown_32 : decode b7_firstShown 32 = .ok (.iload_n 1, 1) := by decide +kernel
theorem d7_firstShown_33 : decode b7_firstShown 33 = .ok (.if_icmp .ne 5, 3) := by decide +kernel
theorem d7_firstShown_36 : decode b7_firstShown 36 = .ok (.iload_n 2, 1) := by decide +kernel
theorem d7_firstShown_37 : decode b7_firstShown 37 = .ok (.ireturn, 1) := by decide +kernel
theorem d7_keyOf_0 : decode b7_keyOf 0 = .ok (.iload_n 1, 1) := by decide +kernel
theorem d7_keyOf_1 : decode b7_keyOf 1 = .ok (.ifCond .ne 9, 3) := by decide +kernel
theorem d7_keyOf_10 : decode b7_keyOf 10 = .ok (.aload_n 0, 1) := by decide +kernel
theorem d7_keyOf_11 : decode b7_keyOf 11 = .ok (.getfield 7, 3) := by decide +kernel
theorem d7_keyOf_14 : decode b7_keyOf 14 = .ok (.iconst 1, 1) := by decide +kernel
theorem d7_keyOf_15 : decode b7_keyOf 15 = .ok (.iaload, 1) := by decide +kernel
theorem d7_keyOf_16 : decode b7_keyOf 16 = .ok (.iconst 1, 1) := by decide +kernel
theorem d7_keyOf_17 : decode b7_keyOf 17 = .ok (.if_icmp .ne 11, 3) := by decide +kernel
theorem d7_keyOf_28 : decode b7_keyOf 28 = .ok (.iload_n 1, 1) := by decide +kernel
theorem d7_keyOf_29 : decode b7_keyOf 29 = .ok (.ireturn, 1) := by decide +kernel
theorem d7_keyOf_20 : decode b7_keyOf 20 = .ok (.aload_n 0, 1) := by decide +kernel
theorem d7_keyOf_21 : decode b7_keyOf 21 = .ok (.iload_n 1, 1) := by decide +kernel
theorem d7_keyOf_22 : decode b7_keyOf 22 = .ok (.invokevirtual 307, 3) := by decide +kernel
theorem d7_keyOf_25 : decode b7_keyOf 25 = .ok (.goto 4, 3) := by decide +kernel
theorem d7_keyOf_4 : decode b7_keyOf 4 = .ok (.sipush 1000, 3) := by decide +kernel
theorem d7_keyOf_7 : decode b7_keyOf 7 = .ok (.goto 22, 3) := by decide +kernel
theorem d7_laysLeaving_0 : decode b7_laysLeaving 0 = .ok (.aload_n 0, 1) := by decide +kernel
theorem d7_laysLeaving_1 : decode b7_laysLeaving 1 = .ok (.iconst 0, 1) := by decide +kernel
theorem d7_laysLeaving_2 : decode b7_laysLeaving 2 = .ok (.putfield 310, 3) := by decide +kernel
theorem d7_laysLeaving_5 : decode b7_laysLeaving 5 = .ok (.iconst 0, 1) := by decide +kernel
theorem d7_laysLeaving_6 : decode b7_laysLeaving 6 = .ok (.istore_n 1, 1) := by decide +kernel
theorem d7_laysLeaving_7 : decode b7_laysLeaving 7 = .ok (.iload_n 1, 1) := by decide +kernel
theorem d7_laysLeaving_8 : decode b7_laysLeaving 8 = .ok (.bipush 10, 2) := by decide +kernel
theorem d7_laysLeaving_10 : decode b7_laysLeaving 10 = .ok (.if_icmp .ge 89, 3) := by decide +kernel
theorem d7_laysLeaving_99 : decode b7_laysLeaving 99 = .ok (.return_, 1) := by decide +kernel
theorem d7_laysLeaving_13 : decode b7_laysLeaving 13 = .ok (.aload_n 0, 1) := by decide +kernel
theorem d7_laysLeaving_14 : decode b7_laysLeaving 14 = .ok (.getfield 257, 3) := by decide +kernel
theorem d7_laysLeaving_17 : decode b7_laysLeaving 17 = .ok (.iload_n 1, 1) := by decide +kernel
theorem d7_laysLeaving_18 : decode b7_laysLeaving 18 = .ok (.invokestatic 168, 3) := by decide +kernel
theorem d7_laysLeaving_21 : decode b7_laysLeaving 21 = .ok (.ifCond .ne 6, 3) := by decide +kernel
theorem d7_laysLeaving_27 : decode b7_laysLeaving 27 = .ok (.aload_n 0, 1) := by decide +kernel
theorem d7_laysLeaving_28 : decode b7_laysLeaving 28 = .ok (.getfield 310, 3) := by decide +kernel
theorem d7_laysLeaving_31 : decode b7_laysLeaving 31 = .ok (.istore_n 2, 1) := by decide +kernel
theorem d7_laysLeaving_24 : decode b7_laysLeaving 24 = .ok (.goto 69, 3) := by decide +kernel
theorem d7_laysLeaving_93 : decode b7_laysLeaving 93 = .ok (.iinc 1 1, 3) := by decide +kernel
theorem d7_laysLeaving_96 : decode b7_laysLeaving 96 = .ok (.goto (-89), 3) := by decide +kernel
theorem d7_laysLeaving_32 : decode b7_laysLeaving 32 = .ok (.iload_n 2, 1) := by decide +kernel
theorem d7_laysLeaving_33 : decode b7_laysLeaving 33 = .ok (.ifCond .le 43, 3) := by decide +kernel
theorem d7_laysLeaving_36 : decode b7_laysLeaving 36 = .ok (.aload_n 0, 1) := by decide +kernel
theorem d7_laysLeaving_37 : decode b7_laysLeaving 37 = .ok (.aload_n 0, 1) := by decide +kernel
theorem d7_laysLeaving_38 : decode b7_laysLeaving 38 = .ok (.getfield 70, 3) := by decide +kernel
theorem d7_laysLeaving_41 : decode b7_laysLeaving 41 = .ok (.iload_n 2, 1) := by decide +kernel
theorem d7_laysLeaving_42 : decode b7_laysLeaving 42 = .ok (.iconst 1, 1) := by decide +kernel
theorem d7_laysLeaving_43 : decode b7_laysLeaving 43 = .ok (.isub, 1) := by decide +kernel
theorem d7_laysLeaving_44 : decode b7_laysLeaving 44 = .ok (.iaload, 1) := by decide +kernel
theorem d7_laysLeaving_45 : decode b7_laysLeaving 45 = .ok (.invokevirtual 313, 3) := by decide +kernel
theorem d7_laysLeaving_48 : decode b7_laysLeaving 48 = .ok (.aload_n 0, 1) := by decide +kernel
theorem d7_laysLeaving_49 : decode b7_laysLeaving 49 = .ok (.iload_n 1, 1) := by decide +kernel
theorem d7_laysLeaving_50 : decode b7_laysLeaving 50 = .ok (.invokevirtual 313, 3) := by decide +kernel
theorem d7_laysLeaving_53 : decode b7_laysLeaving 53 = .ok (.if_icmp .le 23, 3) := by decide +kernel
theorem d7_laysLeaving_56 : decode b7_laysLeaving 56 = .ok (.aload_n 0, 1) := by decide +kernel
theorem d7_laysLeaving_57 : decode b7_laysLeaving 57 = .ok (.getfield 70, 3) := by decide +kernel
theorem d7_laysLeaving_60 : decode b7_laysLeaving 60 = .ok (.iload_n 2, 1) := by decide +kernel
theorem d7_laysLeaving_61 : decode b7_laysLeaving 61 = .ok (.aload_n 0, 1) := by decide +kernel
theorem d7_laysLeaving_62 : decode b7_laysLeaving 62 = .ok (.getfield 70, 3) := by decide +kernel
theorem d7_laysLeaving_65 : decode b7_laysLeaving 65 = .ok (.iload_n 2, 1) := by decide +kernel
theorem d7_laysLeaving_66 : decode b7_laysLeaving 66 = .ok (.iconst 1, 1) := by decide +kernel
theorem d7_laysLeaving_67 : decode b7_laysLeaving 67 = .ok (.isub, 1) := by decide +kernel
theorem d7_laysLeaving_68 : decode b7_laysLeaving 68 = .ok (.iaload, 1) := by decide +kernel
theorem d7_laysLeaving_69 : decode b7_laysLeaving 69 = .ok (.iastore, 1) := by decide +kernel
theorem d7_laysLeaving_70 : decode b7_laysLeaving 70 = .ok (.iinc 2 (-1), 3) := by decide +kernel
theorem d7_laysLeaving_73 : decode b7_laysLeaving 73 = .ok (.goto (-41), 3) := by decide +kernel
theorem d7_laysLeaving_76 : decode b7_laysLeaving 76 = .ok (.aload_n 0, 1) := by decide +kernel
theorem d7_laysLeaving_77 : decode b7_laysLeaving 77 = .ok (.getfield 70, 3) := by decide +kernel
theorem d7_laysLeaving_80 : decode b7_laysLeaving 80 = .ok (.iload_n 2, 1) := by decide +kernel
theorem d7_laysLeaving_81 : decode b7_laysLeaving 81 = .ok (.iload_n 1, 1) := by decide +kernel
theorem d7_laysLeaving_82 : decode b7_laysLeaving 82 = .ok (.iastore, 1) := by decide +kernel
theorem d7_laysLeaving_83 : decode b7_laysLeaving 83 = .ok (.aload_n 0, 1) := by decide +kernel
theorem d7_laysLeaving_84 : decode b7_laysLeaving 84 = .ok (.dup, 1) := by decide +kernel
theorem d7_laysLeaving_85 : decode b7_laysLeaving 85 = .ok (.getfield 310, 3) := by decide +kernel
theorem d7_laysLeaving_88 : decode b7_laysLeaving 88 = .ok (.iconst 1, 1) := by decide +kernel
theorem d7_laysLeaving_89 : decode b7_laysLeaving 89 = .ok (.iadd, 1) := by decide +kernel
theorem d7_laysLeaving_90 : decode b7_laysLeaving 90 = .ok (.putfield 310, 3) := by decide +kernel
theorem d7_placeOf_0 : decode b7_placeOf 0 = .ok (.iconst 0, 1) := by decide +kernel
theorem d7_placeOf_1 : decode b7_placeOf 1 = .ok (.istore_n 2, 1) := by decide +kernel
theorem d7_placeOf_2 : decode b7_placeOf 2 = .ok (.iload_n 2, 1) := by decide +kernel
theorem d7_placeOf_3 : decode b7_placeOf 3 = .ok (.aload_n 0, 1) := by decide +kernel
theorem d7_placeOf_4 : decode b7_placeOf 4 = .ok (.getfield 310, 3) := by decide +kernel
theorem d7_placeOf_7 : decode b7_placeOf 7 = .ok (.if_icmp .ge 21, 3) := by decide +kernel
theorem d7_placeOf_28 : decode b7_placeOf 28 = .ok (.iconst (-1), 1) := by decide +kernel
theorem d7_placeOf_29 : decode b7_placeOf 29 = .ok (.ireturn, 1) := by decide +kernel
theorem d7_placeOf_10 : decode b7_placeOf 10 = .ok (.aload_n 0, 1) := by decide +kernel
theorem d7_placeOf_11 : decode b7_placeOf 11 = .ok (.getfield 70, 3) := by decide +kernel
theorem d7_placeOf_14 : decode b7_placeOf 14 = .ok (.iload_n 2, 1) := by decide +kernel
theorem d7_placeOf_15 : decode b7_placeOf 15 = .ok (.iaload, 1) := by decide +kernel
theorem d7_placeOf_16 : decode b7_placeOf 16 = .ok (.iload_n 1, 1) := by decide +kernel
theorem d7_placeOf_17 : decode b7_placeOf 17 = .ok (.if_icmp .ne 5, 3) := by decide +kernel
theorem d7_placeOf_22 : decode b7_placeOf 22 = .ok (.iinc 2 1, 3) := by decide +kernel
theorem d7_placeOf_25 : decode b7_placeOf 25 = .ok (.goto (-23), 3) := by decide +kernel
theorem d7_placeOf_20 : decode b7_placeOf 20 = .ok (.iload_n 2, 1) := by decide +kernel
theorem d7_placeOf_21 : decode b7_placeOf 21 = .ok (.ireturn, 1) := by decide +kernel
theorem d7_size_0 : decode b7_size 0 = .ok (.aload_n 0, 1) := by decide +kernel
theorem d7_size_1 : decode b7_size 1 = .ok (.iconst 0, 1) := by decide +kernel
theorem d7_size_2 : decode b7_size 2 = .ok (.putfield 79, 3) := by decide +kernel
theorem d7_size_5 : decode b7_size 5 = .ok (.aload_n 0, 1) := by decide +kernel
theorem d7_size_6 : decode b7_size 6 = .ok (.iload_n 1, 1) := by decide +kernel
theorem d7_size_7 : decode b7_size 7 = .ok (.iconst 0, 1) := by decide +kernel
theorem d7_size_8 : decode b7_size 8 = .ok (.iconst 5, 1) := by decide +kernel
theorem d7_size_9 : decode b7_size 9 = .ok (.invokestatic 85, 3) := by decide +kernel
theorem d7_size_12 : decode b7_size 12 = .ok (.ifCond .ne 7, 3) := by decide +kernel
theorem d7_size_19 : decode b7_size 19 = .ok (.iconst 0, 1) := by decide +kernel
theorem d7_size_15 : decode b7_size 15 = .ok (.iconst 1, 1) := by decide +kernel
theorem d7_size_16 : decode b7_size 16 = .ok (.goto 4, 3) := by decide +kernel
theorem d7_size_20 : decode b7_size 20 = .ok (.iconst 1, 1) := by decide +kernel
theorem d7_size_21 : decode b7_size 21 = .ok (.invokevirtual 89, 3) := by decide +kernel
theorem d7_size_24 : decode b7_size 24 = .ok (.ifCond .eq 5, 3) := by decide +kernel
theorem d7_size_29 : decode b7_size 29 = .ok (.iload_n 1, 1) := by decide +kernel
theorem d7_size_30 : decode b7_size 30 = .ok (.tableswitch 68 0 4 #[34, 42, 49, 56, 63], 34) := by decide +kernel
theorem d7_size_64 : decode b7_size 64 = .ok (.aload_n 0, 1) := by decide +kernel
theorem d7_size_65 : decode b7_size 65 = .ok (.getfield 32, 3) := by decide +kernel
theorem d7_size_68 : decode b7_size 68 = .ok (.getfield 82, 3) := by decide +kernel
theorem d7_size_71 : decode b7_size 71 = .ok (.ireturn, 1) := by decide +kernel
theorem d7_size_72 : decode b7_size 72 = .ok (.aload_n 0, 1) := by decide +kernel
theorem d7_size_73 : decode b7_size 73 = .ok (.getfield 7, 3) := by decide +kernel
theorem d7_size_76 : decode b7_size 76 = .ok (.iconst 0, 1) := by decide +kernel
theorem d7_size_77 : decode b7_size 77 = .ok (.iaload, 1) := by decide +kernel
theorem d7_size_78 : decode b7_size 78 = .ok (.ireturn, 1) := by decide +kernel
theorem d7_size_79 : decode b7_size 79 = .ok (.aload_n 0, 1) := by decide +kernel
theorem d7_size_80 : decode b7_size 80 = .ok (.getfield 7, 3) := by decide +kernel
theorem d7_size_83 : decode b7_size 83 = .ok (.iconst 2, 1) := by decide +kernel
theorem d7_size_84 : decode b7_size 84 = .ok (.iaload, 1) := by decide +kernel
theorem d7_size_85 : decode b7_size 85 = .ok (.ireturn, 1) := by decide +kernel
theorem d7_size_86 : decode b7_size 86 = .ok (.aload_n 0, 1) := by decide +kernel
theorem d7_size_87 : decode b7_size 87 = .ok (.getfield 7, 3) := by decide +kernel
theorem d7_size_90 : decode b7_size 90 = .ok (.iconst 1, 1) := by decide +kernel
theorem d7_size_91 : decode b7_size 91 = .ok (.iaload, 1) := by decide +kernel
theorem d7_size_92 : decode b7_size 92 = .ok (.ireturn, 1) := by decide +kernel
theorem d7_size_93 : decode b7_size 93 = .ok (.aload_n 0, 1) := by decide +kernel
theorem d7_size_94 : decode b7_size 94 = .ok (.getfield 93, 3) := by decide +kernel
theorem d7_size_97 : decode b7_size 97 = .ok (.ireturn, 1) := by decide +kernel
theorem d7_size_98 : decode b7_size 98 = .ok (.aload_n 0, 1) := by decide +kernel
theorem d7_size_99 : decode b7_size 99 = .ok (.getfield 246, 3) := by decide +kernel
theorem d7_size_102 : decode b7_size 102 = .ok (.ireturn, 1) := by decide +kernel
theorem d7_size_27 : decode b7_size 27 = .ok (.iconst 0, 1) := by decide +kernel
theorem d7_size_28 : decode b7_size 28 = .ok (.ireturn, 1) := by decide +kernel
theorem d7_fieldsOf_0 : decode b7_fieldsOf 0 = .ok (.iconst 0, 1) := by decide +kernel
theorem d7_fieldsOf_1 : decode b7_fieldsOf 1 = .ok (.istore_n 2, 1) := by decide +kernel
theorem d7_fieldsOf_2 : decode b7_fieldsOf 2 = .ok (.iconst 0, 1) := by decide +kernel
theorem d7_fieldsOf_3 : decode b7_fieldsOf 3 = .ok (.istore_n 3, 1) := by decide +kernel
theorem d7_fieldsOf_4 : decode b7_fieldsOf 4 = .ok (.iload_n 3, 1) := by decide +kernel
theorem d7_fieldsOf_5 : decode b7_fieldsOf 5 = .ok (.aload_n 0, 1) := by decide +kernel
theorem d7_fieldsOf_6 : decode b7_fieldsOf 6 = .ok (.getfield 32, 3) := by decide +kernel
theorem d7_fieldsOf_9 : decode b7_fieldsOf 9 = .ok (.getfield 171, 3) := by decide +kernel
theorem d7_fieldsOf_12 : decode b7_fieldsOf 12 = .ok (.iload_n 1, 1) := by decide +kernel
theorem d7_fieldsOf_13 : decode b7_fieldsOf 13 = .ok (.iaload, 1) := by decide +kernel
theorem d7_fieldsOf_14 : decode b7_fieldsOf 14 = .ok (.if_icmp .ge 28, 3) := by decide +kernel
theorem d7_fieldsOf_42 : decode b7_fieldsOf 42 = .ok (.iload_n 2, 1) := by decide +kernel
theorem d7_fieldsOf_43 : decode b7_fieldsOf 43 = .ok (.ireturn, 1) := by decide +kernel
theorem d7_fieldsOf_17 : decode b7_fieldsOf 17 = .ok (.iload_n 2, 1) := by decide +kernel
theorem d7_fieldsOf_18 : decode b7_fieldsOf 18 = .ok (.iconst 1, 1) := by decide +kernel
theorem d7_fieldsOf_19 : decode b7_fieldsOf 19 = .ok (.aload_n 0, 1) := by decide +kernel
theorem d7_fieldsOf_20 : decode b7_fieldsOf 20 = .ok (.getfield 32, 3) := by decide +kernel
theorem d7_fieldsOf_23 : decode b7_fieldsOf 23 = .ok (.getfield 162, 3) := by decide +kernel
theorem d7_fieldsOf_26 : decode b7_fieldsOf 26 = .ok (.bipush 60, 2) := by decide +kernel
theorem d7_fieldsOf_28 : decode b7_fieldsOf 28 = .ok (.iload_n 1, 1) := by decide +kernel
theorem d7_fieldsOf_29 : decode b7_fieldsOf 29 = .ok (.imul, 1) := by decide +kernel
theorem d7_fieldsOf_30 : decode b7_fieldsOf 30 = .ok (.iload_n 3, 1) := by decide +kernel
theorem d7_fieldsOf_31 : decode b7_fieldsOf 31 = .ok (.iadd, 1) := by decide +kernel
theorem d7_fieldsOf_32 : decode b7_fieldsOf 32 = .ok (.iaload, 1) := by decide +kernel
theorem d7_fieldsOf_33 : decode b7_fieldsOf 33 = .ok (.ishl, 1) := by decide +kernel
theorem d7_fieldsOf_34 : decode b7_fieldsOf 34 = .ok (.ior, 1) := by decide +kernel
theorem d7_fieldsOf_35 : decode b7_fieldsOf 35 = .ok (.istore_n 2, 1) := by decide +kernel
theorem d7_fieldsOf_36 : decode b7_fieldsOf 36 = .ok (.iinc 3 1, 3) := by decide +kernel
theorem d7_fieldsOf_39 : decode b7_fieldsOf 39 = .ok (.goto (-35), 3) := by decide +kernel
theorem d7_deepest_0 : decode b7_deepest 0 = .ok (.iconst 0, 1) := by decide +kernel
theorem d7_deepest_1 : decode b7_deepest 1 = .ok (.istore_n 2, 1) := by decide +kernel
theorem d7_deepest_2 : decode b7_deepest 2 = .ok (.iconst 0, 1) := by decide +kernel
theorem d7_deepest_3 : decode b7_deepest 3 = .ok (.istore_n 3, 1) := by decide +kernel
theorem d7_deepest_4 : decode b7_deepest 4 = .ok (.iload_n 3, 1) := by decide +kernel
theorem d7_deepest_5 : decode b7_deepest 5 = .ok (.aload_n 0, 1) := by decide +kernel
theorem d7_deepest_6 : decode b7_deepest 6 = .ok (.getfield 32, 3) := by decide +kernel
theorem d7_deepest_9 : decode b7_deepest 9 = .ok (.getfield 171, 3) := by decide +kernel
theorem d7_deepest_12 : decode b7_deepest 12 = .ok (.iload_n 1, 1) := by decide +kernel
theorem d7_deepest_13 : decode b7_deepest 13 = .ok (.iaload, 1) := by decide +kernel
theorem d7_deepest_14 : decode b7_deepest 14 = .ok (.if_icmp .ge 28, 3) := by decide +kernel
theorem d7_deepest_42 : decode b7_deepest 42 = .ok (.iload_n 2, 1) := by decide +kernel
theorem d7_deepest_43 : decode b7_deepest 43 = .ok (.ireturn, 1) := by decide +kernel
theorem d7_deepest_17 : decode b7_deepest 17 = .ok (.iload_n 2, 1) := by decide +kernel
theorem d7_deepest_18 : decode b7_deepest 18 = .ok (.aload_n 0, 1) := by decide +kernel
theorem d7_deepest_19 : decode b7_deepest 19 = .ok (.getfield 32, 3) := by decide +kernel
theorem d7_deepest_22 : decode b7_deepest 22 = .ok (.getfield 192, 3) := by decide +kernel
theorem d7_deepest_25 : decode b7_deepest 25 = .ok (.bipush 60, 2) := by decide +kernel
theorem d7_deepest_27 : decode b7_deepest 27 = .ok (.iload_n 1, 1) := by decide +kernel
theorem d7_deepest_28 : decode b7_deepest 28 = .ok (.imul, 1) := by decide +kernel
theorem d7_deepest_29 : decode b7_deepest 29 = .ok (.iload_n 3, 1) := by decide +kernel
theorem d7_deepest_30 : decode b7_deepest 30 = .ok (.iadd, 1) := by decide +kernel
theorem d7_deepest_31 : decode b7_deepest 31 = .ok (.iaload, 1) := by decide +kernel
theorem d7_deepest_32 : decode b7_deepest 32 = .ok (.invokestatic 316, 3) := by decide +kernel
theorem d7_deepest_35 : decode b7_deepest 35 = .ok (.istore_n 2, 1) := by decide +kernel
theorem d7_deepest_36 : decode b7_deepest 36 = .ok (.iinc 3 1, 3) := by decide +kernel
theorem d7_deepest_39 : decode b7_deepest 39 = .ok (.goto (-35), 3) := by decide +kernel
theorem d7_defaults_0 : decode b7_defaults 0 = .ok (.iconst 0, 1) := by decide +kernel
theorem d7_defaults_1 : decode b7_defaults 1 = .ok (.istore_n 2, 1) := by decide +kernel
theorem d7_defaults_2 : decode b7_defaults 2 = .ok (.iconst 0, 1) := by decide +kernel
theorem d7_defaults_3 : decode b7_defaults 3 = .ok (.istore_n 3, 1) := by decide +kernel
theorem d7_defaults_4 : decode b7_defaults 4 = .ok (.iload_n 3, 1) := by decide +kernel
theorem d7_defaults_5 : decode b7_defaults 5 = .ok (.aload_n 0, 1) := by decide +kernel
theorem d7_defaults_6 : decode b7_defaults 6 = .ok (.getfield 32, 3) := by decide +kernel
theorem d7_defaults_9 : decode b7_defaults 9 = .ok (.getfield 171, 3) := by decide +kernel
theorem d7_defaults_12 : decode b7_defaults 12 = .ok (.iload_n 1, 1) := by decide +kernel
theorem d7_defaults_13 : decode b7_defaults 13 = .ok (.iaload, 1) := by decide +kernel
theorem d7_defaults_14 : decode b7_defaults 14 = .ok (.if_icmp .ge 34, 3) := by decide +kernel
theorem d7_defaults_48 : decode b7_defaults 48 = .ok (.iload_n 2, 1) := by decide +kernel
theorem d7_defaults_49 : decode b7_defaults 49 = .ok (.ireturn, 1) := by decide +kernel
theorem d7_defaults_17 : decode b7_defaults 17 = .ok (.iload_n 2, 1) := by decide +kernel
theorem d7_defaults_18 : decode b7_defaults 18 = .ok (.aload_n 0, 1) := by decide +kernel
theorem d7_defaults_19 : decode b7_defaults 19 = .ok (.getfield 32, 3) := by decide +kernel
theorem d7_defaults_22 : decode b7_defaults 22 = .ok (.getfield 180, 3) := by decide +kernel
theorem d7_defaults_25 : decode b7_defaults 25 = .ok (.bipush 60, 2) := by decide +kernel
theorem d7_defaults_27 : decode b7_defaults 27 = .ok (.iload_n 1, 1) := by decide +kernel
theorem d7_defaults_28 : decode b7_defaults 28 = .ok (.imul, 1) := by decide +kernel
theorem d7_defaults_29 : decode b7_defaults 29 = .ok (.iload_n 3, 1) := by decide +kernel
theorem d7_defaults_30 : decode b7_defaults 30 = .ok (.iadd, 1) := by decide +kernel
theorem d7_defaults_31 : decode b7_defaults 31 = .ok (.baload, 1) := by decide +kernel
theorem d7_defaults_32 : decode b7_defaults 32 = .ok (.ifCond .eq 7, 3) := by decide +kernel
theorem d7_defaults_39 : decode b7_defaults 39 = .ok (.iconst 0, 1) := by decide +kernel
theorem d7_defaults_40 : decode b7_defaults 40 = .ok (.iadd, 1) := by decide +kernel
theorem d7_defaults_41 : decode b7_defaults 41 = .ok (.istore_n 2, 1) := by decide +kernel
theorem d7_defaults_42 : decode b7_defaults 42 = .ok (.iinc 3 1, 3) := by decide +kernel
theorem d7_defaults_45 : decode b7_defaults 45 = .ok (.goto (-41), 3) := by decide +kernel
theorem d7_defaults_35 : decode b7_defaults 35 = .ok (.iconst 1, 1) := by decide +kernel
theorem d7_defaults_36 : decode b7_defaults 36 = .ok (.goto 4, 3) := by decide +kernel
theorem d7_snippet_0 : decode b7_snippet 0 = .ok (.aload_n 0, 1) := by decide +kernel
theorem d7_snippet_1 : decode b7_snippet 1 = .ok (.iconst 0, 1) := by decide +kernel
theorem d7_snippet_2 : decode b7_snippet 2 = .ok (.putfield 79, 3) := by decide +kernel
theorem d7_snippet_5 : decode b7_snippet 5 = .ok (.aload_n 0, 1) := by decide +kernel
theorem d7_snippet_6 : decode b7_snippet 6 = .ok (.iload_n 1, 1) := by decide +kernel
theorem d7_snippet_7 : decode b7_snippet 7 = .ok (.invokevirtual 321, 3) := by decide +kernel
theorem d7_snippet_10 : decode b7_snippet 10 = .ok (.ifCond .ne 25, 3) := by decide +kernel
theorem d7_snippet_35 : decode b7_snippet 35 = .ok (.iconst 0, 1) := by decide +kernel
theorem d7_snippet_36 : decode b7_snippet 36 = .ok (.ireturn, 1) := by decide +kernel
theorem d7_snippet_13 : decode b7_snippet 13 = .ok (.aload_n 0, 1) := by decide +kernel
theorem d7_snippet_14 : decode b7_snippet 14 = .ok (.iload_n 2, 1) := by decide +kernel
theorem d7_snippet_15 : decode b7_snippet 15 = .ok (.iconst 0, 1) := by decide +kernel
theorem d7_snippet_16 : decode b7_snippet 16 = .ok (.iconst 5, 1) := by decide +kernel
theorem d7_snippet_17 : decode b7_snippet 17 = .ok (.invokestatic 85, 3) := by decide +kernel
theorem d7_snippet_20 : decode b7_snippet 20 = .ok (.ifCond .ne 7, 3) := by decide +kernel
theorem d7_snippet_27 : decode b7_snippet 27 = .ok (.iconst 0, 1) := by decide +kernel
theorem d7_snippet_23 : decode b7_snippet 23 = .ok (.iconst 1, 1) := by decide +kernel
theorem d7_snippet_24 : decode b7_snippet 24 = .ok (.goto 4, 3) := by decide +kernel
theorem d7_snippet_28 : decode b7_snippet 28 = .ok (.iconst 2, 1) := by decide +kernel
theorem d7_snippet_29 : decode b7_snippet 29 = .ok (.invokevirtual 89, 3) := by decide +kernel
theorem d7_snippet_32 : decode b7_snippet 32 = .ok (.ifCond .eq 5, 3) := by decide +kernel
theorem d7_snippet_37 : decode b7_snippet 37 = .ok (.iload_n 2, 1) := by decide +kernel
theorem d7_snippet_38 : decode b7_snippet 38 = .ok (.tableswitch 72 0 4 #[34, 44, 54, 60, 66], 34) := by decide +kernel
theorem d7_snippet_72 : decode b7_snippet 72 = .ok (.aload_n 0, 1) := by decide +kernel
theorem d7_snippet_73 : decode b7_snippet 73 = .ok (.getfield 32, 3) := by decide +kernel
theorem d7_snippet_76 : decode b7_snippet 76 = .ok (.getfield 136, 3) := by decide +kernel
theorem d7_snippet_79 : decode b7_snippet 79 = .ok (.iload_n 1, 1) := by decide +kernel
theorem d7_snippet_80 : decode b7_snippet 80 = .ok (.iaload, 1) := by decide +kernel
theorem d7_snippet_81 : decode b7_snippet 81 = .ok (.ireturn, 1) := by decide +kernel
theorem d7_snippet_82 : decode b7_snippet 82 = .ok (.aload_n 0, 1) := by decide +kernel
theorem d7_snippet_83 : decode b7_snippet 83 = .ok (.getfield 32, 3) := by decide +kernel
theorem d7_snippet_86 : decode b7_snippet 86 = .ok (.getfield 171, 3) := by decide +kernel
theorem d7_snippet_89 : decode b7_snippet 89 = .ok (.iload_n 1, 1) := by decide +kernel
theorem d7_snippet_90 : decode b7_snippet 90 = .ok (.iaload, 1) := by decide +kernel
theorem d7_snippet_91 : decode b7_snippet 91 = .ok (.ireturn, 1) := by decide +kernel
theorem d7_snippet_92 : decode b7_snippet 92 = .ok (.aload_n 0, 1) := by decide +kernel
theorem d7_snippet_93 : decode b7_snippet 93 = .ok (.iload_n 1, 1) := by decide +kernel
theorem d7_snippet_94 : decode b7_snippet 94 = .ok (.invokevirtual 324, 3) := by decide +kernel
theorem d7_snippet_97 : decode b7_snippet 97 = .ok (.ireturn, 1) := by decide +kernel
theorem d7_snippet_98 : decode b7_snippet 98 = .ok (.aload_n 0, 1) := by decide +kernel
theorem d7_snippet_99 : decode b7_snippet 99 = .ok (.iload_n 1, 1) := by decide +kernel
theorem d7_snippet_100 : decode b7_snippet 100 = .ok (.invokevirtual 327, 3) := by decide +kernel
theorem d7_snippet_103 : decode b7_snippet 103 = .ok (.ireturn, 1) := by decide +kernel
theorem d7_snippet_104 : decode b7_snippet 104 = .ok (.aload_n 0, 1) := by decide +kernel
theorem d7_snippet_105 : decode b7_snippet 105 = .ok (.iload_n 1, 1) := by decide +kernel
theorem d7_snippet_106 : decode b7_snippet 106 = .ok (.invokevirtual 330, 3) := by decide +kernel
theorem d7_snippet_109 : decode b7_snippet 109 = .ok (.ireturn, 1) := by decide +kernel
theorem d7_snippet_110 : decode b7_snippet 110 = .ok (.aload_n 0, 1) := by decide +kernel
theorem d7_snippet_111 : decode b7_snippet 111 = .ok (.getfield 32, 3) := by decide +kernel
theorem d7_snippet_114 : decode b7_snippet 114 = .ok (.getfield 217, 3) := by decide +kernel
theorem d7_snippet_117 : decode b7_snippet 117 = .ok (.iload_n 1, 1) := by decide +kernel
theorem d7_snippet_118 : decode b7_snippet 118 = .ok (.iconst 1, 1) := by decide +kernel
theorem d7_snippet_119 : decode b7_snippet 119 = .ok (.iadd, 1) := by decide +kernel
theorem d7_snippet_120 : decode b7_snippet 120 = .ok (.iaload, 1) := by decide +kernel
theorem d7_snippet_121 : decode b7_snippet 121 = .ok (.aload_n 0, 1) := by decide +kernel
theorem d7_snippet_122 : decode b7_snippet 122 = .ok (.getfield 32, 3) := by decide +kernel
theorem d7_snippet_125 : decode b7_snippet 125 = .ok (.getfield 217, 3) := by decide +kernel
theorem d7_snippet_128 : decode b7_snippet 128 = .ok (.iload_n 1, 1) := by decide +kernel
theorem d7_snippet_129 : decode b7_snippet 129 = .ok (.iaload, 1) := by decide +kernel
theorem d7_snippet_130 : decode b7_snippet 130 = .ok (.isub, 1) := by decide +kernel
theorem d7_snippet_131 : decode b7_snippet 131 = .ok (.aload_n 0, 1) := by decide +kernel
theorem d7_snippet_132 : decode b7_snippet 132 = .ok (.getfield 32, 3) := by decide +kernel
theorem d7_snippet_135 : decode b7_snippet 135 = .ok (.getfield 171, 3) := by decide +kernel
theorem d7_snippet_138 : decode b7_snippet 138 = .ok (.iload_n 1, 1) := by decide +kernel
theorem d7_snippet_139 : decode b7_snippet 139 = .ok (.iaload, 1) := by decide +kernel
theorem d7_snippet_140 : decode b7_snippet 140 = .ok (.isub, 1) := by decide +kernel
theorem d7_snippet_141 : decode b7_snippet 141 = .ok (.aload_n 0, 1) := by decide +kernel
theorem d7_snippet_142 : decode b7_snippet 142 = .ok (.iload_n 1, 1) := by decide +kernel
theorem d7_snippet_143 : decode b7_snippet 143 = .ok (.invokevirtual 330, 3) := by decide +kernel
theorem d7_snippet_146 : decode b7_snippet 146 = .ok (.isub, 1) := by decide +kernel
theorem d7_snippet_147 : decode b7_snippet 147 = .ok (.ireturn, 1) := by decide +kernel
theorem d7_letter_0 : decode b7_letter 0 = .ok (.aload_n 0, 1) := by decide +kernel
theorem d7_letter_1 : decode b7_letter 1 = .ok (.iconst 0, 1) := by decide +kernel
theorem d7_letter_2 : decode b7_letter 2 = .ok (.putfield 79, 3) := by decide +kernel
theorem d7_letter_5 : decode b7_letter 5 = .ok (.aload_n 0, 1) := by decide +kernel
theorem d7_letter_6 : decode b7_letter 6 = .ok (.iload_n 1, 1) := by decide +kernel
theorem d7_letter_7 : decode b7_letter 7 = .ok (.invokevirtual 321, 3) := by decide +kernel
theorem d7_letter_10 : decode b7_letter 10 = .ok (.ifCond .eq 5, 3) := by decide +kernel
theorem d7_letter_15 : decode b7_letter 15 = .ok (.iload_n 2, 1) := by decide +kernel
theorem d7_letter_16 : decode b7_letter 16 = .ok (.iconst 0, 1) := by decide +kernel
theorem d7_letter_17 : decode b7_letter 17 = .ok (.aload_n 0, 1) := by decide +kernel
theorem d7_letter_18 : decode b7_letter 18 = .ok (.getfield 32, 3) := by decide +kernel
theorem d7_letter_21 : decode b7_letter 21 = .ok (.getfield 136, 3) := by decide +kernel
theorem d7_letter_24 : decode b7_letter 24 = .ok (.iload_n 1, 1) := by decide +kernel
theorem d7_letter_25 : decode b7_letter 25 = .ok (.iaload, 1) := by decide +kernel
theorem d7_letter_26 : decode b7_letter 26 = .ok (.iconst 1, 1) := by decide +kernel
theorem d7_letter_27 : decode b7_letter 27 = .ok (.isub, 1) := by decide +kernel
theorem d7_letter_28 : decode b7_letter 28 = .ok (.invokestatic 85, 3) := by decide +kernel
theorem d7_letter_31 : decode b7_letter 31 = .ok (.ifCond .eq 20, 3) := by decide +kernel
theorem d7_letter_51 : decode b7_letter 51 = .ok (.iconst (-1), 1) := by decide +kernel
theorem d7_letter_52 : decode b7_letter 52 = .ok (.ireturn, 1) := by decide +kernel
theorem d7_letter_34 : decode b7_letter 34 = .ok (.aload_n 0, 1) := by decide +kernel
theorem d7_letter_35 : decode b7_letter 35 = .ok (.getfield 32, 3) := by decide +kernel
theorem d7_letter_38 : decode b7_letter 38 = .ok (.getfield 139, 3) := by decide +kernel
theorem d7_letter_41 : decode b7_letter 41 = .ok (.bipush 8, 2) := by decide +kernel
theorem d7_letter_43 : decode b7_letter 43 = .ok (.iload_n 1, 1) := by decide +kernel
theorem d7_letter_44 : decode b7_letter 44 = .ok (.imul, 1) := by decide +kernel
theorem d7_letter_45 : decode b7_letter 45 = .ok (.iload_n 2, 1) := by decide +kernel
theorem d7_letter_46 : decode b7_letter 46 = .ok (.iadd, 1) := by decide +kernel
theorem d7_letter_47 : decode b7_letter 47 = .ok (.iaload, 1) := by decide +kernel
theorem d7_letter_48 : decode b7_letter 48 = .ok (.goto 4, 3) := by decide +kernel
theorem d7_letter_13 : decode b7_letter 13 = .ok (.iconst 0, 1) := by decide +kernel
theorem d7_letter_14 : decode b7_letter 14 = .ok (.ireturn, 1) := by decide +kernel
theorem d7_depends_0 : decode b7_depends 0 = .ok (.aload_n 0, 1) := by decide +kernel
theorem d7_depends_1 : decode b7_depends 1 = .ok (.iconst 0, 1) := by decide +kernel
theorem d7_depends_2 : decode b7_depends 2 = .ok (.putfield 79, 3) := by decide +kernel
theorem d7_depends_5 : decode b7_depends 5 = .ok (.aload_n 0, 1) := by decide +kernel
theorem d7_depends_6 : decode b7_depends 6 = .ok (.iload_n 1, 1) := by decide +kernel
theorem d7_depends_7 : decode b7_depends 7 = .ok (.invokevirtual 321, 3) := by decide +kernel
theorem d7_depends_10 : decode b7_depends 10 = .ok (.ifCond .ne 23, 3) := by decide +kernel
theorem d7_depends_33 : decode b7_depends 33 = .ok (.iconst 0, 1) := by decide +kernel
theorem d7_depends_34 : decode b7_depends 34 = .ok (.goto 17, 3) := by decide +kernel
theorem d7_depends_51 : decode b7_depends 51 = .ok (.ireturn, 1) := by decide +kernel
theorem d7_depends_13 : decode b7_depends 13 = .ok (.aload_n 0, 1) := by decide +kernel
theorem d7_depends_14 : decode b7_depends 14 = .ok (.iload_n 2, 1) := by decide +kernel
theorem d7_depends_15 : decode b7_depends 15 = .ok (.invokestatic 333, 3) := by decide +kernel
theorem d7_depends_18 : decode b7_depends 18 = .ok (.ifCond .ne 7, 3) := by decide +kernel
theorem d7_depends_25 : decode b7_depends 25 = .ok (.iconst 0, 1) := by decide +kernel
theorem d7_depends_21 : decode b7_depends 21 = .ok (.iconst 1, 1) := by decide +kernel
theorem d7_depends_22 : decode b7_depends 22 = .ok (.goto 4, 3) := by decide +kernel
theorem d7_depends_26 : decode b7_depends 26 = .ok (.iconst 1, 1) := by decide +kernel
theorem d7_depends_27 : decode b7_depends 27 = .ok (.invokevirtual 89, 3) := by decide +kernel
theorem d7_depends_30 : decode b7_depends 30 = .ok (.ifCond .eq 7, 3) := by decide +kernel
theorem d7_depends_37 : decode b7_depends 37 = .ok (.aload_n 0, 1) := by decide +kernel
theorem d7_depends_38 : decode b7_depends 38 = .ok (.getfield 32, 3) := by decide +kernel
theorem d7_depends_41 : decode b7_depends 41 = .ok (.getfield 165, 3) := by decide +kernel
theorem d7_depends_44 : decode b7_depends 44 = .ok (.bipush 10, 2) := by decide +kernel
theorem d7_depends_46 : decode b7_depends 46 = .ok (.iload_n 1, 1) := by decide +kernel
theorem d7_depends_47 : decode b7_depends 47 = .ok (.imul, 1) := by decide +kernel
theorem d7_depends_48 : decode b7_depends 48 = .ok (.iload_n 2, 1) := by decide +kernel
theorem d7_depends_49 : decode b7_depends 49 = .ok (.iadd, 1) := by decide +kernel
theorem d7_depends_50 : decode b7_depends 50 = .ok (.iaload, 1) := by decide +kernel
theorem d7_document_0 : decode b7_document 0 = .ok (.aload_n 0, 1) := by decide +kernel
theorem d7_document_1 : decode b7_document 1 = .ok (.iconst 0, 1) := by decide +kernel
theorem d7_document_2 : decode b7_document 2 = .ok (.putfield 79, 3) := by decide +kernel
theorem d7_document_5 : decode b7_document 5 = .ok (.aload_n 0, 1) := by decide +kernel
theorem d7_document_6 : decode b7_document 6 = .ok (.iload_n 1, 1) := by decide +kernel
theorem d7_document_7 : decode b7_document 7 = .ok (.iconst 0, 1) := by decide +kernel
theorem d7_document_8 : decode b7_document 8 = .ok (.aload_n 0, 1) := by decide +kernel
theorem d7_document_9 : decode b7_document 9 = .ok (.getfield 7, 3) := by decide +kernel
theorem d7_document_12 : decode b7_document 12 = .ok (.iconst 2, 1) := by decide +kernel
theorem d7_document_13 : decode b7_document 13 = .ok (.iaload, 1) := by decide +kernel
theorem d7_document_14 : decode b7_document 14 = .ok (.iconst 1, 1) := by decide +kernel
theorem d7_document_15 : decode b7_document 15 = .ok (.isub, 1) := by decide +kernel
theorem d7_document_16 : decode b7_document 16 = .ok (.invokestatic 85, 3) := by decide +kernel
theorem d7_document_19 : decode b7_document 19 = .ok (.ifCond .ne 7, 3) := by decide +kernel
theorem d7_document_26 : decode b7_document 26 = .ok (.iconst 0, 1) := by decide +kernel
theorem d7_document_22 : decode b7_document 22 = .ok (.iconst 1, 1) := by decide +kernel
theorem d7_document_23 : decode b7_document 23 = .ok (.goto 4, 3) := by decide +kernel
theorem d7_document_27 : decode b7_document 27 = .ok (.iconst 1, 1) := by decide +kernel
theorem d7_document_28 : decode b7_document 28 = .ok (.invokevirtual 89, 3) := by decide +kernel
theorem d7_document_31 : decode b7_document 31 = .ok (.ifCond .eq 7, 3) := by decide +kernel
theorem d7_document_38 : decode b7_document 38 = .ok (.aload_n 0, 1) := by decide +kernel
theorem d7_document_39 : decode b7_document 39 = .ok (.getfield 7, 3) := by decide +kernel
theorem d7_document_42 : decode b7_document 42 = .ok (.iconst 4, 1) := by decide +kernel
theorem d7_document_43 : decode b7_document 43 = .ok (.iload_n 1, 1) := by decide +kernel
theorem d7_document_44 : decode b7_document 44 = .ok (.iadd, 1) := by decide +kernel
theorem d7_document_45 : decode b7_document 45 = .ok (.iaload, 1) := by decide +kernel
theorem d7_document_46 : decode b7_document 46 = .ok (.ireturn, 1) := by decide +kernel
theorem d7_document_34 : decode b7_document 34 = .ok (.iconst 0, 1) := by decide +kernel
theorem d7_document_35 : decode b7_document 35 = .ok (.goto 11, 3) := by decide +kernel
theorem d7_session_0 : decode b7_session 0 = .ok (.aload_n 0, 1) := by decide +kernel
theorem d7_session_1 : decode b7_session 1 = .ok (.iconst 0, 1) := by decide +kernel
theorem d7_session_2 : decode b7_session 2 = .ok (.putfield 79, 3) := by decide +kernel
theorem d7_session_5 : decode b7_session 5 = .ok (.aload_n 0, 1) := by decide +kernel
theorem d7_session_6 : decode b7_session 6 = .ok (.iload_n 1, 1) := by decide +kernel
theorem d7_session_7 : decode b7_session 7 = .ok (.iconst 0, 1) := by decide +kernel
theorem d7_session_8 : decode b7_session 8 = .ok (.aload_n 0, 1) := by decide +kernel
theorem d7_session_9 : decode b7_session 9 = .ok (.getfield 7, 3) := by decide +kernel
theorem d7_session_12 : decode b7_session 12 = .ok (.iconst 0, 1) := by decide +kernel
theorem d7_session_13 : decode b7_session 13 = .ok (.iaload, 1) := by decide +kernel
theorem d7_session_14 : decode b7_session 14 = .ok (.iconst 1, 1) := by decide +kernel
theorem d7_session_15 : decode b7_session 15 = .ok (.isub, 1) := by decide +kernel
theorem d7_session_16 : decode b7_session 16 = .ok (.invokestatic 85, 3) := by decide +kernel
theorem d7_session_19 : decode b7_session 19 = .ok (.ifCond .ne 7, 3) := by decide +kernel
theorem d7_session_26 : decode b7_session 26 = .ok (.iconst 0, 1) := by decide +kernel
theorem d7_session_22 : decode b7_session 22 = .ok (.iconst 1, 1) := by decide +kernel
theorem d7_session_23 : decode b7_session 23 = .ok (.goto 4, 3) := by decide +kernel
theorem d7_session_27 : decode b7_session 27 = .ok (.iconst 1, 1) := by decide +kernel
theorem d7_session_28 : decode b7_session 28 = .ok (.invokevirtual 89, 3) := by decide +kernel
theorem d7_session_31 : decode b7_session 31 = .ok (.ifCond .ne 25, 3) := by decide +kernel
theorem d7_session_56 : decode b7_session 56 = .ok (.iconst 0, 1) := by decide +kernel
theorem d7_session_57 : decode b7_session 57 = .ok (.ireturn, 1) := by decide +kernel
theorem d7_session_34 : decode b7_session 34 = .ok (.aload_n 0, 1) := by decide +kernel
theorem d7_session_35 : decode b7_session 35 = .ok (.iload_n 2, 1) := by decide +kernel
theorem d7_session_36 : decode b7_session 36 = .ok (.iconst 0, 1) := by decide +kernel
theorem d7_session_37 : decode b7_session 37 = .ok (.iconst 4, 1) := by decide +kernel
theorem d7_session_38 : decode b7_session 38 = .ok (.invokestatic 85, 3) := by decide +kernel
theorem d7_session_41 : decode b7_session 41 = .ok (.ifCond .ne 7, 3) := by decide +kernel
theorem d7_session_48 : decode b7_session 48 = .ok (.iconst 0, 1) := by decide +kernel
theorem d7_session_44 : decode b7_session 44 = .ok (.iconst 1, 1) := by decide +kernel
theorem d7_session_45 : decode b7_session 45 = .ok (.goto 4, 3) := by decide +kernel
theorem d7_session_49 : decode b7_session 49 = .ok (.iconst 2, 1) := by decide +kernel
theorem d7_session_50 : decode b7_session 50 = .ok (.invokevirtual 89, 3) := by decide +kernel
theorem d7_session_53 : decode b7_session 53 = .ok (.ifCond .eq 5, 3) := by decide +kernel
theorem d7_session_58 : decode b7_session 58 = .ok (.aload_n 0, 1) := by decide +kernel
theorem d7_session_59 : decode b7_session 59 = .ok (.iload_n 1, 1) := by decide +kernel
theorem d7_session_60 : decode b7_session 60 = .ok (.invokevirtual 336, 3) := by decide +kernel
theorem d7_session_63 : decode b7_session 63 = .ok (.iload_n 2, 1) := by decide +kernel
theorem d7_session_64 : decode b7_session 64 = .ok (.iconst 3, 1) := by decide +kernel
theorem d7_session_65 : decode b7_session 65 = .ok (.if_icmp .ge 17, 3) := by decide +kernel
theorem d7_session_82 : decode b7_session 82 = .ok (.iload_n 2, 1) := by decide +kernel
theorem d7_session_83 : decode b7_session 83 = .ok (.iconst 3, 1) := by decide +kernel
theorem d7_session_84 : decode b7_session 84 = .ok (.if_icmp .ne 10, 3) := by decide +kernel
theorem d7_session_94 : decode b7_session 94 = .ok (.aload_n 0, 1) := by decide +kernel
theorem d7_session_95 : decode b7_session 95 = .ok (.getfield 257, 3) := by decide +kernel
theorem d7_session_98 : decode b7_session 98 = .ok (.ireturn, 1) := by decide +kernel
theorem d7_session_87 : decode b7_session 87 = .ok (.aload_n 0, 1) := by decide +kernel
theorem d7_session_88 : decode b7_session 88 = .ok (.invokevirtual 339, 3) := by decide +kernel
theorem d7_session_91 : decode b7_session 91 = .ok (.goto 7, 3) := by decide +kernel
theorem d7_session_68 : decode b7_session 68 = .ok (.aload_n 0, 1) := by decide +kernel
theorem d7_session_69 : decode b7_session 69 = .ok (.getfield 7, 3) := by decide +kernel
theorem d7_session_72 : decode b7_session 72 = .ok (.aload_n 0, 1) := by decide +kernel
theorem d7_session_73 : decode b7_session 73 = .ok (.getfield 251, 3) := by decide +kernel
theorem d7_session_76 : decode b7_session 76 = .ok (.iload_n 2, 1) := by decide +kernel
theorem d7_session_77 : decode b7_session 77 = .ok (.iadd, 1) := by decide +kernel
theorem d7_session_78 : decode b7_session 78 = .ok (.iaload, 1) := by decide +kernel
theorem d7_session_79 : decode b7_session 79 = .ok (.goto 19, 3) := by decide +kernel
theorem d7_account_0 : decode b7_account 0 = .ok (.aload_n 0, 1) := by decide +kernel
theorem d7_account_1 : decode b7_account 1 = .ok (.iconst 0, 1) := by decide +kernel
theorem d7_account_2 : decode b7_account 2 = .ok (.putfield 79, 3) := by decide +kernel
theorem d7_account_5 : decode b7_account 5 = .ok (.aload_n 0, 1) := by decide +kernel
theorem d7_account_6 : decode b7_account 6 = .ok (.iload_n 1, 1) := by decide +kernel
theorem d7_account_7 : decode b7_account 7 = .ok (.iconst 0, 1) := by decide +kernel
theorem d7_account_8 : decode b7_account 8 = .ok (.bipush 9, 2) := by decide +kernel
theorem d7_account_10 : decode b7_account 10 = .ok (.invokestatic 85, 3) := by decide +kernel
theorem d7_account_13 : decode b7_account 13 = .ok (.ifCond .ne 7, 3) := by decide +kernel
theorem d7_account_20 : decode b7_account 20 = .ok (.iconst 0, 1) := by decide +kernel
theorem d7_account_16 : decode b7_account 16 = .ok (.iconst 1, 1) := by decide +kernel
theorem d7_account_17 : decode b7_account 17 = .ok (.goto 4, 3) := by decide +kernel
theorem d7_account_21 : decode b7_account 21 = .ok (.iconst 1, 1) := by decide +kernel
theorem d7_account_22 : decode b7_account 22 = .ok (.invokevirtual 89, 3) := by decide +kernel
theorem d7_account_25 : decode b7_account 25 = .ok (.ifCond .eq 7, 3) := by decide +kernel
theorem d7_account_32 : decode b7_account 32 = .ok (.aload_n 0, 1) := by decide +kernel
theorem d7_account_33 : decode b7_account 33 = .ok (.getfield 26, 3) := by decide +kernel
theorem d7_account_36 : decode b7_account 36 = .ok (.iload_n 1, 1) := by decide +kernel
theorem d7_account_37 : decode b7_account 37 = .ok (.iaload, 1) := by decide +kernel
theorem d7_account_38 : decode b7_account 38 = .ok (.ireturn, 1) := by decide +kernel
theorem d7_account_28 : decode b7_account 28 = .ok (.iconst 0, 1) := by decide +kernel
theorem d7_account_29 : decode b7_account 29 = .ok (.goto 9, 3) := by decide +kernel
theorem d7_noSession_0 : decode b7_noSession 0 = .ok (.aload_n 0, 1) := by decide +kernel
theorem d7_noSession_1 : decode b7_noSession 1 = .ok (.aload_n 0, 1) := by decide +kernel
theorem d7_noSession_2 : decode b7_noSession 2 = .ok (.getfield 7, 3) := by decide +kernel
theorem d7_noSession_5 : decode b7_noSession 5 = .ok (.iconst 0, 1) := by decide +kernel
theorem d7_noSession_6 : decode b7_noSession 6 = .ok (.iaload, 1) := by decide +kernel
theorem d7_noSession_7 : decode b7_noSession 7 = .ok (.ifCond .ne 7, 3) := by decide +kernel
theorem d7_noSession_14 : decode b7_noSession 14 = .ok (.iconst 0, 1) := by decide +kernel
theorem d7_noSession_10 : decode b7_noSession 10 = .ok (.iconst 1, 1) := by decide +kernel
theorem d7_noSession_11 : decode b7_noSession 11 = .ok (.goto 4, 3) := by decide +kernel
theorem d7_noSession_15 : decode b7_noSession 15 = .ok (.iload_n 1, 1) := by decide +kernel
theorem d7_noSession_16 : decode b7_noSession 16 = .ok (.invokevirtual 89, 3) := by decide +kernel
theorem d7_noSession_19 : decode b7_noSession 19 = .ok (.ifCond .eq 5, 3) := by decide +kernel
theorem d7_noSession_24 : decode b7_noSession 24 = .ok (.aload_n 0, 1) := by decide +kernel
theorem d7_noSession_25 : decode b7_noSession 25 = .ok (.aload_n 0, 1) := by decide +kernel
theorem d7_noSession_26 : decode b7_noSession 26 = .ok (.getfield 7, 3) := by decide +kernel
theorem d7_noSession_29 : decode b7_noSession 29 = .ok (.iconst 0, 1) := by decide +kernel
theorem d7_noSession_30 : decode b7_noSession 30 = .ok (.iaload, 1) := by decide +kernel
theorem d7_noSession_31 : decode b7_noSession 31 = .ok (.iconst 1, 1) := by decide +kernel
theorem d7_noSession_32 : decode b7_noSession 32 = .ok (.isub, 1) := by decide +kernel
theorem d7_noSession_33 : decode b7_noSession 33 = .ok (.invokevirtual 336, 3) := by decide +kernel
theorem d7_noSession_36 : decode b7_noSession 36 = .ok (.iconst 0, 1) := by decide +kernel
theorem d7_noSession_37 : decode b7_noSession 37 = .ok (.ireturn, 1) := by decide +kernel
theorem d7_noSession_22 : decode b7_noSession 22 = .ok (.iconst 1, 1) := by decide +kernel
theorem d7_noSession_23 : decode b7_noSession 23 = .ok (.ireturn, 1) := by decide +kernel
theorem d7_shownOf_0 : decode b7_shownOf 0 = .ok (.iconst 0, 1) := by decide +kernel
theorem d7_shownOf_1 : decode b7_shownOf 1 = .ok (.istore_n 2, 1) := by decide +kernel
theorem d7_shownOf_2 : decode b7_shownOf 2 = .ok (.iconst 0, 1) := by decide +kernel
theorem d7_shownOf_3 : decode b7_shownOf 3 = .ok (.istore_n 3, 1) := by decide +kernel
theorem d7_shownOf_4 : decode b7_shownOf 4 = .ok (.iload_n 3, 1) := by decide +kernel
theorem d7_shownOf_5 : decode b7_shownOf 5 = .ok (.aload_n 0, 1) := by decide +kernel
theorem d7_shownOf_6 : decode b7_shownOf 6 = .ok (.invokevirtual 260, 3) := by decide +kernel
theorem d7_shownOf_9 : decode b7_shownOf 9 = .ok (.if_icmp .ge 43, 3) := by decide +kernel
theorem d7_shownOf_52 : decode b7_shownOf 52 = .ok (.iload_n 2, 1) := by decide +kernel
theorem d7_shownOf_53 : decode b7_shownOf 53 = .ok (.ireturn, 1) := by decide +kernel
theorem d7_shownOf_12 : decode b7_shownOf 12 = .ok (.iload_n 2, 1) := by decide +kernel
theorem d7_shownOf_13 : decode b7_shownOf 13 = .ok (.aload_n 0, 1) := by decide +kernel
theorem d7_shownOf_14 : decode b7_shownOf 14 = .ok (.getfield 49, 3) := by decide +kernel
theorem d7_shownOf_17 : decode b7_shownOf 17 = .ok (.iload_n 3, 1) := by decide +kernel
theorem d7_shownOf_18 : decode b7_shownOf 18 = .ok (.baload, 1) := by decide +kernel
theorem d7_shownOf_19 : decode b7_shownOf 19 = .ok (.ifCond .eq 24, 3) := by decide +kernel
theorem d7_shownOf_22 : decode b7_shownOf 22 = .ok (.aload_n 0, 1) := by decide +kernel
theorem d7_shownOf_23 : decode b7_shownOf 23 = .ok (.getfield 32, 3) := by decide +kernel
theorem d7_shownOf_26 : decode b7_shownOf 26 = .ok (.getfield 162, 3) := by decide +kernel
theorem d7_shownOf_29 : decode b7_shownOf 29 = .ok (.aload_n 0, 1) := by decide +kernel
theorem d7_shownOf_30 : decode b7_shownOf 30 = .ok (.iload_n 3, 1) := by decide +kernel
theorem d7_shownOf_31 : decode b7_shownOf 31 = .ok (.invokevirtual 262, 3) := by decide +kernel
theorem d7_shownOf_34 : decode b7_shownOf 34 = .ok (.iaload, 1) := by decide +kernel
theorem d7_shownOf_35 : decode b7_shownOf 35 = .ok (.iload_n 1, 1) := by decide +kernel
theorem d7_shownOf_36 : decode b7_shownOf 36 = .ok (.if_icmp .ne 7, 3) := by decide +kernel
theorem d7_shownOf_39 : decode b7_shownOf 39 = .ok (.iconst 1, 1) := by decide +kernel
theorem d7_shownOf_40 : decode b7_shownOf 40 = .ok (.goto 4, 3) := by decide +kernel
theorem d7_shownOf_44 : decode b7_shownOf 44 = .ok (.iadd, 1) := by decide +kernel
theorem d7_shownOf_45 : decode b7_shownOf 45 = .ok (.istore_n 2, 1) := by decide +kernel
theorem d7_shownOf_46 : decode b7_shownOf 46 = .ok (.iinc 3 1, 3) := by decide +kernel
theorem d7_shownOf_49 : decode b7_shownOf 49 = .ok (.goto (-45), 3) := by decide +kernel
theorem d7_shownOf_43 : decode b7_shownOf 43 = .ok (.iconst 0, 1) := by decide +kernel
theorem d7_allOf_0 : decode b7_allOf 0 = .ok (.iconst 0, 1) := by decide +kernel
theorem d7_allOf_1 : decode b7_allOf 1 = .ok (.istore_n 2, 1) := by decide +kernel
theorem d7_allOf_2 : decode b7_allOf 2 = .ok (.iconst 0, 1) := by decide +kernel
theorem d7_allOf_3 : decode b7_allOf 3 = .ok (.istore_n 3, 1) := by decide +kernel
theorem d7_allOf_4 : decode b7_allOf 4 = .ok (.iload_n 3, 1) := by decide +kernel
theorem d7_allOf_5 : decode b7_allOf 5 = .ok (.aload_n 0, 1) := by decide +kernel
theorem d7_allOf_6 : decode b7_allOf 6 = .ok (.invokevirtual 260, 3) := by decide +kernel
theorem d7_allOf_9 : decode b7_allOf 9 = .ok (.if_icmp .ge 34, 3) := by decide +kernel
theorem d7_allOf_43 : decode b7_allOf 43 = .ok (.iload_n 2, 1) := by decide +kernel
theorem d7_allOf_44 : decode b7_allOf 44 = .ok (.ireturn, 1) := by decide +kernel
theorem d7_allOf_12 : decode b7_allOf 12 = .ok (.iload_n 2, 1) := by decide +kernel
theorem d7_allOf_13 : decode b7_allOf 13 = .ok (.aload_n 0, 1) := by decide +kernel
theorem d7_allOf_14 : decode b7_allOf 14 = .ok (.getfield 32, 3) := by decide +kernel
theorem d7_allOf_17 : decode b7_allOf 17 = .ok (.getfield 162, 3) := by decide +kernel
theorem d7_allOf_20 : decode b7_allOf 20 = .ok (.aload_n 0, 1) := by decide +kernel
theorem d7_allOf_21 : decode b7_allOf 21 = .ok (.iload_n 3, 1) := by decide +kernel
theorem d7_allOf_22 : decode b7_allOf 22 = .ok (.invokevirtual 262, 3) := by decide +kernel
theorem d7_allOf_25 : decode b7_allOf 25 = .ok (.iaload, 1) := by decide +kernel
theorem d7_allOf_26 : decode b7_allOf 26 = .ok (.iload_n 1, 1) := by decide +kernel
theorem d7_allOf_27 : decode b7_allOf 27 = .ok (.if_icmp .ne 7, 3) := by decide +kernel
theorem d7_allOf_34 : decode b7_allOf 34 = .ok (.iconst 0, 1) := by decide +kernel
theorem d7_allOf_35 : decode b7_allOf 35 = .ok (.iadd, 1) := by decide +kernel
theorem d7_allOf_36 : decode b7_allOf 36 = .ok (.istore_n 2, 1) := by decide +kernel
theorem d7_allOf_37 : decode b7_allOf 37 = .ok (.iinc 3 1, 3) := by decide +kernel
theorem d7_allOf_40 : decode b7_allOf 40 = .ok (.goto (-36), 3) := by decide +kernel
theorem d7_allOf_30 : decode b7_allOf 30 = .ok (.iconst 1, 1) := by decide +kernel
theorem d7_allOf_31 : decode b7_allOf 31 = .ok (.goto 4, 3) := by decide +kernel
theorem d7_field_0 : decode b7_field 0 = .ok (.aload_n 0, 1) := by decide +kernel
theorem d7_field_1 : decode b7_field 1 = .ok (.iconst 0, 1) := by decide +kernel
theorem d7_field_2 : decode b7_field 2 = .ok (.putfield 79, 3) := by decide +kernel
theorem d7_field_5 : decode b7_field 5 = .ok (.aload_n 0, 1) := by decide +kernel
theorem d7_field_6 : decode b7_field 6 = .ok (.iload_n 1, 1) := by decide +kernel
theorem d7_field_7 : decode b7_field 7 = .ok (.invokestatic 333, 3) := by decide +kernel
theorem d7_field_10 : decode b7_field 10 = .ok (.ifCond .ne 7, 3) := by decide +kernel
theorem d7_field_17 : decode b7_field 17 = .ok (.iconst 0, 1) := by decide +kernel
theorem d7_field_13 : decode b7_field 13 = .ok (.iconst 1, 1) := by decide +kernel
theorem d7_field_14 : decode b7_field 14 = .ok (.goto 4, 3) := by decide +kernel
theorem d7_field_18 : decode b7_field 18 = .ok (.iconst 1, 1) := by decide +kernel
theorem d7_field_19 : decode b7_field 19 = .ok (.invokevirtual 89, 3) := by decide +kernel
theorem d7_field_22 : decode b7_field 22 = .ok (.ifCond .ne 34, 3) := by decide +kernel
theorem d7_field_56 : decode b7_field 56 = .ok (.iconst 0, 1) := by decide +kernel
theorem d7_field_57 : decode b7_field 57 = .ok (.ireturn, 1) := by decide +kernel
theorem d7_field_25 : decode b7_field 25 = .ok (.aload_n 0, 1) := by decide +kernel
theorem d7_field_26 : decode b7_field 26 = .ok (.iload_n 2, 1) := by decide +kernel
theorem d7_field_27 : decode b7_field 27 = .ok (.iconst 0, 1) := by decide +kernel
theorem d7_field_28 : decode b7_field 28 = .ok (.bipush 6, 2) := by decide +kernel
theorem d7_field_30 : decode b7_field 30 = .ok (.invokestatic 85, 3) := by decide +kernel
theorem d7_field_33 : decode b7_field 33 = .ok (.ifCond .ne 7, 3) := by decide +kernel
theorem d7_field_40 : decode b7_field 40 = .ok (.iconst 0, 1) := by decide +kernel
theorem d7_field_36 : decode b7_field 36 = .ok (.iconst 1, 1) := by decide +kernel
theorem d7_field_37 : decode b7_field 37 = .ok (.goto 4, 3) := by decide +kernel
theorem d7_field_41 : decode b7_field 41 = .ok (.iconst 2, 1) := by decide +kernel
theorem d7_field_42 : decode b7_field 42 = .ok (.invokevirtual 89, 3) := by decide +kernel
theorem d7_field_45 : decode b7_field 45 = .ok (.ifCond .ne 11, 3) := by decide +kernel
theorem d7_field_48 : decode b7_field 48 = .ok (.aload_n 0, 1) := by decide +kernel
theorem d7_field_49 : decode b7_field 49 = .ok (.iconst 3, 1) := by decide +kernel
theorem d7_field_50 : decode b7_field 50 = .ok (.invokevirtual 342, 3) := by decide +kernel
theorem d7_field_53 : decode b7_field 53 = .ok (.ifCond .eq 5, 3) := by decide +kernel
theorem d7_field_58 : decode b7_field 58 = .ok (.aload_n 0, 1) := by decide +kernel
theorem d7_field_59 : decode b7_field 59 = .ok (.invokevirtual 345, 3) := by decide +kernel
theorem d7_field_62 : decode b7_field 62 = .ok (.iload_n 2, 1) := by decide +kernel
theorem d7_field_63 : decode b7_field 63 = .ok (.tableswitch 93 0 5 #[37, 54, 68, 74, 81, 87], 37) := by decide +kernel
theorem d7_field_100 : decode b7_field 100 = .ok (.aload_n 0, 1) := by decide +kernel
theorem d7_field_101 : decode b7_field 101 = .ok (.getfield 257, 3) := by decide +kernel
theorem d7_field_104 : decode b7_field 104 = .ok (.iload_n 1, 1) := by decide +kernel
theorem d7_field_105 : decode b7_field 105 = .ok (.invokestatic 168, 3) := by decide +kernel
theorem d7_field_108 : decode b7_field 108 = .ok (.ifCond .eq 7, 3) := by decide +kernel
theorem d7_field_115 : decode b7_field 115 = .ok (.iconst 0, 1) := by decide +kernel
theorem d7_field_116 : decode b7_field 116 = .ok (.ireturn, 1) := by decide +kernel
theorem d7_field_111 : decode b7_field 111 = .ok (.iconst 1, 1) := by decide +kernel
theorem d7_field_112 : decode b7_field 112 = .ok (.goto 4, 3) := by decide +kernel
theorem d7_field_117 : decode b7_field 117 = .ok (.aload_n 0, 1) := by decide +kernel
theorem d7_field_118 : decode b7_field 118 = .ok (.iload_n 1, 1) := by decide +kernel
theorem d7_field_119 : decode b7_field 119 = .ok (.invokevirtual 265, 3) := by decide +kernel
theorem d7_field_122 : decode b7_field 122 = .ok (.ifCond .eq 7, 3) := by decide +kernel
theorem d7_field_129 : decode b7_field 129 = .ok (.iconst 0, 1) := by decide +kernel
theorem d7_field_130 : decode b7_field 130 = .ok (.ireturn, 1) := by decide +kernel
theorem d7_field_125 : decode b7_field 125 = .ok (.iconst 1, 1) := by decide +kernel
theorem d7_field_126 : decode b7_field 126 = .ok (.goto 4, 3) := by decide +kernel
theorem d7_field_131 : decode b7_field 131 = .ok (.aload_n 0, 1) := by decide +kernel
theorem d7_field_132 : decode b7_field 132 = .ok (.iload_n 1, 1) := by decide +kernel
theorem d7_field_133 : decode b7_field 133 = .ok (.invokevirtual 348, 3) := by decide +kernel
theorem d7_field_136 : decode b7_field 136 = .ok (.ireturn, 1) := by decide +kernel
theorem d7_field_137 : decode b7_field 137 = .ok (.aload_n 0, 1) := by decide +kernel
theorem d7_field_138 : decode b7_field 138 = .ok (.getfield 55, 3) := by decide +kernel
theorem d7_field_141 : decode b7_field 141 = .ok (.iload_n 1, 1) := by decide +kernel
theorem d7_field_142 : decode b7_field 142 = .ok (.iaload, 1) := by decide +kernel
theorem d7_field_143 : decode b7_field 143 = .ok (.ireturn, 1) := by decide +kernel
theorem d7_field_144 : decode b7_field 144 = .ok (.aload_n 0, 1) := by decide +kernel
theorem d7_field_145 : decode b7_field 145 = .ok (.iload_n 1, 1) := by decide +kernel
theorem d7_field_146 : decode b7_field 146 = .ok (.invokevirtual 351, 3) := by decide +kernel
theorem d7_field_149 : decode b7_field 149 = .ok (.ireturn, 1) := by decide +kernel
theorem d7_field_150 : decode b7_field 150 = .ok (.aload_n 0, 1) := by decide +kernel
theorem d7_field_151 : decode b7_field 151 = .ok (.iload_n 1, 1) := by decide +kernel
theorem d7_field_152 : decode b7_field 152 = .ok (.invokevirtual 273, 3) := by decide +kernel
theorem d7_field_155 : decode b7_field 155 = .ok (.ireturn, 1) := by decide +kernel
theorem d7_field_156 : decode b7_field 156 = .ok (.aload_n 0, 1) := by decide +kernel
theorem d7_field_157 : decode b7_field 157 = .ok (.iload_n 1, 1) := by decide +kernel
theorem d7_field_158 : decode b7_field 158 = .ok (.invokevirtual 354, 3) := by decide +kernel
theorem d7_field_161 : decode b7_field 161 = .ok (.ireturn, 1) := by decide +kernel
theorem d7_value_0 : decode b7_value 0 = .ok (.aload_n 0, 1) := by decide +kernel
theorem d7_value_1 : decode b7_value 1 = .ok (.iconst 0, 1) := by decide +kernel
theorem d7_value_2 : decode b7_value 2 = .ok (.putfield 79, 3) := by decide +kernel
theorem d7_value_5 : decode b7_value 5 = .ok (.aload_n 0, 1) := by decide +kernel
theorem d7_value_6 : decode b7_value 6 = .ok (.iload_n 1, 1) := by decide +kernel
theorem d7_value_7 : decode b7_value 7 = .ok (.invokestatic 333, 3) := by decide +kernel
theorem d7_value_10 : decode b7_value 10 = .ok (.ifCond .ne 7, 3) := by decide +kernel
theorem d7_value_17 : decode b7_value 17 = .ok (.iconst 0, 1) := by decide +kernel
theorem d7_value_13 : decode b7_value 13 = .ok (.iconst 1, 1) := by decide +kernel
theorem d7_value_14 : decode b7_value 14 = .ok (.goto 4, 3) := by decide +kernel
theorem d7_value_18 : decode b7_value 18 = .ok (.iconst 1, 1) := by decide +kernel
theorem d7_value_19 : decode b7_value 19 = .ok (.invokevirtual 89, 3) := by decide +kernel
theorem d7_value_22 : decode b7_value 22 = .ok (.ifCond .ne 11, 3) := by decide +kernel
theorem d7_value_33 : decode b7_value 33 = .ok (.iconst 0, 1) := by decide +kernel
theorem d7_value_34 : decode b7_value 34 = .ok (.ireturn, 1) := by decide +kernel
theorem d7_value_25 : decode b7_value 25 = .ok (.aload_n 0, 1) := by decide +kernel
theorem d7_value_26 : decode b7_value 26 = .ok (.iconst 2, 1) := by decide +kernel
theorem d7_value_27 : decode b7_value 27 = .ok (.invokevirtual 342, 3) := by decide +kernel
theorem d7_value_30 : decode b7_value 30 = .ok (.ifCond .eq 5, 3) := by decide +kernel
theorem d7_value_35 : decode b7_value 35 = .ok (.aload_n 0, 1) := by decide +kernel
theorem d7_value_36 : decode b7_value 36 = .ok (.iconst 0, 1) := by decide +kernel
theorem d7_value_37 : decode b7_value 37 = .ok (.putfield 285, 3) := by decide +kernel
theorem d7_value_40 : decode b7_value 40 = .ok (.aload_n 0, 1) := by decide +kernel
theorem d7_value_41 : decode b7_value 41 = .ok (.iload_n 1, 1) := by decide +kernel
theorem d7_value_42 : decode b7_value 42 = .ok (.invokevirtual 301, 3) := by decide +kernel
theorem d7_value_45 : decode b7_value 45 = .ok (.iload_n 2, 1) := by decide +kernel
theorem d7_value_46 : decode b7_value 46 = .ok (.iconst 0, 1) := by decide +kernel
theorem d7_value_47 : decode b7_value 47 = .ok (.aload_n 0, 1) := by decide +kernel
theorem d7_value_48 : decode b7_value 48 = .ok (.getfield 285, 3) := by decide +kernel
theorem d7_value_51 : decode b7_value 51 = .ok (.iconst 1, 1) := by decide +kernel
theorem d7_value_52 : decode b7_value 52 = .ok (.isub, 1) := by decide +kernel
theorem d7_value_53 : decode b7_value 53 = .ok (.invokestatic 85, 3) := by decide +kernel
theorem d7_value_56 : decode b7_value 56 = .ok (.ifCond .eq 12, 3) := by decide +kernel
theorem d7_value_68 : decode b7_value 68 = .ok (.iconst (-1), 1) := by decide +kernel
theorem d7_value_69 : decode b7_value 69 = .ok (.ireturn, 1) := by decide +kernel
theorem d7_value_59 : decode b7_value 59 = .ok (.aload_n 0, 1) := by decide +kernel
theorem d7_value_60 : decode b7_value 60 = .ok (.getfield 61, 3) := by decide +kernel
theorem d7_value_63 : decode b7_value 63 = .ok (.iload_n 2, 1) := by decide +kernel
theorem d7_value_64 : decode b7_value 64 = .ok (.iaload, 1) := by decide +kernel
theorem d7_value_65 : decode b7_value 65 = .ok (.goto 4, 3) := by decide +kernel
theorem d7_laysBegins_0 : decode b7_laysBegins 0 = .ok (.iload_n 3, 1) := by decide +kernel
theorem d7_laysBegins_1 : decode b7_laysBegins 1 = .ok (.istore 4, 2) := by decide +kernel
theorem d7_laysBegins_3 : decode b7_laysBegins 3 = .ok (.iload_n 1, 1) := by decide +kernel
theorem d7_laysBegins_4 : decode b7_laysBegins 4 = .ok (.istore 5, 2) := by decide +kernel
theorem d7_laysBegins_6 : decode b7_laysBegins 6 = .ok (.iload 5, 2) := by decide +kernel
theorem d7_laysBegins_8 : decode b7_laysBegins 8 = .ok (.iload_n 2, 1) := by decide +kernel
theorem d7_laysBegins_9 : decode b7_laysBegins 9 = .ok (.if_icmp .ge 117, 3) := by decide +kernel
theorem d7_laysBegins_126 : decode b7_laysBegins 126 = .ok (.iload 4, 2) := by decide +kernel
theorem d7_laysBegins_128 : decode b7_laysBegins 128 = .ok (.ireturn, 1) := by decide +kernel
theorem d7_laysBegins_12 : decode b7_laysBegins 12 = .ok (.aload_n 0, 1) := by decide +kernel
theorem d7_laysBegins_13 : decode b7_laysBegins 13 = .ok (.getfield 32, 3) := by decide +kernel
theorem d7_laysBegins_16 : decode b7_laysBegins 16 = .ok (.getfield 153, 3) := by decide +kernel
theorem d7_laysBegins_19 : decode b7_laysBegins 19 = .ok (.iload 5, 2) := by decide +kernel
theorem d7_laysBegins_21 : decode b7_laysBegins 21 = .ok (.iaload, 1) := by decide +kernel
theorem d7_laysBegins_22 : decode b7_laysBegins 22 = .ok (.istore 6, 2) := by decide +kernel
theorem d7_laysBegins_24 : decode b7_laysBegins 24 = .ok (.iload 6, 2) := by decide +kernel
theorem d7_laysBegins_26 : decode b7_laysBegins 26 = .ok (.sipush 1000, 3) := by decide +kernel
theorem d7_laysBegins_29 : decode b7_laysBegins 29 = .ok (.if_icmp .lt 88, 3) := by decide +kernel
theorem d7_laysBegins_117 : decode b7_laysBegins 117 = .ok (.iinc 4 1, 3) := by decide +kernel
theorem d7_laysBegins_120 : decode b7_laysBegins 120 = .ok (.iinc 5 1, 3) := by decide +kernel
theorem d7_laysBegins_123 : decode b7_laysBegins 123 = .ok (.goto (-117), 3) := by decide +kernel
theorem d7_laysBegins_32 : decode b7_laysBegins 32 = .ok (.iload 6, 2) := by decide +kernel
theorem d7_laysBegins_34 : decode b7_laysBegins 34 = .ok (.sipush 1000, 3) := by decide +kernel
theorem d7_laysBegins_37 : decode b7_laysBegins 37 = .ok (.isub, 1) := by decide +kernel
theorem d7_laysBegins_38 : decode b7_laysBegins 38 = .ok (.istore 7, 2) := by decide +kernel
theorem d7_laysBegins_40 : decode b7_laysBegins 40 = .ok (.aload_n 0, 1) := by decide +kernel
theorem d7_laysBegins_41 : decode b7_laysBegins 41 = .ok (.getfield 73, 3) := by decide +kernel
theorem d7_laysBegins_44 : decode b7_laysBegins 44 = .ok (.iload 7, 2) := by decide +kernel
theorem d7_laysBegins_46 : decode b7_laysBegins 46 = .ok (.iload 4, 2) := by decide +kernel
theorem d7_laysBegins_48 : decode b7_laysBegins 48 = .ok (.iastore, 1) := by decide +kernel
theorem d7_laysBegins_49 : decode b7_laysBegins 49 = .ok (.aload_n 0, 1) := by decide +kernel
theorem d7_laysBegins_50 : decode b7_laysBegins 50 = .ok (.getfield 52, 3) := by decide +kernel
theorem d7_laysBegins_53 : decode b7_laysBegins 53 = .ok (.iload 7, 2) := by decide +kernel
theorem d7_laysBegins_55 : decode b7_laysBegins 55 = .ok (.baload, 1) := by decide +kernel
theorem d7_laysBegins_56 : decode b7_laysBegins 56 = .ok (.ifCond .eq 29, 3) := by decide +kernel
theorem d7_laysBegins_59 : decode b7_laysBegins 59 = .ok (.aload_n 0, 1) := by decide +kernel
theorem d7_laysBegins_60 : decode b7_laysBegins 60 = .ok (.iload 5, 2) := by decide +kernel
theorem d7_laysBegins_62 : decode b7_laysBegins 62 = .ok (.iconst 1, 1) := by decide +kernel
theorem d7_laysBegins_63 : decode b7_laysBegins 63 = .ok (.iadd, 1) := by decide +kernel
theorem d7_laysBegins_64 : decode b7_laysBegins 64 = .ok (.aload_n 0, 1) := by decide +kernel
theorem d7_laysBegins_65 : decode b7_laysBegins 65 = .ok (.getfield 32, 3) := by decide +kernel
theorem d7_laysBegins_68 : decode b7_laysBegins 68 = .ok (.getfield 189, 3) := by decide +kernel
theorem d7_laysBegins_71 : decode b7_laysBegins 71 = .ok (.aload_n 0, 1) := by decide +kernel
theorem d7_laysBegins_72 : decode b7_laysBegins 72 = .ok (.iload 7, 2) := by decide +kernel
theorem d7_laysBegins_74 : decode b7_laysBegins 74 = .ok (.invokevirtual 262, 3) := by decide +kernel
theorem d7_laysBegins_77 : decode b7_laysBegins 77 = .ok (.iaload, 1) := by decide +kernel
theorem d7_laysBegins_78 : decode b7_laysBegins 78 = .ok (.iload 4, 2) := by decide +kernel
theorem d7_laysBegins_80 : decode b7_laysBegins 80 = .ok (.invokevirtual 357, 3) := by decide +kernel
theorem d7_laysBegins_83 : decode b7_laysBegins 83 = .ok (.istore 8, 2) := by decide +kernel
theorem d7_laysBegins_85 : decode b7_laysBegins 85 = .ok (.iload 4, 2) := by decide +kernel
theorem d7_laysBegins_87 : decode b7_laysBegins 87 = .ok (.aload_n 0, 1) := by decide +kernel
theorem d7_laysBegins_88 : decode b7_laysBegins 88 = .ok (.iload 7, 2) := by decide +kernel
theorem d7_laysBegins_90 : decode b7_laysBegins 90 = .ok (.invokevirtual 279, 3) := by decide +kernel
theorem d7_laysBegins_93 : decode b7_laysBegins 93 = .ok (.iadd, 1) := by decide +kernel
theorem d7_laysBegins_94 : decode b7_laysBegins 94 = .ok (.istore 4, 2) := by decide +kernel
theorem d7_laysBegins_96 : decode b7_laysBegins 96 = .ok (.aload_n 0, 1) := by decide +kernel
theorem d7_laysBegins_97 : decode b7_laysBegins 97 = .ok (.getfield 32, 3) := by decide +kernel
theorem d7_laysBegins_100 : decode b7_laysBegins 100 = .ok (.getfield 189, 3) := by decide +kernel
theorem d7_laysBegins_103 : decode b7_laysBegins 103 = .ok (.aload_n 0, 1) := by decide +kernel
theorem d7_laysBegins_104 : decode b7_laysBegins 104 = .ok (.iload 7, 2) := by decide +kernel
theorem d7_laysBegins_106 : decode b7_laysBegins 106 = .ok (.invokevirtual 262, 3) := by decide +kernel
theorem d7_laysBegins_109 : decode b7_laysBegins 109 = .ok (.iaload, 1) := by decide +kernel
theorem d7_laysBegins_110 : decode b7_laysBegins 110 = .ok (.iconst 1, 1) := by decide +kernel
theorem d7_laysBegins_111 : decode b7_laysBegins 111 = .ok (.iadd, 1) := by decide +kernel
theorem d7_laysBegins_112 : decode b7_laysBegins 112 = .ok (.istore 5, 2) := by decide +kernel
theorem d7_laysBegins_114 : decode b7_laysBegins 114 = .ok (.goto 9, 3) := by decide +kernel
theorem d7_beginOf_0 : decode b7_beginOf 0 = .ok (.iconst 0, 1) := by decide +kernel
theorem d7_beginOf_1 : decode b7_beginOf 1 = .ok (.istore_n 2, 1) := by decide +kernel
theorem d7_beginOf_2 : decode b7_beginOf 2 = .ok (.iload_n 2, 1) := by decide +kernel
theorem d7_beginOf_3 : decode b7_beginOf 3 = .ok (.aload_n 0, 1) := by decide +kernel
theorem d7_beginOf_4 : decode b7_beginOf 4 = .ok (.invokevirtual 260, 3) := by decide +kernel
theorem d7_beginOf_7 : decode b7_beginOf 7 = .ok (.if_icmp .ge 16, 3) := by decide +kernel
theorem d7_beginOf_23 : decode b7_beginOf 23 = .ok (.aload_n 0, 1) := by decide +kernel
theorem d7_beginOf_24 : decode b7_beginOf 24 = .ok (.aload_n 0, 1) := by decide +kernel
theorem d7_beginOf_25 : decode b7_beginOf 25 = .ok (.getfield 32, 3) := by decide +kernel
theorem d7_beginOf_28 : decode b7_beginOf 28 = .ok (.getfield 217, 3) := by decide +kernel
theorem d7_beginOf_31 : decode b7_beginOf 31 = .ok (.aload_n 0, 1) := by decide +kernel
theorem d7_beginOf_32 : decode b7_beginOf 32 = .ok (.getfield 249, 3) := by decide +kernel
theorem d7_beginOf_35 : decode b7_beginOf 35 = .ok (.iaload, 1) := by decide +kernel
theorem d7_beginOf_36 : decode b7_beginOf 36 = .ok (.aload_n 0, 1) := by decide +kernel
theorem d7_beginOf_37 : decode b7_beginOf 37 = .ok (.getfield 32, 3) := by decide +kernel
theorem d7_beginOf_40 : decode b7_beginOf 40 = .ok (.getfield 217, 3) := by decide +kernel
theorem d7_beginOf_43 : decode b7_beginOf 43 = .ok (.aload_n 0, 1) := by decide +kernel
theorem d7_beginOf_44 : decode b7_beginOf 44 = .ok (.getfield 249, 3) := by decide +kernel
theorem d7_beginOf_47 : decode b7_beginOf 47 = .ok (.iconst 1, 1) := by decide +kernel
theorem d7_beginOf_48 : decode b7_beginOf 48 = .ok (.iadd, 1) := by decide +kernel
theorem d7_beginOf_49 : decode b7_beginOf 49 = .ok (.iaload, 1) := by decide +kernel
theorem d7_beginOf_50 : decode b7_beginOf 50 = .ok (.iconst 0, 1) := by decide +kernel
theorem d7_beginOf_51 : decode b7_beginOf 51 = .ok (.invokevirtual 357, 3) := by decide +kernel
theorem d7_beginOf_54 : decode b7_beginOf 54 = .ok (.istore_n 2, 1) := by decide +kernel
theorem d7_beginOf_55 : decode b7_beginOf 55 = .ok (.aload_n 0, 1) := by decide +kernel
theorem d7_beginOf_56 : decode b7_beginOf 56 = .ok (.getfield 73, 3) := by decide +kernel
theorem d7_beginOf_59 : decode b7_beginOf 59 = .ok (.iload_n 1, 1) := by decide +kernel
theorem d7_beginOf_60 : decode b7_beginOf 60 = .ok (.iaload, 1) := by decide +kernel
theorem d7_beginOf_61 : decode b7_beginOf 61 = .ok (.ireturn, 1) := by decide +kernel
theorem d7_beginOf_10 : decode b7_beginOf 10 = .ok (.aload_n 0, 1) := by decide +kernel
theorem d7_beginOf_11 : decode b7_beginOf 11 = .ok (.getfield 73, 3) := by decide +kernel
theorem d7_beginOf_14 : decode b7_beginOf 14 = .ok (.iload_n 2, 1) := by decide +kernel
theorem d7_beginOf_15 : decode b7_beginOf 15 = .ok (.iconst (-1), 1) := by decide +kernel
theorem d7_beginOf_16 : decode b7_beginOf 16 = .ok (.iastore, 1) := by decide +kernel
theorem d7_beginOf_17 : decode b7_beginOf 17 = .ok (.iinc 2 1, 3) := by decide +kernel
theorem d7_beginOf_20 : decode b7_beginOf 20 = .ok (.goto (-18), 3) := by decide +kernel
theorem d7_occurrence_0 : decode b7_occurrence 0 = .ok (.aload_n 0, 1) := by decide +kernel
theorem d7_occurrence_1 : decode b7_occurrence 1 = .ok (.iconst 0, 1) := by decide +kernel
theorem d7_occurrence_2 : decode b7_occurrence 2 = .ok (.putfield 79, 3) := by decide +kernel
theorem d7_occurrence_5 : decode b7_occurrence 5 = .ok (.aload_n 0, 1) := by decide +kernel
theorem d7_occurrence_6 : decode b7_occurrence 6 = .ok (.iconst 1, 1) := by decide +kernel
theorem d7_occurrence_7 : decode b7_occurrence 7 = .ok (.invokevirtual 342, 3) := by decide +kernel
theorem d7_occurrence_10 : decode b7_occurrence 10 = .ok (.ifCond .ne 53, 3) := by decide +kernel
theorem d7_occurrence_63 : decode b7_occurrence 63 = .ok (.iconst 0, 1) := by decide +kernel
theorem d7_occurrence_64 : decode b7_occurrence 64 = .ok (.ireturn, 1) := by decide +kernel
theorem d7_occurrence_13 : decode b7_occurrence 13 = .ok (.aload_n 0, 1) := by decide +kernel
theorem d7_occurrence_14 : decode b7_occurrence 14 = .ok (.iload_n 1, 1) := by decide +kernel
theorem d7_occurrence_15 : decode b7_occurrence 15 = .ok (.iconst 0, 1) := by decide +kernel
theorem d7_occurrence_16 : decode b7_occurrence 16 = .ok (.aload_n 0, 1) := by decide +kernel
theorem d7_occurrence_17 : decode b7_occurrence 17 = .ok (.invokevirtual 260, 3) := by decide +kernel
theorem d7_occurrence_20 : decode b7_occurrence 20 = .ok (.iconst 1, 1) := by decide +kernel
theorem d7_occurrence_21 : decode b7_occurrence 21 = .ok (.isub, 1) := by decide +kernel
theorem d7_occurrence_22 : decode b7_occurrence 22 = .ok (.invokestatic 85, 3) := by decide +kernel
theorem d7_occurrence_25 : decode b7_occurrence 25 = .ok (.ifCond .ne 7, 3) := by decide +kernel
theorem d7_occurrence_32 : decode b7_occurrence 32 = .ok (.iconst 0, 1) := by decide +kernel
theorem d7_occurrence_28 : decode b7_occurrence 28 = .ok (.iconst 1, 1) := by decide +kernel
theorem d7_occurrence_29 : decode b7_occurrence 29 = .ok (.goto 4, 3) := by decide +kernel
theorem d7_occurrence_33 : decode b7_occurrence 33 = .ok (.iconst 2, 1) := by decide +kernel
theorem d7_occurrence_34 : decode b7_occurrence 34 = .ok (.invokevirtual 89, 3) := by decide +kernel
theorem d7_occurrence_37 : decode b7_occurrence 37 = .ok (.ifCond .ne 26, 3) := by decide +kernel
theorem d7_occurrence_40 : decode b7_occurrence 40 = .ok (.aload_n 0, 1) := by decide +kernel
theorem d7_occurrence_41 : decode b7_occurrence 41 = .ok (.iload_n 2, 1) := by decide +kernel
theorem d7_occurrence_42 : decode b7_occurrence 42 = .ok (.iconst 0, 1) := by decide +kernel
theorem d7_occurrence_43 : decode b7_occurrence 43 = .ok (.bipush 7, 2) := by decide +kernel
theorem d7_occurrence_45 : decode b7_occurrence 45 = .ok (.invokestatic 85, 3) := by decide +kernel
theorem d7_occurrence_48 : decode b7_occurrence 48 = .ok (.ifCond .ne 7, 3) := by decide +kernel
theorem d7_occurrence_55 : decode b7_occurrence 55 = .ok (.iconst 0, 1) := by decide +kernel
theorem d7_occurrence_51 : decode b7_occurrence 51 = .ok (.iconst 1, 1) := by decide +kernel
theorem d7_occurrence_52 : decode b7_occurrence 52 = .ok (.goto 4, 3) := by decide +kernel
theorem d7_occurrence_56 : decode b7_occurrence 56 = .ok (.iconst 3, 1) := by decide +kernel
theorem d7_occurrence_57 : decode b7_occurrence 57 = .ok (.invokevirtual 89, 3) := by decide +kernel
theorem d7_occurrence_60 : decode b7_occurrence 60 = .ok (.ifCond .eq 5, 3) := by decide +kernel
theorem d7_occurrence_65 : decode b7_occurrence 65 = .ok (.aload_n 0, 1) := by decide +kernel
theorem d7_occurrence_66 : decode b7_occurrence 66 = .ok (.iload_n 1, 1) := by decide +kernel
theorem d7_occurrence_67 : decode b7_occurrence 67 = .ok (.invokevirtual 262, 3) := by decide +kernel
theorem d7_occurrence_70 : decode b7_occurrence 70 = .ok (.istore_n 3, 1) := by decide +kernel
theorem d7_occurrence_71 : decode b7_occurrence 71 = .ok (.iload_n 2, 1) := by decide +kernel
theorem d7_occurrence_72 : decode b7_occurrence 72 = .ok (.tableswitch 128 0 6 #[44, 54, 64, 82, 92, 107, 122], 44) := by decide +kernel
theorem d7_occurrence_116 : decode b7_occurrence 116 = .ok (.aload_n 0, 1) := by decide +kernel
theorem d7_occurrence_117 : decode b7_occurrence 117 = .ok (.getfield 32, 3) := by decide +kernel
theorem d7_occurrence_120 : decode b7_occurrence 120 = .ok (.getfield 162, 3) := by decide +kernel
theorem d7_occurrence_123 : decode b7_occurrence 123 = .ok (.iload_n 3, 1) := by decide +kernel
theorem d7_occurrence_124 : decode b7_occurrence 124 = .ok (.iaload, 1) := by decide +kernel
theorem d7_occurrence_125 : decode b7_occurrence 125 = .ok (.ireturn, 1) := by decide +kernel
theorem d7_occurrence_126 : decode b7_occurrence 126 = .ok (.aload_n 0, 1) := by decide +kernel
theorem d7_occurrence_127 : decode b7_occurrence 127 = .ok (.getfield 32, 3) := by decide +kernel
theorem d7_occurrence_130 : decode b7_occurrence 130 = .ok (.getfield 177, 3) := by decide +kernel
theorem d7_occurrence_133 : decode b7_occurrence 133 = .ok (.iload_n 3, 1) := by decide +kernel
theorem d7_occurrence_134 : decode b7_occurrence 134 = .ok (.iaload, 1) := by decide +kernel
theorem d7_occurrence_135 : decode b7_occurrence 135 = .ok (.ireturn, 1) := by decide +kernel
theorem d7_occurrence_136 : decode b7_occurrence 136 = .ok (.aload_n 0, 1) := by decide +kernel
theorem d7_occurrence_137 : decode b7_occurrence 137 = .ok (.getfield 32, 3) := by decide +kernel
theorem d7_occurrence_140 : decode b7_occurrence 140 = .ok (.getfield 180, 3) := by decide +kernel
theorem d7_occurrence_143 : decode b7_occurrence 143 = .ok (.iload_n 3, 1) := by decide +kernel
theorem d7_occurrence_144 : decode b7_occurrence 144 = .ok (.baload, 1) := by decide +kernel
theorem d7_occurrence_145 : decode b7_occurrence 145 = .ok (.ifCond .eq 7, 3) := by decide +kernel
theorem d7_occurrence_152 : decode b7_occurrence 152 = .ok (.iconst 0, 1) := by decide +kernel
theorem d7_occurrence_153 : decode b7_occurrence 153 = .ok (.ireturn, 1) := by decide +kernel
theorem d7_occurrence_148 : decode b7_occurrence 148 = .ok (.iconst 1, 1) := by decide +kernel
theorem d7_occurrence_149 : decode b7_occurrence 149 = .ok (.goto 4, 3) := by decide +kernel
theorem d7_occurrence_154 : decode b7_occurrence 154 = .ok (.aload_n 0, 1) := by decide +kernel
theorem d7_occurrence_155 : decode b7_occurrence 155 = .ok (.getfield 32, 3) := by decide +kernel
theorem d7_occurrence_158 : decode b7_occurrence 158 = .ok (.getfield 183, 3) := by decide +kernel
theorem d7_occurrence_161 : decode b7_occurrence 161 = .ok (.iload_n 3, 1) := by decide +kernel
theorem d7_occurrence_162 : decode b7_occurrence 162 = .ok (.iaload, 1) := by decide +kernel
theorem d7_occurrence_163 : decode b7_occurrence 163 = .ok (.ireturn, 1) := by decide +kernel
theorem d7_occurrence_164 : decode b7_occurrence 164 = .ok (.aload_n 0, 1) := by decide +kernel
theorem d7_occurrence_165 : decode b7_occurrence 165 = .ok (.getfield 49, 3) := by decide +kernel
theorem d7_occurrence_168 : decode b7_occurrence 168 = .ok (.iload_n 1, 1) := by decide +kernel
theorem d7_occurrence_169 : decode b7_occurrence 169 = .ok (.baload, 1) := by decide +kernel
theorem d7_occurrence_170 : decode b7_occurrence 170 = .ok (.ifCond .eq 7, 3) := by decide +kernel
theorem d7_occurrence_177 : decode b7_occurrence 177 = .ok (.iconst 0, 1) := by decide +kernel
theorem d7_occurrence_178 : decode b7_occurrence 178 = .ok (.ireturn, 1) := by decide +kernel
theorem d7_occurrence_173 : decode b7_occurrence 173 = .ok (.iconst 1, 1) := by decide +kernel
theorem d7_occurrence_174 : decode b7_occurrence 174 = .ok (.goto 4, 3) := by decide +kernel
theorem d7_occurrence_179 : decode b7_occurrence 179 = .ok (.aload_n 0, 1) := by decide +kernel
theorem d7_occurrence_180 : decode b7_occurrence 180 = .ok (.getfield 52, 3) := by decide +kernel
theorem d7_occurrence_183 : decode b7_occurrence 183 = .ok (.iload_n 1, 1) := by decide +kernel
theorem d7_occurrence_184 : decode b7_occurrence 184 = .ok (.baload, 1) := by decide +kernel
theorem d7_occurrence_185 : decode b7_occurrence 185 = .ok (.ifCond .eq 7, 3) := by decide +kernel
theorem d7_occurrence_192 : decode b7_occurrence 192 = .ok (.iconst 0, 1) := by decide +kernel
theorem d7_occurrence_193 : decode b7_occurrence 193 = .ok (.ireturn, 1) := by decide +kernel
theorem d7_occurrence_188 : decode b7_occurrence 188 = .ok (.iconst 1, 1) := by decide +kernel
theorem d7_occurrence_189 : decode b7_occurrence 189 = .ok (.goto 4, 3) := by decide +kernel
theorem d7_occurrence_194 : decode b7_occurrence 194 = .ok (.aload_n 0, 1) := by decide +kernel
theorem d7_occurrence_195 : decode b7_occurrence 195 = .ok (.iload_n 1, 1) := by decide +kernel
theorem d7_occurrence_196 : decode b7_occurrence 196 = .ok (.invokevirtual 279, 3) := by decide +kernel
theorem d7_occurrence_199 : decode b7_occurrence 199 = .ok (.ireturn, 1) := by decide +kernel
theorem d7_occurrence_200 : decode b7_occurrence 200 = .ok (.aload_n 0, 1) := by decide +kernel
theorem d7_occurrence_201 : decode b7_occurrence 201 = .ok (.iload_n 1, 1) := by decide +kernel
theorem d7_occurrence_202 : decode b7_occurrence 202 = .ok (.invokevirtual 361, 3) := by decide +kernel
theorem d7_occurrence_205 : decode b7_occurrence 205 = .ok (.ireturn, 1) := by decide +kernel
theorem d7_text_0 : decode b7_text 0 = .ok (.aload_n 0, 1) := by decide +kernel
theorem d7_text_1 : decode b7_text 1 = .ok (.iconst 0, 1) := by decide +kernel
theorem d7_text_2 : decode b7_text 2 = .ok (.putfield 79, 3) := by decide +kernel
theorem d7_text_5 : decode b7_text 5 = .ok (.aload_n 0, 1) := by decide +kernel
theorem d7_text_6 : decode b7_text 6 = .ok (.iconst 1, 1) := by decide +kernel
theorem d7_text_7 : decode b7_text 7 = .ok (.invokevirtual 342, 3) := by decide +kernel
theorem d7_text_10 : decode b7_text 10 = .ok (.ifCond .eq 5, 3) := by decide +kernel
theorem d7_text_15 : decode b7_text 15 = .ok (.aload_n 0, 1) := by decide +kernel
theorem d7_text_16 : decode b7_text 16 = .ok (.invokevirtual 364, 3) := by decide +kernel
theorem d7_text_19 : decode b7_text 19 = .ok (.iload_n 1, 1) := by decide +kernel
theorem d7_text_20 : decode b7_text 20 = .ok (.iconst 0, 1) := by decide +kernel
theorem d7_text_21 : decode b7_text 21 = .ok (.aload_n 0, 1) := by decide +kernel
theorem d7_text_22 : decode b7_text 22 = .ok (.getfield 285, 3) := by decide +kernel
theorem d7_text_25 : decode b7_text 25 = .ok (.iconst 1, 1) := by decide +kernel
theorem d7_text_26 : decode b7_text 26 = .ok (.isub, 1) := by decide +kernel
theorem d7_text_27 : decode b7_text 27 = .ok (.invokestatic 85, 3) := by decide +kernel
theorem d7_text_30 : decode b7_text 30 = .ok (.ifCond .eq 12, 3) := by decide +kernel
theorem d7_text_42 : decode b7_text 42 = .ok (.iconst (-1), 1) := by decide +kernel
theorem d7_text_43 : decode b7_text 43 = .ok (.ireturn, 1) := by decide +kernel
theorem d7_text_33 : decode b7_text 33 = .ok (.aload_n 0, 1) := by decide +kernel
theorem d7_text_34 : decode b7_text 34 = .ok (.getfield 61, 3) := by decide +kernel
theorem d7_text_37 : decode b7_text 37 = .ok (.iload_n 1, 1) := by decide +kernel
theorem d7_text_38 : decode b7_text 38 = .ok (.iaload, 1) := by decide +kernel
theorem d7_text_39 : decode b7_text 39 = .ok (.goto 4, 3) := by decide +kernel
theorem d7_text_13 : decode b7_text 13 = .ok (.iconst 0, 1) := by decide +kernel
theorem d7_text_14 : decode b7_text 14 = .ok (.ireturn, 1) := by decide +kernel
theorem d7_orderAt_0 : decode b7_orderAt 0 = .ok (.aload_n 0, 1) := by decide +kernel
theorem d7_orderAt_1 : decode b7_orderAt 1 = .ok (.iconst 0, 1) := by decide +kernel
theorem d7_orderAt_2 : decode b7_orderAt 2 = .ok (.putfield 79, 3) := by decide +kernel
theorem d7_orderAt_5 : decode b7_orderAt 5 = .ok (.aload_n 0, 1) := by decide +kernel
theorem d7_orderAt_6 : decode b7_orderAt 6 = .ok (.iconst 1, 1) := by decide +kernel
theorem d7_orderAt_7 : decode b7_orderAt 7 = .ok (.invokevirtual 342, 3) := by decide +kernel
theorem d7_orderAt_10 : decode b7_orderAt 10 = .ok (.ifCond .eq 5, 3) := by decide +kernel
theorem d7_orderAt_15 : decode b7_orderAt 15 = .ok (.aload_n 0, 1) := by decide +kernel
theorem d7_orderAt_16 : decode b7_orderAt 16 = .ok (.invokevirtual 345, 3) := by decide +kernel
theorem d7_orderAt_19 : decode b7_orderAt 19 = .ok (.iload_n 1, 1) := by decide +kernel
theorem d7_orderAt_20 : decode b7_orderAt 20 = .ok (.iconst 0, 1) := by decide +kernel
theorem d7_orderAt_21 : decode b7_orderAt 21 = .ok (.aload_n 0, 1) := by decide +kernel
theorem d7_orderAt_22 : decode b7_orderAt 22 = .ok (.getfield 310, 3) := by decide +kernel
theorem d7_orderAt_25 : decode b7_orderAt 25 = .ok (.iconst 1, 1) := by decide +kernel
theorem d7_orderAt_26 : decode b7_orderAt 26 = .ok (.isub, 1) := by decide +kernel
theorem d7_orderAt_27 : decode b7_orderAt 27 = .ok (.invokestatic 85, 3) := by decide +kernel
theorem d7_orderAt_30 : decode b7_orderAt 30 = .ok (.ifCond .eq 12, 3) := by decide +kernel
theorem d7_orderAt_42 : decode b7_orderAt 42 = .ok (.iconst (-1), 1) := by decide +kernel
theorem d7_orderAt_43 : decode b7_orderAt 43 = .ok (.ireturn, 1) := by decide +kernel
theorem d7_orderAt_33 : decode b7_orderAt 33 = .ok (.aload_n 0, 1) := by decide +kernel
theorem d7_orderAt_34 : decode b7_orderAt 34 = .ok (.getfield 70, 3) := by decide +kernel
theorem d7_orderAt_37 : decode b7_orderAt 37 = .ok (.iload_n 1, 1) := by decide +kernel
theorem d7_orderAt_38 : decode b7_orderAt 38 = .ok (.iaload, 1) := by decide +kernel
theorem d7_orderAt_39 : decode b7_orderAt 39 = .ok (.goto 4, 3) := by decide +kernel
theorem d7_orderAt_13 : decode b7_orderAt 13 = .ok (.iconst 0, 1) := by decide +kernel
theorem d7_orderAt_14 : decode b7_orderAt 14 = .ok (.ireturn, 1) := by decide +kernel
theorem d7_whyOf_0 : decode b7_whyOf 0 = .ok (.aload_n 0, 1) := by decide +kernel
theorem d7_whyOf_1 : decode b7_whyOf 1 = .ok (.getfield 257, 3) := by decide +kernel
theorem d7_whyOf_4 : decode b7_whyOf 4 = .ok (.iload_n 1, 1) := by decide +kernel
theorem d7_whyOf_5 : decode b7_whyOf 5 = .ok (.invokestatic 168, 3) := by decide +kernel
theorem d7_whyOf_8 : decode b7_whyOf 8 = .ok (.ifCond .eq 5, 3) := by decide +kernel
theorem d7_whyOf_13 : decode b7_whyOf 13 = .ok (.aload_n 0, 1) := by decide +kernel
