theorem dX4_init_0 : decode cX4_init 0 = .ok (.aload_n 0, 1) := by decide +kernel
theorem dX4_init_1 : decode cX4_init 1 = .ok (.invokespecial 1, 3) := by decide +kernel
theorem dX4_init_4 : decode cX4_init 4 = .ok (.aload_n 0, 1) := by decide +kernel
theorem dX4_init_5 : decode cX4_init 5 = .ok (.sipush 390, 3) := by decide +kernel
theorem dX4_init_8 : decode cX4_init 8 = .ok (.newarray .int, 2) := by decide +kernel
theorem dX4_init_10 : decode cX4_init 10 = .ok (.putfield 7, 3) := by decide +kernel
theorem dX4_init_13 : decode cX4_init 13 = .ok (.aload_n 0, 1) := by decide +kernel
theorem dX4_init_14 : decode cX4_init 14 = .ok (.sipush 390, 3) := by decide +kernel
theorem dX4_init_17 : decode cX4_init 17 = .ok (.newarray .int, 2) := by decide +kernel
theorem dX4_init_19 : decode cX4_init 19 = .ok (.putfield 13, 3) := by decide +kernel
theorem dX4_init_22 : decode cX4_init 22 = .ok (.aload_n 0, 1) := by decide +kernel
theorem dX4_init_23 : decode cX4_init 23 = .ok (.sipush 2340, 3) := by decide +kernel
theorem dX4_init_26 : decode cX4_init 26 = .ok (.newarray .int, 2) := by decide +kernel
theorem dX4_init_28 : decode cX4_init 28 = .ok (.putfield 16, 3) := by decide +kernel
theorem dX4_init_31 : decode cX4_init 31 = .ok (.aload_n 0, 1) := by decide +kernel
theorem dX4_init_32 : decode cX4_init 32 = .ok (.sipush 780, 3) := by decide +kernel
theorem dX4_init_35 : decode cX4_init 35 = .ok (.newarray .int, 2) := by decide +kernel
theorem dX4_init_37 : decode cX4_init 37 = .ok (.putfield 19, 3) := by decide +kernel
theorem dX4_init_40 : decode cX4_init 40 = .ok (.aload_n 0, 1) := by decide +kernel
theorem dX4_init_41 : decode cX4_init 41 = .ok (.iconst 2, 1) := by decide +kernel
theorem dX4_init_42 : decode cX4_init 42 = .ok (.newarray .boolean, 2) := by decide +kernel
theorem dX4_init_44 : decode cX4_init 44 = .ok (.putfield 22, 3) := by decide +kernel
theorem dX4_init_47 : decode cX4_init 47 = .ok (.aload_n 0, 1) := by decide +kernel
theorem dX4_init_48 : decode cX4_init 48 = .ok (.bipush 60, 2) := by decide +kernel
theorem dX4_init_50 : decode cX4_init 50 = .ok (.newarray .int, 2) := by decide +kernel
theorem dX4_init_52 : decode cX4_init 52 = .ok (.putfield 26, 3) := by decide +kernel
theorem dX4_init_55 : decode cX4_init 55 = .ok (.aload_n 0, 1) := by decide +kernel
theorem dX4_init_56 : decode cX4_init 56 = .ok (.sipush 180, 3) := by decide +kernel
theorem dX4_init_59 : decode cX4_init 59 = .ok (.newarray .int, 2) := by decide +kernel
theorem dX4_init_61 : decode cX4_init 61 = .ok (.putfield 29, 3) := by decide +kernel
theorem dX4_init_64 : decode cX4_init 64 = .ok (.aload_n 0, 1) := by decide +kernel
theorem dX4_init_65 : decode cX4_init 65 = .ok (.getfield 7, 3) := by decide +kernel
theorem dX4_init_68 : decode cX4_init 68 = .ok (.iconst 0, 1) := by decide +kernel
theorem dX4_init_69 : decode cX4_init 69 = .ok (.bipush 6, 2) := by decide +kernel
theorem dX4_init_71 : decode cX4_init 71 = .ok (.iastore, 1) := by decide +kernel
theorem dX4_init_72 : decode cX4_init 72 = .ok (.aload_n 0, 1) := by decide +kernel
theorem dX4_init_73 : decode cX4_init 73 = .ok (.getfield 7, 3) := by decide +kernel
theorem dX4_init_76 : decode cX4_init 76 = .ok (.iconst 1, 1) := by decide +kernel
theorem dX4_init_77 : decode cX4_init 77 = .ok (.iconst 4, 1) := by decide +kernel
theorem dX4_init_78 : decode cX4_init 78 = .ok (.iastore, 1) := by decide +kernel
theorem dX4_init_79 : decode cX4_init 79 = .ok (.aload_n 0, 1) := by decide +kernel
theorem dX4_init_80 : decode cX4_init 80 = .ok (.getfield 7, 3) := by decide +kernel
theorem dX4_init_83 : decode cX4_init 83 = .ok (.iconst 2, 1) := by decide +kernel
theorem dX4_init_84 : decode cX4_init 84 = .ok (.iconst 5, 1) := by decide +kernel
theorem dX4_init_85 : decode cX4_init 85 = .ok (.iastore, 1) := by decide +kernel
theorem dX4_init_86 : decode cX4_init 86 = .ok (.iconst 0, 1) := by decide +kernel
theorem dX4_init_87 : decode cX4_init 87 = .ok (.istore_n 1, 1) := by decide +kernel
theorem dX4_init_88 : decode cX4_init 88 = .ok (.iload_n 1, 1) := by decide +kernel
theorem dX4_init_89 : decode cX4_init 89 = .ok (.iconst 4, 1) := by decide +kernel
theorem dX4_init_90 : decode cX4_init 90 = .ok (.if_icmp .ge 19, 3) := by decide +kernel
theorem dX4_init_93 : decode cX4_init 93 = .ok (.aload_n 0, 1) := by decide +kernel
theorem dX4_init_94 : decode cX4_init 94 = .ok (.getfield 7, 3) := by decide +kernel
theorem dX4_init_97 : decode cX4_init 97 = .ok (.bipush 15, 2) := by decide +kernel
theorem dX4_init_99 : decode cX4_init 99 = .ok (.iload_n 1, 1) := by decide +kernel
theorem dX4_init_100 : decode cX4_init 100 = .ok (.iadd, 1) := by decide +kernel
theorem dX4_init_101 : decode cX4_init 101 = .ok (.iconst 1, 1) := by decide +kernel
theorem dX4_init_102 : decode cX4_init 102 = .ok (.iastore, 1) := by decide +kernel
theorem dX4_init_103 : decode cX4_init 103 = .ok (.iinc 1 1, 3) := by decide +kernel
theorem dX4_init_106 : decode cX4_init 106 = .ok (.goto (-18), 3) := by decide +kernel
theorem dX4_init_109 : decode cX4_init 109 = .ok (.return_, 1) := by decide +kernel
theorem dX4_in_0 : decode cX4_in 0 = .ok (.iload_n 0, 1) := by decide +kernel
theorem dX4_in_1 : decode cX4_in 1 = .ok (.iload_n 1, 1) := by decide +kernel
theorem dX4_in_2 : decode cX4_in 2 = .ok (.if_icmp .lt 12, 3) := by decide +kernel
theorem dX4_in_5 : decode cX4_in 5 = .ok (.iload_n 0, 1) := by decide +kernel
theorem dX4_in_6 : decode cX4_in 6 = .ok (.iload_n 2, 1) := by decide +kernel
theorem dX4_in_7 : decode cX4_in 7 = .ok (.if_icmp .gt 7, 3) := by decide +kernel
theorem dX4_in_10 : decode cX4_in 10 = .ok (.iconst 1, 1) := by decide +kernel
theorem dX4_in_11 : decode cX4_in 11 = .ok (.goto 4, 3) := by decide +kernel
theorem dX4_in_14 : decode cX4_in 14 = .ok (.iconst 0, 1) := by decide +kernel
theorem dX4_in_15 : decode cX4_in 15 = .ok (.ireturn, 1) := by decide +kernel
theorem dX4_has_0 : decode cX4_has 0 = .ok (.iload_n 0, 1) := by decide +kernel
theorem dX4_has_1 : decode cX4_has 1 = .ok (.iload_n 1, 1) := by decide +kernel
theorem dX4_has_2 : decode cX4_has 2 = .ok (.ishr, 1) := by decide +kernel
theorem dX4_has_3 : decode cX4_has 3 = .ok (.iconst 1, 1) := by decide +kernel
theorem dX4_has_4 : decode cX4_has 4 = .ok (.iand, 1) := by decide +kernel
theorem dX4_has_5 : decode cX4_has 5 = .ok (.iconst 1, 1) := by decide +kernel
theorem dX4_has_6 : decode cX4_has 6 = .ok (.if_icmp .ne 7, 3) := by decide +kernel
theorem dX4_has_9 : decode cX4_has 9 = .ok (.iconst 1, 1) := by decide +kernel
theorem dX4_has_10 : decode cX4_has 10 = .ok (.goto 4, 3) := by decide +kernel
theorem dX4_has_13 : decode cX4_has 13 = .ok (.iconst 0, 1) := by decide +kernel
theorem dX4_has_14 : decode cX4_has 14 = .ok (.ireturn, 1) := by decide +kernel
theorem dX4_record_0 : decode cX4_record 0 = .ok (.aload_n 0, 1) := by decide +kernel
theorem dX4_record_1 : decode cX4_record 1 = .ok (.getfield 32, 3) := by decide +kernel
theorem dX4_record_4 : decode cX4_record 4 = .ok (.ifCond .eq 4, 3) := by decide +kernel
theorem dX4_record_7 : decode cX4_record 7 = .ok (.return_, 1) := by decide +kernel
theorem dX4_record_8 : decode cX4_record 8 = .ok (.aload_n 0, 1) := by decide +kernel
theorem dX4_record_9 : decode cX4_record 9 = .ok (.getfield 36, 3) := by decide +kernel
theorem dX4_record_12 : decode cX4_record 12 = .ok (.bipush 6, 2) := by decide +kernel
theorem dX4_record_14 : decode cX4_record 14 = .ok (.if_icmp .ne 39, 3) := by decide +kernel
theorem dX4_record_17 : decode cX4_record 17 = .ok (.iconst 0, 1) := by decide +kernel
theorem dX4_record_18 : decode cX4_record 18 = .ok (.istore_n 1, 1) := by decide +kernel
theorem dX4_record_19 : decode cX4_record 19 = .ok (.iload_n 1, 1) := by decide +kernel
theorem dX4_record_20 : decode cX4_record 20 = .ok (.sipush 1950, 3) := by decide +kernel
theorem dX4_record_23 : decode cX4_record 23 = .ok (.if_icmp .ge 25, 3) := by decide +kernel
theorem dX4_record_26 : decode cX4_record 26 = .ok (.aload_n 0, 1) := by decide +kernel
theorem dX4_record_27 : decode cX4_record 27 = .ok (.getfield 16, 3) := by decide +kernel
theorem dX4_record_30 : decode cX4_record 30 = .ok (.iload_n 1, 1) := by decide +kernel
theorem dX4_record_31 : decode cX4_record 31 = .ok (.aload_n 0, 1) := by decide +kernel
theorem dX4_record_32 : decode cX4_record 32 = .ok (.getfield 16, 3) := by decide +kernel
theorem dX4_record_35 : decode cX4_record 35 = .ok (.iload_n 1, 1) := by decide +kernel
theorem dX4_record_36 : decode cX4_record 36 = .ok (.sipush 390, 3) := by decide +kernel
theorem dX4_record_39 : decode cX4_record 39 = .ok (.iadd, 1) := by decide +kernel
theorem dX4_record_40 : decode cX4_record 40 = .ok (.iaload, 1) := by decide +kernel
theorem dX4_record_41 : decode cX4_record 41 = .ok (.iastore, 1) := by decide +kernel
theorem dX4_record_42 : decode cX4_record 42 = .ok (.iinc 1 1, 3) := by decide +kernel
theorem dX4_record_45 : decode cX4_record 45 = .ok (.goto (-26), 3) := by decide +kernel
theorem dX4_record_48 : decode cX4_record 48 = .ok (.aload_n 0, 1) := by decide +kernel
theorem dX4_record_49 : decode cX4_record 49 = .ok (.iconst 5, 1) := by decide +kernel
theorem dX4_record_50 : decode cX4_record 50 = .ok (.putfield 36, 3) := by decide +kernel
theorem dX4_record_53 : decode cX4_record 53 = .ok (.iconst 0, 1) := by decide +kernel
theorem dX4_record_54 : decode cX4_record 54 = .ok (.istore_n 1, 1) := by decide +kernel
theorem dX4_record_55 : decode cX4_record 55 = .ok (.iload_n 1, 1) := by decide +kernel
theorem dX4_record_56 : decode cX4_record 56 = .ok (.sipush 390, 3) := by decide +kernel
theorem dX4_record_59 : decode cX4_record 59 = .ok (.if_icmp .ge 30, 3) := by decide +kernel
theorem dX4_record_62 : decode cX4_record 62 = .ok (.aload_n 0, 1) := by decide +kernel
theorem dX4_record_63 : decode cX4_record 63 = .ok (.getfield 16, 3) := by decide +kernel
theorem dX4_record_66 : decode cX4_record 66 = .ok (.aload_n 0, 1) := by decide +kernel
theorem dX4_record_67 : decode cX4_record 67 = .ok (.getfield 36, 3) := by decide +kernel
theorem dX4_record_70 : decode cX4_record 70 = .ok (.sipush 390, 3) := by decide +kernel
theorem dX4_record_73 : decode cX4_record 73 = .ok (.imul, 1) := by decide +kernel
theorem dX4_record_74 : decode cX4_record 74 = .ok (.iload_n 1, 1) := by decide +kernel
theorem dX4_record_75 : decode cX4_record 75 = .ok (.iadd, 1) := by decide +kernel
theorem dX4_record_76 : decode cX4_record 76 = .ok (.aload_n 0, 1) := by decide +kernel
theorem dX4_record_77 : decode cX4_record 77 = .ok (.getfield 7, 3) := by decide +kernel
theorem dX4_record_80 : decode cX4_record 80 = .ok (.iload_n 1, 1) := by decide +kernel
theorem dX4_record_81 : decode cX4_record 81 = .ok (.iaload, 1) := by decide +kernel
theorem dX4_record_82 : decode cX4_record 82 = .ok (.iastore, 1) := by decide +kernel
theorem dX4_record_83 : decode cX4_record 83 = .ok (.iinc 1 1, 3) := by decide +kernel
theorem dX4_record_86 : decode cX4_record 86 = .ok (.goto (-31), 3) := by decide +kernel
theorem dX4_record_89 : decode cX4_record 89 = .ok (.aload_n 0, 1) := by decide +kernel
theorem dX4_record_90 : decode cX4_record 90 = .ok (.dup, 1) := by decide +kernel
theorem dX4_record_91 : decode cX4_record 91 = .ok (.getfield 36, 3) := by decide +kernel
theorem dX4_record_94 : decode cX4_record 94 = .ok (.iconst 1, 1) := by decide +kernel
theorem dX4_record_95 : decode cX4_record 95 = .ok (.iadd, 1) := by decide +kernel
theorem dX4_record_96 : decode cX4_record 96 = .ok (.putfield 36, 3) := by decide +kernel
theorem dX4_record_99 : decode cX4_record 99 = .ok (.return_, 1) := by decide +kernel
theorem dX4_keep_0 : decode cX4_keep 0 = .ok (.iconst 0, 1) := by decide +kernel
theorem dX4_keep_1 : decode cX4_keep 1 = .ok (.istore_n 1, 1) := by decide +kernel
theorem dX4_keep_2 : decode cX4_keep 2 = .ok (.iload_n 1, 1) := by decide +kernel
theorem dX4_keep_3 : decode cX4_keep 3 = .ok (.sipush 390, 3) := by decide +kernel
theorem dX4_keep_6 : decode cX4_keep 6 = .ok (.if_icmp .ge 21, 3) := by decide +kernel
theorem dX4_keep_9 : decode cX4_keep 9 = .ok (.aload_n 0, 1) := by decide +kernel
theorem dX4_keep_10 : decode cX4_keep 10 = .ok (.getfield 13, 3) := by decide +kernel
theorem dX4_keep_13 : decode cX4_keep 13 = .ok (.iload_n 1, 1) := by decide +kernel
theorem dX4_keep_14 : decode cX4_keep 14 = .ok (.aload_n 0, 1) := by decide +kernel
theorem dX4_keep_15 : decode cX4_keep 15 = .ok (.getfield 7, 3) := by decide +kernel
theorem dX4_keep_18 : decode cX4_keep 18 = .ok (.iload_n 1, 1) := by decide +kernel
theorem dX4_keep_19 : decode cX4_keep 19 = .ok (.iaload, 1) := by decide +kernel
theorem dX4_keep_20 : decode cX4_keep 20 = .ok (.iastore, 1) := by decide +kernel
theorem dX4_keep_21 : decode cX4_keep 21 = .ok (.iinc 1 1, 3) := by decide +kernel
theorem dX4_keep_24 : decode cX4_keep 24 = .ok (.goto (-22), 3) := by decide +kernel
theorem dX4_keep_27 : decode cX4_keep 27 = .ok (.return_, 1) := by decide +kernel
theorem dX4_comeBack_0 : decode cX4_comeBack 0 = .ok (.iconst 0, 1) := by decide +kernel
theorem dX4_comeBack_1 : decode cX4_comeBack 1 = .ok (.istore_n 1, 1) := by decide +kernel
theorem dX4_comeBack_2 : decode cX4_comeBack 2 = .ok (.iload_n 1, 1) := by decide +kernel
theorem dX4_comeBack_3 : decode cX4_comeBack 3 = .ok (.sipush 390, 3) := by decide +kernel
theorem dX4_comeBack_6 : decode cX4_comeBack 6 = .ok (.if_icmp .ge 21, 3) := by decide +kernel
theorem dX4_comeBack_9 : decode cX4_comeBack 9 = .ok (.aload_n 0, 1) := by decide +kernel
theorem dX4_comeBack_10 : decode cX4_comeBack 10 = .ok (.getfield 7, 3) := by decide +kernel
theorem dX4_comeBack_13 : decode cX4_comeBack 13 = .ok (.iload_n 1, 1) := by decide +kernel
theorem dX4_comeBack_14 : decode cX4_comeBack 14 = .ok (.aload_n 0, 1) := by decide +kernel
theorem dX4_comeBack_15 : decode cX4_comeBack 15 = .ok (.getfield 13, 3) := by decide +kernel
theorem dX4_comeBack_18 : decode cX4_comeBack 18 = .ok (.iload_n 1, 1) := by decide +kernel
theorem dX4_comeBack_19 : decode cX4_comeBack 19 = .ok (.iaload, 1) := by decide +kernel
theorem dX4_comeBack_20 : decode cX4_comeBack 20 = .ok (.iastore, 1) := by decide +kernel
theorem dX4_comeBack_21 : decode cX4_comeBack 21 = .ok (.iinc 1 1, 3) := by decide +kernel
theorem dX4_comeBack_24 : decode cX4_comeBack 24 = .ok (.goto (-22), 3) := by decide +kernel
theorem dX4_comeBack_27 : decode cX4_comeBack 27 = .ok (.return_, 1) := by decide +kernel
theorem dX4_of_0 : decode cX4_of 0 = .ok (.aload_n 0, 1) := by decide +kernel
theorem dX4_of_1 : decode cX4_of 1 = .ok (.getfield 7, 3) := by decide +kernel
theorem dX4_of_4 : decode cX4_of 4 = .ok (.bipush 30, 2) := by decide +kernel
theorem dX4_of_6 : decode cX4_of 6 = .ok (.bipush 14, 2) := by decide +kernel
theorem dX4_of_8 : decode cX4_of 8 = .ok (.iload_n 1, 1) := by decide +kernel
theorem dX4_of_9 : decode cX4_of 9 = .ok (.imul, 1) := by decide +kernel
theorem dX4_of_10 : decode cX4_of 10 = .ok (.iadd, 1) := by decide +kernel
theorem dX4_of_11 : decode cX4_of 11 = .ok (.iload_n 2, 1) := by decide +kernel
theorem dX4_of_12 : decode cX4_of 12 = .ok (.iadd, 1) := by decide +kernel
theorem dX4_of_13 : decode cX4_of 13 = .ok (.iaload, 1) := by decide +kernel
theorem dX4_of_14 : decode cX4_of 14 = .ok (.ireturn, 1) := by decide +kernel
theorem dX4_book_0 : decode cX4_book 0 = .ok (.aload_n 0, 1) := by decide +kernel
theorem dX4_book_1 : decode cX4_book 1 = .ok (.getfield 7, 3) := by decide +kernel
theorem dX4_book_4 : decode cX4_book 4 = .ok (.bipush 30, 2) := by decide +kernel
theorem dX4_book_6 : decode cX4_book 6 = .ok (.bipush 14, 2) := by decide +kernel
theorem dX4_book_8 : decode cX4_book 8 = .ok (.iload_n 1, 1) := by decide +kernel
theorem dX4_book_9 : decode cX4_book 9 = .ok (.imul, 1) := by decide +kernel
theorem dX4_book_10 : decode cX4_book 10 = .ok (.iadd, 1) := by decide +kernel
theorem dX4_book_11 : decode cX4_book 11 = .ok (.iload_n 2, 1) := by decide +kernel
theorem dX4_book_12 : decode cX4_book 12 = .ok (.iadd, 1) := by decide +kernel
theorem dX4_book_13 : decode cX4_book 13 = .ok (.iload_n 3, 1) := by decide +kernel
theorem dX4_book_14 : decode cX4_book 14 = .ok (.iastore, 1) := by decide +kernel
theorem dX4_book_15 : decode cX4_book 15 = .ok (.return_, 1) := by decide +kernel
theorem dX4_isPart_0 : decode cX4_isPart 0 = .ok (.aload_n 0, 1) := by decide +kernel
theorem dX4_isPart_1 : decode cX4_isPart 1 = .ok (.iload_n 1, 1) := by decide +kernel
theorem dX4_isPart_2 : decode cX4_isPart 2 = .ok (.iconst 0, 1) := by decide +kernel
theorem dX4_isPart_3 : decode cX4_isPart 3 = .ok (.invokevirtual 40, 3) := by decide +kernel
theorem dX4_isPart_6 : decode cX4_isPart 6 = .ok (.iload_n 2, 1) := by decide +kernel
theorem dX4_isPart_7 : decode cX4_isPart 7 = .ok (.invokestatic 44, 3) := by decide +kernel
theorem dX4_isPart_10 : decode cX4_isPart 10 = .ok (.ireturn, 1) := by decide +kernel
theorem dX4_isIll_0 : decode cX4_isIll 0 = .ok (.aload_n 0, 1) := by decide +kernel
theorem dX4_isIll_1 : decode cX4_isIll 1 = .ok (.getfield 7, 3) := by decide +kernel
theorem dX4_isIll_4 : decode cX4_isIll 4 = .ok (.bipush 10, 2) := by decide +kernel
theorem dX4_isIll_6 : decode cX4_isIll 6 = .ok (.iload_n 1, 1) := by decide +kernel
theorem dX4_isIll_7 : decode cX4_isIll 7 = .ok (.iadd, 1) := by decide +kernel
theorem dX4_isIll_8 : decode cX4_isIll 8 = .ok (.iaload, 1) := by decide +kernel
theorem dX4_isIll_9 : decode cX4_isIll 9 = .ok (.iconst 1, 1) := by decide +kernel
theorem dX4_isIll_10 : decode cX4_isIll 10 = .ok (.if_icmp .ne 7, 3) := by decide +kernel
theorem dX4_isIll_13 : decode cX4_isIll 13 = .ok (.iconst 1, 1) := by decide +kernel
theorem dX4_isIll_14 : decode cX4_isIll 14 = .ok (.goto 4, 3) := by decide +kernel
theorem dX4_isIll_17 : decode cX4_isIll 17 = .ok (.iconst 0, 1) := by decide +kernel
theorem dX4_isIll_18 : decode cX4_isIll 18 = .ok (.ireturn, 1) := by decide +kernel
theorem dX4_send_0 : decode cX4_send 0 = .ok (.aload_n 0, 1) := by decide +kernel
theorem dX4_send_1 : decode cX4_send 1 = .ok (.getfield 7, 3) := by decide +kernel
theorem dX4_send_4 : decode cX4_send 4 = .ok (.bipush 25, 2) := by decide +kernel
theorem dX4_send_6 : decode cX4_send 6 = .ok (.iload_n 3, 1) := by decide +kernel
theorem dX4_send_7 : decode cX4_send 7 = .ok (.iadd, 1) := by decide +kernel
theorem dX4_send_8 : decode cX4_send 8 = .ok (.dup2, 1) := by decide +kernel
theorem dX4_send_9 : decode cX4_send 9 = .ok (.iaload, 1) := by decide +kernel
theorem dX4_send_10 : decode cX4_send 10 = .ok (.iconst 1, 1) := by decide +kernel
theorem dX4_send_11 : decode cX4_send 11 = .ok (.iadd, 1) := by decide +kernel
theorem dX4_send_12 : decode cX4_send 12 = .ok (.iastore, 1) := by decide +kernel
theorem dX4_send_13 : decode cX4_send 13 = .ok (.aload_n 0, 1) := by decide +kernel
theorem dX4_send_14 : decode cX4_send 14 = .ok (.getfield 7, 3) := by decide +kernel
theorem dX4_send_17 : decode cX4_send 17 = .ok (.bipush 6, 2) := by decide +kernel
theorem dX4_send_19 : decode cX4_send 19 = .ok (.iaload, 1) := by decide +kernel
theorem dX4_send_20 : decode cX4_send 20 = .ok (.bipush 60, 2) := by decide +kernel
theorem dX4_send_22 : decode cX4_send 22 = .ok (.if_icmp .ne 15, 3) := by decide +kernel
theorem dX4_send_25 : decode cX4_send 25 = .ok (.aload_n 0, 1) := by decide +kernel
theorem dX4_send_26 : decode cX4_send 26 = .ok (.getfield 7, 3) := by decide +kernel
theorem dX4_send_29 : decode cX4_send 29 = .ok (.bipush 8, 2) := by decide +kernel
theorem dX4_send_31 : decode cX4_send 31 = .ok (.dup2, 1) := by decide +kernel
theorem dX4_send_32 : decode cX4_send 32 = .ok (.iaload, 1) := by decide +kernel
theorem dX4_send_33 : decode cX4_send 33 = .ok (.iconst 1, 1) := by decide +kernel
theorem dX4_send_34 : decode cX4_send 34 = .ok (.iadd, 1) := by decide +kernel
theorem dX4_send_35 : decode cX4_send 35 = .ok (.iastore, 1) := by decide +kernel
theorem dX4_send_36 : decode cX4_send 36 = .ok (.return_, 1) := by decide +kernel
theorem dX4_send_37 : decode cX4_send 37 = .ok (.sipush 150, 3) := by decide +kernel
theorem dX4_send_40 : decode cX4_send 40 = .ok (.iconst 4, 1) := by decide +kernel
theorem dX4_send_41 : decode cX4_send 41 = .ok (.aload_n 0, 1) := by decide +kernel
theorem dX4_send_42 : decode cX4_send 42 = .ok (.getfield 7, 3) := by decide +kernel
theorem dX4_send_45 : decode cX4_send 45 = .ok (.bipush 6, 2) := by decide +kernel
theorem dX4_send_47 : decode cX4_send 47 = .ok (.iaload, 1) := by decide +kernel
theorem dX4_send_48 : decode cX4_send 48 = .ok (.imul, 1) := by decide +kernel
theorem dX4_send_49 : decode cX4_send 49 = .ok (.iadd, 1) := by decide +kernel
theorem dX4_send_50 : decode cX4_send 50 = .ok (.istore 5, 2) := by decide +kernel
theorem dX4_send_52 : decode cX4_send 52 = .ok (.aload_n 0, 1) := by decide +kernel
theorem dX4_send_53 : decode cX4_send 53 = .ok (.getfield 7, 3) := by decide +kernel
theorem dX4_send_56 : decode cX4_send 56 = .ok (.iload 5, 2) := by decide +kernel
theorem dX4_send_58 : decode cX4_send 58 = .ok (.iload_n 1, 1) := by decide +kernel
theorem dX4_send_59 : decode cX4_send 59 = .ok (.iastore, 1) := by decide +kernel
theorem dX4_send_60 : decode cX4_send 60 = .ok (.aload_n 0, 1) := by decide +kernel
theorem dX4_send_61 : decode cX4_send 61 = .ok (.getfield 7, 3) := by decide +kernel
theorem dX4_send_64 : decode cX4_send 64 = .ok (.iload 5, 2) := by decide +kernel
theorem dX4_send_66 : decode cX4_send 66 = .ok (.iconst 1, 1) := by decide +kernel
theorem dX4_send_67 : decode cX4_send 67 = .ok (.iadd, 1) := by decide +kernel
theorem dX4_send_68 : decode cX4_send 68 = .ok (.iload_n 2, 1) := by decide +kernel
theorem dX4_send_69 : decode cX4_send 69 = .ok (.iastore, 1) := by decide +kernel
theorem dX4_send_70 : decode cX4_send 70 = .ok (.aload_n 0, 1) := by decide +kernel
theorem dX4_send_71 : decode cX4_send 71 = .ok (.getfield 7, 3) := by decide +kernel
theorem dX4_send_74 : decode cX4_send 74 = .ok (.iload 5, 2) := by decide +kernel
theorem dX4_send_76 : decode cX4_send 76 = .ok (.iconst 2, 1) := by decide +kernel
theorem dX4_send_77 : decode cX4_send 77 = .ok (.iadd, 1) := by decide +kernel
theorem dX4_send_78 : decode cX4_send 78 = .ok (.iload_n 3, 1) := by decide +kernel
theorem dX4_send_79 : decode cX4_send 79 = .ok (.iastore, 1) := by decide +kernel
theorem dX4_send_80 : decode cX4_send 80 = .ok (.aload_n 0, 1) := by decide +kernel
theorem dX4_send_81 : decode cX4_send 81 = .ok (.getfield 7, 3) := by decide +kernel
theorem dX4_send_84 : decode cX4_send 84 = .ok (.iload 5, 2) := by decide +kernel
theorem dX4_send_86 : decode cX4_send 86 = .ok (.iconst 3, 1) := by decide +kernel
theorem dX4_send_87 : decode cX4_send 87 = .ok (.iadd, 1) := by decide +kernel
theorem dX4_send_88 : decode cX4_send 88 = .ok (.iload 4, 2) := by decide +kernel
theorem dX4_send_90 : decode cX4_send 90 = .ok (.iastore, 1) := by decide +kernel
theorem dX4_send_91 : decode cX4_send 91 = .ok (.aload_n 0, 1) := by decide +kernel
theorem dX4_send_92 : decode cX4_send 92 = .ok (.getfield 7, 3) := by decide +kernel
theorem dX4_send_95 : decode cX4_send 95 = .ok (.bipush 6, 2) := by decide +kernel
theorem dX4_send_97 : decode cX4_send 97 = .ok (.dup2, 1) := by decide +kernel
theorem dX4_send_98 : decode cX4_send 98 = .ok (.iaload, 1) := by decide +kernel
theorem dX4_send_99 : decode cX4_send 99 = .ok (.iconst 1, 1) := by decide +kernel
theorem dX4_send_100 : decode cX4_send 100 = .ok (.iadd, 1) := by decide +kernel
theorem dX4_send_101 : decode cX4_send 101 = .ok (.iastore, 1) := by decide +kernel
theorem dX4_send_102 : decode cX4_send 102 = .ok (.return_, 1) := by decide +kernel
theorem dX4_sendAll_0 : decode cX4_sendAll 0 = .ok (.iconst 0, 1) := by decide +kernel
theorem dX4_sendAll_1 : decode cX4_sendAll 1 = .ok (.istore 5, 2) := by decide +kernel
theorem dX4_sendAll_3 : decode cX4_sendAll 3 = .ok (.iload 5, 2) := by decide +kernel
theorem dX4_sendAll_5 : decode cX4_sendAll 5 = .ok (.iconst 4, 1) := by decide +kernel
theorem dX4_sendAll_6 : decode cX4_sendAll 6 = .ok (.if_icmp .ge 28, 3) := by decide +kernel
theorem dX4_sendAll_9 : decode cX4_sendAll 9 = .ok (.iload 4, 2) := by decide +kernel
theorem dX4_sendAll_11 : decode cX4_sendAll 11 = .ok (.iload 5, 2) := by decide +kernel
theorem dX4_sendAll_13 : decode cX4_sendAll 13 = .ok (.invokestatic 44, 3) := by decide +kernel
theorem dX4_sendAll_16 : decode cX4_sendAll 16 = .ok (.ifCond .eq 12, 3) := by decide +kernel
theorem dX4_sendAll_19 : decode cX4_sendAll 19 = .ok (.aload_n 0, 1) := by decide +kernel
theorem dX4_sendAll_20 : decode cX4_sendAll 20 = .ok (.iload_n 1, 1) := by decide +kernel
theorem dX4_sendAll_21 : decode cX4_sendAll 21 = .ok (.iload_n 2, 1) := by decide +kernel
theorem dX4_sendAll_22 : decode cX4_sendAll 22 = .ok (.iload_n 3, 1) := by decide +kernel
theorem dX4_sendAll_23 : decode cX4_sendAll 23 = .ok (.iload 5, 2) := by decide +kernel
theorem dX4_sendAll_25 : decode cX4_sendAll 25 = .ok (.invokevirtual 48, 3) := by decide +kernel
theorem dX4_sendAll_28 : decode cX4_sendAll 28 = .ok (.iinc 5 1, 3) := by decide +kernel
theorem dX4_sendAll_31 : decode cX4_sendAll 31 = .ok (.goto (-28), 3) := by decide +kernel
theorem dX4_sendAll_34 : decode cX4_sendAll 34 = .ok (.return_, 1) := by decide +kernel
theorem dX4_drop_0 : decode cX4_drop 0 = .ok (.aload_n 0, 1) := by decide +kernel
theorem dX4_drop_1 : decode cX4_drop 1 = .ok (.getfield 7, 3) := by decide +kernel
theorem dX4_drop_4 : decode cX4_drop 4 = .ok (.bipush 6, 2) := by decide +kernel
theorem dX4_drop_6 : decode cX4_drop 6 = .ok (.dup2, 1) := by decide +kernel
theorem dX4_drop_7 : decode cX4_drop 7 = .ok (.iaload, 1) := by decide +kernel
theorem dX4_drop_8 : decode cX4_drop 8 = .ok (.iconst 1, 1) := by decide +kernel
theorem dX4_drop_9 : decode cX4_drop 9 = .ok (.isub, 1) := by decide +kernel
theorem dX4_drop_10 : decode cX4_drop 10 = .ok (.iastore, 1) := by decide +kernel
theorem dX4_drop_11 : decode cX4_drop 11 = .ok (.sipush 150, 3) := by decide +kernel
theorem dX4_drop_14 : decode cX4_drop 14 = .ok (.iconst 4, 1) := by decide +kernel
theorem dX4_drop_15 : decode cX4_drop 15 = .ok (.iload_n 1, 1) := by decide +kernel
theorem dX4_drop_16 : decode cX4_drop 16 = .ok (.imul, 1) := by decide +kernel
theorem dX4_drop_17 : decode cX4_drop 17 = .ok (.iadd, 1) := by decide +kernel
theorem dX4_drop_18 : decode cX4_drop 18 = .ok (.istore_n 2, 1) := by decide +kernel
theorem dX4_drop_19 : decode cX4_drop 19 = .ok (.iload_n 2, 1) := by decide +kernel
theorem dX4_drop_20 : decode cX4_drop 20 = .ok (.sipush 150, 3) := by decide +kernel
theorem dX4_drop_23 : decode cX4_drop 23 = .ok (.iconst 4, 1) := by decide +kernel
theorem dX4_drop_24 : decode cX4_drop 24 = .ok (.aload_n 0, 1) := by decide +kernel
theorem dX4_drop_25 : decode cX4_drop 25 = .ok (.getfield 7, 3) := by decide +kernel
theorem dX4_drop_28 : decode cX4_drop 28 = .ok (.bipush 6, 2) := by decide +kernel
theorem dX4_drop_30 : decode cX4_drop 30 = .ok (.iaload, 1) := by decide +kernel
theorem dX4_drop_31 : decode cX4_drop 31 = .ok (.imul, 1) := by decide +kernel
theorem dX4_drop_32 : decode cX4_drop 32 = .ok (.iadd, 1) := by decide +kernel
theorem dX4_drop_33 : decode cX4_drop 33 = .ok (.if_icmp .ge 23, 3) := by decide +kernel
theorem dX4_drop_36 : decode cX4_drop 36 = .ok (.aload_n 0, 1) := by decide +kernel
theorem dX4_drop_37 : decode cX4_drop 37 = .ok (.getfield 7, 3) := by decide +kernel
theorem dX4_drop_40 : decode cX4_drop 40 = .ok (.iload_n 2, 1) := by decide +kernel
theorem dX4_drop_41 : decode cX4_drop 41 = .ok (.aload_n 0, 1) := by decide +kernel
theorem dX4_drop_42 : decode cX4_drop 42 = .ok (.getfield 7, 3) := by decide +kernel
theorem dX4_drop_45 : decode cX4_drop 45 = .ok (.iload_n 2, 1) := by decide +kernel
theorem dX4_drop_46 : decode cX4_drop 46 = .ok (.iconst 4, 1) := by decide +kernel
theorem dX4_drop_47 : decode cX4_drop 47 = .ok (.iadd, 1) := by decide +kernel
theorem dX4_drop_48 : decode cX4_drop 48 = .ok (.iaload, 1) := by decide +kernel
theorem dX4_drop_49 : decode cX4_drop 49 = .ok (.iastore, 1) := by decide +kernel
theorem dX4_drop_50 : decode cX4_drop 50 = .ok (.iinc 2 1, 3) := by decide +kernel
theorem dX4_drop_53 : decode cX4_drop 53 = .ok (.goto (-34), 3) := by decide +kernel
theorem dX4_drop_56 : decode cX4_drop 56 = .ok (.return_, 1) := by decide +kernel
theorem dX4_answer_0 : decode cX4_answer 0 = .ok (.aload_n 0, 1) := by decide +kernel
theorem dX4_answer_1 : decode cX4_answer 1 = .ok (.iload_n 1, 1) := by decide +kernel
theorem dX4_answer_2 : decode cX4_answer 2 = .ok (.iconst 1, 1) := by decide +kernel
theorem dX4_answer_3 : decode cX4_answer 3 = .ok (.invokevirtual 40, 3) := by decide +kernel
theorem dX4_answer_6 : decode cX4_answer 6 = .ok (.istore_n 3, 1) := by decide +kernel
theorem dX4_answer_7 : decode cX4_answer 7 = .ok (.iload_n 3, 1) := by decide +kernel
theorem dX4_answer_8 : decode cX4_answer 8 = .ok (.iconst 1, 1) := by decide +kernel
theorem dX4_answer_9 : decode cX4_answer 9 = .ok (.if_icmp .eq 8, 3) := by decide +kernel
theorem dX4_answer_12 : decode cX4_answer 12 = .ok (.iload_n 3, 1) := by decide +kernel
theorem dX4_answer_13 : decode cX4_answer 13 = .ok (.iconst 3, 1) := by decide +kernel
theorem dX4_answer_14 : decode cX4_answer 14 = .ok (.if_icmp .ne 14, 3) := by decide +kernel
theorem dX4_answer_17 : decode cX4_answer 17 = .ok (.aload_n 0, 1) := by decide +kernel
theorem dX4_answer_18 : decode cX4_answer 18 = .ok (.iconst 3, 1) := by decide +kernel
theorem dX4_answer_19 : decode cX4_answer 19 = .ok (.iload_n 1, 1) := by decide +kernel
theorem dX4_answer_20 : decode cX4_answer 20 = .ok (.iconst 4, 1) := by decide +kernel
theorem dX4_answer_21 : decode cX4_answer 21 = .ok (.iload_n 2, 1) := by decide +kernel
theorem dX4_answer_22 : decode cX4_answer 22 = .ok (.invokevirtual 48, 3) := by decide +kernel
theorem dX4_answer_25 : decode cX4_answer 25 = .ok (.goto 16, 3) := by decide +kernel
theorem dX4_answer_28 : decode cX4_answer 28 = .ok (.iload_n 3, 1) := by decide +kernel
theorem dX4_answer_29 : decode cX4_answer 29 = .ok (.iconst 2, 1) := by decide +kernel
theorem dX4_answer_30 : decode cX4_answer 30 = .ok (.if_icmp .ne 11, 3) := by decide +kernel
theorem dX4_answer_33 : decode cX4_answer 33 = .ok (.aload_n 0, 1) := by decide +kernel
theorem dX4_answer_34 : decode cX4_answer 34 = .ok (.iconst 4, 1) := by decide +kernel
theorem dX4_answer_35 : decode cX4_answer 35 = .ok (.iload_n 1, 1) := by decide +kernel
theorem dX4_answer_36 : decode cX4_answer 36 = .ok (.iconst 4, 1) := by decide +kernel
theorem dX4_answer_37 : decode cX4_answer 37 = .ok (.iload_n 2, 1) := by decide +kernel
theorem dX4_answer_38 : decode cX4_answer 38 = .ok (.invokevirtual 48, 3) := by decide +kernel
theorem dX4_answer_41 : decode cX4_answer 41 = .ok (.return_, 1) := by decide +kernel
theorem dX4_tear_0 : decode cX4_tear 0 = .ok (.aload_n 0, 1) := by decide +kernel
theorem dX4_tear_1 : decode cX4_tear 1 = .ok (.iload_n 1, 1) := by decide +kernel
theorem dX4_tear_2 : decode cX4_tear 2 = .ok (.iconst 1, 1) := by decide +kernel
theorem dX4_tear_3 : decode cX4_tear 3 = .ok (.iconst 2, 1) := by decide +kernel
theorem dX4_tear_4 : decode cX4_tear 4 = .ok (.invokevirtual 52, 3) := by decide +kernel
theorem dX4_tear_7 : decode cX4_tear 7 = .ok (.aload_n 0, 1) := by decide +kernel
theorem dX4_tear_8 : decode cX4_tear 8 = .ok (.iconst 4, 1) := by decide +kernel
theorem dX4_tear_9 : decode cX4_tear 9 = .ok (.iload_n 1, 1) := by decide +kernel
theorem dX4_tear_10 : decode cX4_tear 10 = .ok (.iconst 4, 1) := by decide +kernel
theorem dX4_tear_11 : decode cX4_tear 11 = .ok (.iload_n 2, 1) := by decide +kernel
theorem dX4_tear_12 : decode cX4_tear 12 = .ok (.invokevirtual 56, 3) := by decide +kernel
theorem dX4_tear_15 : decode cX4_tear 15 = .ok (.return_, 1) := by decide +kernel
theorem dX4_get_0 : decode cX4_get 0 = .ok (.aload_n 0, 1) := by decide +kernel
theorem dX4_get_1 : decode cX4_get 1 = .ok (.iload_n 2, 1) := by decide +kernel
theorem dX4_get_2 : decode cX4_get 2 = .ok (.iconst 1, 1) := by decide +kernel
theorem dX4_get_3 : decode cX4_get 3 = .ok (.invokevirtual 40, 3) := by decide +kernel
theorem dX4_get_6 : decode cX4_get 6 = .ok (.istore 4, 2) := by decide +kernel
theorem dX4_get_8 : decode cX4_get 8 = .ok (.aload_n 0, 1) := by decide +kernel
theorem dX4_get_9 : decode cX4_get 9 = .ok (.iload_n 2, 1) := by decide +kernel
theorem dX4_get_10 : decode cX4_get 10 = .ok (.iconst 0, 1) := by decide +kernel
theorem dX4_get_11 : decode cX4_get 11 = .ok (.invokevirtual 40, 3) := by decide +kernel
theorem dX4_get_14 : decode cX4_get 14 = .ok (.istore 5, 2) := by decide +kernel
theorem dX4_get_16 : decode cX4_get 16 = .ok (.iload_n 1, 1) := by decide +kernel
theorem dX4_get_17 : decode cX4_get 17 = .ok (.tableswitch 173 1 5 #[35, 105, 173, 173, 126], 35) := by decide +kernel
theorem dX4_get_52 : decode cX4_get 52 = .ok (.iload 4, 2) := by decide +kernel
theorem dX4_get_54 : decode cX4_get 54 = .ok (.ifCond .eq 10, 3) := by decide +kernel
theorem dX4_get_57 : decode cX4_get 57 = .ok (.aload_n 0, 1) := by decide +kernel
theorem dX4_get_58 : decode cX4_get 58 = .ok (.iload_n 2, 1) := by decide +kernel
theorem dX4_get_59 : decode cX4_get 59 = .ok (.iload_n 3, 1) := by decide +kernel
theorem dX4_get_60 : decode cX4_get 60 = .ok (.invokevirtual 59, 3) := by decide +kernel
theorem dX4_get_63 : decode cX4_get 63 = .ok (.return_, 1) := by decide +kernel
theorem dX4_get_64 : decode cX4_get 64 = .ok (.aload_n 0, 1) := by decide +kernel
theorem dX4_get_65 : decode cX4_get 65 = .ok (.iload_n 2, 1) := by decide +kernel
theorem dX4_get_66 : decode cX4_get 66 = .ok (.iconst 4, 1) := by decide +kernel
theorem dX4_get_67 : decode cX4_get 67 = .ok (.aload_n 0, 1) := by decide +kernel
theorem dX4_get_68 : decode cX4_get 68 = .ok (.iload_n 2, 1) := by decide +kernel
theorem dX4_get_69 : decode cX4_get 69 = .ok (.iconst 4, 1) := by decide +kernel
theorem dX4_get_70 : decode cX4_get 70 = .ok (.invokevirtual 40, 3) := by decide +kernel
theorem dX4_get_73 : decode cX4_get 73 = .ok (.iconst 1, 1) := by decide +kernel
theorem dX4_get_74 : decode cX4_get 74 = .ok (.iload_n 3, 1) := by decide +kernel
theorem dX4_get_75 : decode cX4_get 75 = .ok (.ishl, 1) := by decide +kernel
theorem dX4_get_76 : decode cX4_get 76 = .ok (.ior, 1) := by decide +kernel
theorem dX4_get_77 : decode cX4_get 77 = .ok (.invokevirtual 52, 3) := by decide +kernel
theorem dX4_get_80 : decode cX4_get 80 = .ok (.aload_n 0, 1) := by decide +kernel
theorem dX4_get_81 : decode cX4_get 81 = .ok (.iload_n 2, 1) := by decide +kernel
theorem dX4_get_82 : decode cX4_get 82 = .ok (.iconst 4, 1) := by decide +kernel
theorem dX4_get_83 : decode cX4_get 83 = .ok (.invokevirtual 40, 3) := by decide +kernel
theorem dX4_get_86 : decode cX4_get 86 = .ok (.iload 5, 2) := by decide +kernel
theorem dX4_get_88 : decode cX4_get 88 = .ok (.if_icmp .ne 108, 3) := by decide +kernel
theorem dX4_get_91 : decode cX4_get 91 = .ok (.aload_n 0, 1) := by decide +kernel
theorem dX4_get_92 : decode cX4_get 92 = .ok (.iload_n 2, 1) := by decide +kernel
theorem dX4_get_93 : decode cX4_get 93 = .ok (.iconst 1, 1) := by decide +kernel
theorem dX4_get_94 : decode cX4_get 94 = .ok (.iconst 1, 1) := by decide +kernel
theorem dX4_get_95 : decode cX4_get 95 = .ok (.invokevirtual 52, 3) := by decide +kernel
theorem dX4_get_98 : decode cX4_get 98 = .ok (.aload_n 0, 1) := by decide +kernel
theorem dX4_get_99 : decode cX4_get 99 = .ok (.iload_n 2, 1) := by decide +kernel
theorem dX4_get_100 : decode cX4_get 100 = .ok (.iconst 3, 1) := by decide +kernel
theorem dX4_get_101 : decode cX4_get 101 = .ok (.aload_n 0, 1) := by decide +kernel
theorem dX4_get_102 : decode cX4_get 102 = .ok (.getfield 7, 3) := by decide +kernel
theorem dX4_get_105 : decode cX4_get 105 = .ok (.iconst 4, 1) := by decide +kernel
theorem dX4_get_106 : decode cX4_get 106 = .ok (.iaload, 1) := by decide +kernel
theorem dX4_get_107 : decode cX4_get 107 = .ok (.invokevirtual 52, 3) := by decide +kernel
theorem dX4_get_110 : decode cX4_get 110 = .ok (.aload_n 0, 1) := by decide +kernel
theorem dX4_get_111 : decode cX4_get 111 = .ok (.iconst 3, 1) := by decide +kernel
theorem dX4_get_112 : decode cX4_get 112 = .ok (.iload_n 2, 1) := by decide +kernel
theorem dX4_get_113 : decode cX4_get 113 = .ok (.iconst 4, 1) := by decide +kernel
theorem dX4_get_114 : decode cX4_get 114 = .ok (.iload 5, 2) := by decide +kernel
theorem dX4_get_116 : decode cX4_get 116 = .ok (.invokevirtual 56, 3) := by decide +kernel
theorem dX4_get_119 : decode cX4_get 119 = .ok (.goto 77, 3) := by decide +kernel
theorem dX4_get_122 : decode cX4_get 122 = .ok (.iload 4, 2) := by decide +kernel
theorem dX4_get_124 : decode cX4_get 124 = .ok (.ifCond .ne 72, 3) := by decide +kernel
theorem dX4_get_127 : decode cX4_get 127 = .ok (.aload_n 0, 1) := by decide +kernel
theorem dX4_get_128 : decode cX4_get 128 = .ok (.iload_n 2, 1) := by decide +kernel
theorem dX4_get_129 : decode cX4_get 129 = .ok (.iload 5, 2) := by decide +kernel
theorem dX4_get_131 : decode cX4_get 131 = .ok (.iconst 1, 1) := by decide +kernel
theorem dX4_get_132 : decode cX4_get 132 = .ok (.iload_n 3, 1) := by decide +kernel
theorem dX4_get_133 : decode cX4_get 133 = .ok (.ishl, 1) := by decide +kernel
theorem dX4_get_134 : decode cX4_get 134 = .ok (.iconst (-1), 1) := by decide +kernel
theorem dX4_get_135 : decode cX4_get 135 = .ok (.ixor, 1) := by decide +kernel
theorem dX4_get_136 : decode cX4_get 136 = .ok (.iand, 1) := by decide +kernel
theorem dX4_get_137 : decode cX4_get 137 = .ok (.invokevirtual 63, 3) := by decide +kernel
theorem dX4_get_140 : decode cX4_get 140 = .ok (.goto 56, 3) := by decide +kernel
theorem dX4_get_143 : decode cX4_get 143 = .ok (.iload 4, 2) := by decide +kernel
theorem dX4_get_145 : decode cX4_get 145 = .ok (.iconst 1, 1) := by decide +kernel
theorem dX4_get_146 : decode cX4_get 146 = .ok (.if_icmp .ne 50, 3) := by decide +kernel
theorem dX4_get_149 : decode cX4_get 149 = .ok (.aload_n 0, 1) := by decide +kernel
theorem dX4_get_150 : decode cX4_get 150 = .ok (.iload_n 2, 1) := by decide +kernel
theorem dX4_get_151 : decode cX4_get 151 = .ok (.iconst 5, 1) := by decide +kernel
theorem dX4_get_152 : decode cX4_get 152 = .ok (.aload_n 0, 1) := by decide +kernel
theorem dX4_get_153 : decode cX4_get 153 = .ok (.iload_n 2, 1) := by decide +kernel
theorem dX4_get_154 : decode cX4_get 154 = .ok (.iconst 5, 1) := by decide +kernel
theorem dX4_get_155 : decode cX4_get 155 = .ok (.invokevirtual 40, 3) := by decide +kernel
theorem dX4_get_158 : decode cX4_get 158 = .ok (.iconst 1, 1) := by decide +kernel
theorem dX4_get_159 : decode cX4_get 159 = .ok (.iload_n 3, 1) := by decide +kernel
theorem dX4_get_160 : decode cX4_get 160 = .ok (.ishl, 1) := by decide +kernel
theorem dX4_get_161 : decode cX4_get 161 = .ok (.ior, 1) := by decide +kernel
theorem dX4_get_162 : decode cX4_get 162 = .ok (.invokevirtual 52, 3) := by decide +kernel
theorem dX4_get_165 : decode cX4_get 165 = .ok (.aload_n 0, 1) := by decide +kernel
theorem dX4_get_166 : decode cX4_get 166 = .ok (.iload_n 2, 1) := by decide +kernel
theorem dX4_get_167 : decode cX4_get 167 = .ok (.iconst 1, 1) := by decide +kernel
theorem dX4_get_168 : decode cX4_get 168 = .ok (.aload_n 0, 1) := by decide +kernel
theorem dX4_get_169 : decode cX4_get 169 = .ok (.iload_n 2, 1) := by decide +kernel
theorem dX4_get_170 : decode cX4_get 170 = .ok (.iconst 5, 1) := by decide +kernel
theorem dX4_get_171 : decode cX4_get 171 = .ok (.invokevirtual 40, 3) := by decide +kernel
theorem dX4_get_174 : decode cX4_get 174 = .ok (.iload 5, 2) := by decide +kernel
theorem dX4_get_176 : decode cX4_get 176 = .ok (.if_icmp .ne 7, 3) := by decide +kernel
theorem dX4_get_179 : decode cX4_get 179 = .ok (.iconst 3, 1) := by decide +kernel
theorem dX4_get_180 : decode cX4_get 180 = .ok (.goto 4, 3) := by decide +kernel
theorem dX4_get_183 : decode cX4_get 183 = .ok (.iconst 1, 1) := by decide +kernel
theorem dX4_get_184 : decode cX4_get 184 = .ok (.invokevirtual 52, 3) := by decide +kernel
theorem dX4_get_187 : decode cX4_get 187 = .ok (.goto 9, 3) := by decide +kernel
theorem dX4_get_190 : decode cX4_get 190 = .ok (.aload_n 0, 1) := by decide +kernel
theorem dX4_get_191 : decode cX4_get 191 = .ok (.iload_n 2, 1) := by decide +kernel
theorem dX4_get_192 : decode cX4_get 192 = .ok (.iload_n 3, 1) := by decide +kernel
theorem dX4_get_193 : decode cX4_get 193 = .ok (.invokevirtual 59, 3) := by decide +kernel
theorem dX4_get_196 : decode cX4_get 196 = .ok (.return_, 1) := by decide +kernel
theorem dX4_become_0 : decode cX4_become 0 = .ok (.aload_n 0, 1) := by decide +kernel
theorem dX4_become_1 : decode cX4_become 1 = .ok (.iload_n 1, 1) := by decide +kernel
theorem dX4_become_2 : decode cX4_become 2 = .ok (.bipush 6, 2) := by decide +kernel
theorem dX4_become_4 : decode cX4_become 4 = .ok (.iload_n 2, 1) := by decide +kernel
theorem dX4_become_5 : decode cX4_become 5 = .ok (.iadd, 1) := by decide +kernel
theorem dX4_become_6 : decode cX4_become 6 = .ok (.iload_n 3, 1) := by decide +kernel
theorem dX4_become_7 : decode cX4_become 7 = .ok (.invokevirtual 52, 3) := by decide +kernel
theorem dX4_become_10 : decode cX4_become 10 = .ok (.return_, 1) := by decide +kernel
theorem dX4_getBy_0 : decode cX4_getBy 0 = .ok (.aload_n 0, 1) := by decide +kernel
theorem dX4_getBy_1 : decode cX4_getBy 1 = .ok (.iload_n 3, 1) := by decide +kernel
theorem dX4_getBy_2 : decode cX4_getBy 2 = .ok (.bipush 6, 2) := by decide +kernel
theorem dX4_getBy_4 : decode cX4_getBy 4 = .ok (.iload_n 1, 1) := by decide +kernel
theorem dX4_getBy_5 : decode cX4_getBy 5 = .ok (.iadd, 1) := by decide +kernel
theorem dX4_getBy_6 : decode cX4_getBy 6 = .ok (.invokevirtual 40, 3) := by decide +kernel
theorem dX4_getBy_9 : decode cX4_getBy 9 = .ok (.istore 5, 2) := by decide +kernel
theorem dX4_getBy_11 : decode cX4_getBy 11 = .ok (.iload_n 2, 1) := by decide +kernel
theorem dX4_getBy_12 : decode cX4_getBy 12 = .ok (.tableswitch 190 0 4 #[36, 190, 190, 132, 169], 36) := by decide +kernel
theorem dX4_getBy_48 : decode cX4_getBy 48 = .ok (.iload 5, 2) := by decide +kernel
theorem dX4_getBy_50 : decode cX4_getBy 50 = .ok (.ifCond .ne 41, 3) := by decide +kernel
theorem dX4_getBy_53 : decode cX4_getBy 53 = .ok (.aload_n 0, 1) := by decide +kernel
theorem dX4_getBy_54 : decode cX4_getBy 54 = .ok (.getfield 7, 3) := by decide +kernel
theorem dX4_getBy_57 : decode cX4_getBy 57 = .ok (.bipush 15, 2) := by decide +kernel
theorem dX4_getBy_59 : decode cX4_getBy 59 = .ok (.iload_n 1, 1) := by decide +kernel
theorem dX4_getBy_60 : decode cX4_getBy 60 = .ok (.iadd, 1) := by decide +kernel
theorem dX4_getBy_61 : decode cX4_getBy 61 = .ok (.iaload, 1) := by decide +kernel
theorem dX4_getBy_62 : decode cX4_getBy 62 = .ok (.iconst 1, 1) := by decide +kernel
theorem dX4_getBy_63 : decode cX4_getBy 63 = .ok (.if_icmp .ne 28, 3) := by decide +kernel
theorem dX4_getBy_66 : decode cX4_getBy 66 = .ok (.aload_n 0, 1) := by decide +kernel
theorem dX4_getBy_67 : decode cX4_getBy 67 = .ok (.iload_n 3, 1) := by decide +kernel
theorem dX4_getBy_68 : decode cX4_getBy 68 = .ok (.bipush 10, 2) := by decide +kernel
theorem dX4_getBy_70 : decode cX4_getBy 70 = .ok (.iload_n 1, 1) := by decide +kernel
theorem dX4_getBy_71 : decode cX4_getBy 71 = .ok (.iadd, 1) := by decide +kernel
theorem dX4_getBy_72 : decode cX4_getBy 72 = .ok (.aload_n 0, 1) := by decide +kernel
theorem dX4_getBy_73 : decode cX4_getBy 73 = .ok (.getfield 7, 3) := by decide +kernel
theorem dX4_getBy_76 : decode cX4_getBy 76 = .ok (.iconst 4, 1) := by decide +kernel
theorem dX4_getBy_77 : decode cX4_getBy 77 = .ok (.iaload, 1) := by decide +kernel
theorem dX4_getBy_78 : decode cX4_getBy 78 = .ok (.invokevirtual 52, 3) := by decide +kernel
theorem dX4_getBy_81 : decode cX4_getBy 81 = .ok (.aload_n 0, 1) := by decide +kernel
theorem dX4_getBy_82 : decode cX4_getBy 82 = .ok (.iload_n 3, 1) := by decide +kernel
theorem dX4_getBy_83 : decode cX4_getBy 83 = .ok (.iload_n 1, 1) := by decide +kernel
theorem dX4_getBy_84 : decode cX4_getBy 84 = .ok (.iconst 1, 1) := by decide +kernel
theorem dX4_getBy_85 : decode cX4_getBy 85 = .ok (.invokevirtual 66, 3) := by decide +kernel
theorem dX4_getBy_88 : decode cX4_getBy 88 = .ok (.goto 15, 3) := by decide +kernel
theorem dX4_getBy_91 : decode cX4_getBy 91 = .ok (.iload 5, 2) := by decide +kernel
theorem dX4_getBy_93 : decode cX4_getBy 93 = .ok (.ifCond .ne 10, 3) := by decide +kernel
theorem dX4_getBy_96 : decode cX4_getBy 96 = .ok (.aload_n 0, 1) := by decide +kernel
theorem dX4_getBy_97 : decode cX4_getBy 97 = .ok (.iload_n 3, 1) := by decide +kernel
theorem dX4_getBy_98 : decode cX4_getBy 98 = .ok (.iload_n 1, 1) := by decide +kernel
theorem dX4_getBy_99 : decode cX4_getBy 99 = .ok (.iconst 3, 1) := by decide +kernel
theorem dX4_getBy_100 : decode cX4_getBy 100 = .ok (.invokevirtual 66, 3) := by decide +kernel
theorem dX4_getBy_103 : decode cX4_getBy 103 = .ok (.aload_n 0, 1) := by decide +kernel
theorem dX4_getBy_104 : decode cX4_getBy 104 = .ok (.iload_n 3, 1) := by decide +kernel
theorem dX4_getBy_105 : decode cX4_getBy 105 = .ok (.bipush 6, 2) := by decide +kernel
theorem dX4_getBy_107 : decode cX4_getBy 107 = .ok (.iload_n 1, 1) := by decide +kernel
theorem dX4_getBy_108 : decode cX4_getBy 108 = .ok (.iadd, 1) := by decide +kernel
theorem dX4_getBy_109 : decode cX4_getBy 109 = .ok (.invokevirtual 40, 3) := by decide +kernel
theorem dX4_getBy_112 : decode cX4_getBy 112 = .ok (.iconst 2, 1) := by decide +kernel
theorem dX4_getBy_113 : decode cX4_getBy 113 = .ok (.if_icmp .eq 153, 3) := by decide +kernel
theorem dX4_getBy_116 : decode cX4_getBy 116 = .ok (.aload_n 0, 1) := by decide +kernel
theorem dX4_getBy_117 : decode cX4_getBy 117 = .ok (.aload_n 0, 1) := by decide +kernel
theorem dX4_getBy_118 : decode cX4_getBy 118 = .ok (.iload_n 3, 1) := by decide +kernel
theorem dX4_getBy_119 : decode cX4_getBy 119 = .ok (.bipush 6, 2) := by decide +kernel
theorem dX4_getBy_121 : decode cX4_getBy 121 = .ok (.iload_n 1, 1) := by decide +kernel
theorem dX4_getBy_122 : decode cX4_getBy 122 = .ok (.iadd, 1) := by decide +kernel
theorem dX4_getBy_123 : decode cX4_getBy 123 = .ok (.invokevirtual 40, 3) := by decide +kernel
theorem dX4_getBy_126 : decode cX4_getBy 126 = .ok (.iconst 1, 1) := by decide +kernel
theorem dX4_getBy_127 : decode cX4_getBy 127 = .ok (.if_icmp .ne 7, 3) := by decide +kernel
theorem dX4_getBy_130 : decode cX4_getBy 130 = .ok (.iconst 1, 1) := by decide +kernel
theorem dX4_getBy_131 : decode cX4_getBy 131 = .ok (.goto 4, 3) := by decide +kernel
theorem dX4_getBy_134 : decode cX4_getBy 134 = .ok (.iconst 2, 1) := by decide +kernel
theorem dX4_getBy_135 : decode cX4_getBy 135 = .ok (.iload_n 3, 1) := by decide +kernel
theorem dX4_getBy_136 : decode cX4_getBy 136 = .ok (.iload_n 1, 1) := by decide +kernel
theorem dX4_getBy_137 : decode cX4_getBy 137 = .ok (.iconst 4, 1) := by decide +kernel
theorem dX4_getBy_138 : decode cX4_getBy 138 = .ok (.invokevirtual 48, 3) := by decide +kernel
theorem dX4_getBy_141 : decode cX4_getBy 141 = .ok (.goto 125, 3) := by decide +kernel
theorem dX4_getBy_144 : decode cX4_getBy 144 = .ok (.iload 5, 2) := by decide +kernel
theorem dX4_getBy_146 : decode cX4_getBy 146 = .ok (.iconst 1, 1) := by decide +kernel
theorem dX4_getBy_147 : decode cX4_getBy 147 = .ok (.if_icmp .ne 10, 3) := by decide +kernel
theorem dX4_getBy_150 : decode cX4_getBy 150 = .ok (.aload_n 0, 1) := by decide +kernel
theorem dX4_getBy_151 : decode cX4_getBy 151 = .ok (.iload_n 3, 1) := by decide +kernel
theorem dX4_getBy_152 : decode cX4_getBy 152 = .ok (.iload_n 1, 1) := by decide +kernel
theorem dX4_getBy_153 : decode cX4_getBy 153 = .ok (.iconst 2, 1) := by decide +kernel
theorem dX4_getBy_154 : decode cX4_getBy 154 = .ok (.invokevirtual 66, 3) := by decide +kernel
theorem dX4_getBy_157 : decode cX4_getBy 157 = .ok (.aload_n 0, 1) := by decide +kernel
theorem dX4_getBy_158 : decode cX4_getBy 158 = .ok (.iload_n 3, 1) := by decide +kernel
theorem dX4_getBy_159 : decode cX4_getBy 159 = .ok (.bipush 6, 2) := by decide +kernel
theorem dX4_getBy_161 : decode cX4_getBy 161 = .ok (.iload_n 1, 1) := by decide +kernel
theorem dX4_getBy_162 : decode cX4_getBy 162 = .ok (.iadd, 1) := by decide +kernel
theorem dX4_getBy_163 : decode cX4_getBy 163 = .ok (.invokevirtual 40, 3) := by decide +kernel
theorem dX4_getBy_166 : decode cX4_getBy 166 = .ok (.iconst 2, 1) := by decide +kernel
theorem dX4_getBy_167 : decode cX4_getBy 167 = .ok (.if_icmp .ne 99, 3) := by decide +kernel
theorem dX4_getBy_170 : decode cX4_getBy 170 = .ok (.aload_n 0, 1) := by decide +kernel
theorem dX4_getBy_171 : decode cX4_getBy 171 = .ok (.iconst 5, 1) := by decide +kernel
theorem dX4_getBy_172 : decode cX4_getBy 172 = .ok (.iload_n 3, 1) := by decide +kernel
theorem dX4_getBy_173 : decode cX4_getBy 173 = .ok (.iload_n 1, 1) := by decide +kernel
theorem dX4_getBy_174 : decode cX4_getBy 174 = .ok (.iconst 4, 1) := by decide +kernel
theorem dX4_getBy_175 : decode cX4_getBy 175 = .ok (.invokevirtual 48, 3) := by decide +kernel
theorem dX4_getBy_178 : decode cX4_getBy 178 = .ok (.goto 88, 3) := by decide +kernel
theorem dX4_getBy_181 : decode cX4_getBy 181 = .ok (.iload 5, 2) := by decide +kernel
theorem dX4_getBy_183 : decode cX4_getBy 183 = .ok (.ifCond .eq 9, 3) := by decide +kernel
theorem dX4_getBy_186 : decode cX4_getBy 186 = .ok (.iload 5, 2) := by decide +kernel
theorem dX4_getBy_188 : decode cX4_getBy 188 = .ok (.iconst 1, 1) := by decide +kernel
theorem dX4_getBy_189 : decode cX4_getBy 189 = .ok (.if_icmp .ne 77, 3) := by decide +kernel
theorem dX4_getBy_192 : decode cX4_getBy 192 = .ok (.aload_n 0, 1) := by decide +kernel
theorem dX4_getBy_193 : decode cX4_getBy 193 = .ok (.iload_n 3, 1) := by decide +kernel
theorem dX4_getBy_194 : decode cX4_getBy 194 = .ok (.iload_n 1, 1) := by decide +kernel
theorem dX4_getBy_195 : decode cX4_getBy 195 = .ok (.iconst 3, 1) := by decide +kernel
theorem dX4_getBy_196 : decode cX4_getBy 196 = .ok (.invokevirtual 66, 3) := by decide +kernel
theorem dX4_getBy_199 : decode cX4_getBy 199 = .ok (.goto 67, 3) := by decide +kernel
theorem dX4_getBy_202 : decode cX4_getBy 202 = .ok (.iload 5, 2) := by decide +kernel
theorem dX4_getBy_204 : decode cX4_getBy 204 = .ok (.ifCond .ne 10, 3) := by decide +kernel
theorem dX4_getBy_207 : decode cX4_getBy 207 = .ok (.aload_n 0, 1) := by decide +kernel
theorem dX4_getBy_208 : decode cX4_getBy 208 = .ok (.iload_n 3, 1) := by decide +kernel
theorem dX4_getBy_209 : decode cX4_getBy 209 = .ok (.iload_n 1, 1) := by decide +kernel
theorem dX4_getBy_210 : decode cX4_getBy 210 = .ok (.iconst 3, 1) := by decide +kernel
theorem dX4_getBy_211 : decode cX4_getBy 211 = .ok (.invokevirtual 66, 3) := by decide +kernel
theorem dX4_getBy_214 : decode cX4_getBy 214 = .ok (.aload_n 0, 1) := by decide +kernel
theorem dX4_getBy_215 : decode cX4_getBy 215 = .ok (.iload_n 3, 1) := by decide +kernel
theorem dX4_getBy_216 : decode cX4_getBy 216 = .ok (.bipush 6, 2) := by decide +kernel
theorem dX4_getBy_218 : decode cX4_getBy 218 = .ok (.iload_n 1, 1) := by decide +kernel
theorem dX4_getBy_219 : decode cX4_getBy 219 = .ok (.iadd, 1) := by decide +kernel
theorem dX4_getBy_220 : decode cX4_getBy 220 = .ok (.invokevirtual 40, 3) := by decide +kernel
theorem dX4_getBy_223 : decode cX4_getBy 223 = .ok (.iconst 2, 1) := by decide +kernel
theorem dX4_getBy_224 : decode cX4_getBy 224 = .ok (.if_icmp .eq 16, 3) := by decide +kernel
theorem dX4_getBy_227 : decode cX4_getBy 227 = .ok (.aload_n 0, 1) := by decide +kernel
theorem dX4_getBy_228 : decode cX4_getBy 228 = .ok (.iload_n 3, 1) := by decide +kernel
theorem dX4_getBy_229 : decode cX4_getBy 229 = .ok (.bipush 6, 2) := by decide +kernel
theorem dX4_getBy_231 : decode cX4_getBy 231 = .ok (.iload_n 1, 1) := by decide +kernel
theorem dX4_getBy_232 : decode cX4_getBy 232 = .ok (.iadd, 1) := by decide +kernel
theorem dX4_getBy_233 : decode cX4_getBy 233 = .ok (.invokevirtual 40, 3) := by decide +kernel
theorem dX4_getBy_236 : decode cX4_getBy 236 = .ok (.iconst 3, 1) := by decide +kernel
theorem dX4_getBy_237 : decode cX4_getBy 237 = .ok (.if_icmp .ne 29, 3) := by decide +kernel
theorem dX4_getBy_240 : decode cX4_getBy 240 = .ok (.aload_n 0, 1) := by decide +kernel
theorem dX4_getBy_241 : decode cX4_getBy 241 = .ok (.aload_n 0, 1) := by decide +kernel
theorem dX4_getBy_242 : decode cX4_getBy 242 = .ok (.iload_n 3, 1) := by decide +kernel
theorem dX4_getBy_243 : decode cX4_getBy 243 = .ok (.bipush 6, 2) := by decide +kernel
theorem dX4_getBy_245 : decode cX4_getBy 245 = .ok (.iload_n 1, 1) := by decide +kernel
theorem dX4_getBy_246 : decode cX4_getBy 246 = .ok (.iadd, 1) := by decide +kernel
theorem dX4_getBy_247 : decode cX4_getBy 247 = .ok (.invokevirtual 40, 3) := by decide +kernel
theorem dX4_getBy_250 : decode cX4_getBy 250 = .ok (.iconst 2, 1) := by decide +kernel
theorem dX4_getBy_251 : decode cX4_getBy 251 = .ok (.if_icmp .ne 7, 3) := by decide +kernel
theorem dX4_getBy_254 : decode cX4_getBy 254 = .ok (.iconst 3, 1) := by decide +kernel
theorem dX4_getBy_255 : decode cX4_getBy 255 = .ok (.goto 4, 3) := by decide +kernel
theorem dX4_getBy_258 : decode cX4_getBy 258 = .ok (.iconst 4, 1) := by decide +kernel
theorem dX4_getBy_259 : decode cX4_getBy 259 = .ok (.iload_n 3, 1) := by decide +kernel
theorem dX4_getBy_260 : decode cX4_getBy 260 = .ok (.iload_n 1, 1) := by decide +kernel
theorem dX4_getBy_261 : decode cX4_getBy 261 = .ok (.iload 4, 2) := by decide +kernel
theorem dX4_getBy_263 : decode cX4_getBy 263 = .ok (.invokevirtual 48, 3) := by decide +kernel
theorem dX4_getBy_266 : decode cX4_getBy 266 = .ok (.return_, 1) := by decide +kernel
theorem dX4_deliverNow_0 : decode cX4_deliverNow 0 = .ok (.sipush 150, 3) := by decide +kernel
theorem dX4_deliverNow_3 : decode cX4_deliverNow 3 = .ok (.iconst 4, 1) := by decide +kernel
theorem dX4_deliverNow_4 : decode cX4_deliverNow 4 = .ok (.iload_n 1, 1) := by decide +kernel
theorem dX4_deliverNow_5 : decode cX4_deliverNow 5 = .ok (.imul, 1) := by decide +kernel
theorem dX4_deliverNow_6 : decode cX4_deliverNow 6 = .ok (.iadd, 1) := by decide +kernel
theorem dX4_deliverNow_7 : decode cX4_deliverNow 7 = .ok (.istore_n 2, 1) := by decide +kernel
theorem dX4_deliverNow_8 : decode cX4_deliverNow 8 = .ok (.aload_n 0, 1) := by decide +kernel
theorem dX4_deliverNow_9 : decode cX4_deliverNow 9 = .ok (.getfield 7, 3) := by decide +kernel
theorem dX4_deliverNow_12 : decode cX4_deliverNow 12 = .ok (.iload_n 2, 1) := by decide +kernel
theorem dX4_deliverNow_13 : decode cX4_deliverNow 13 = .ok (.iaload, 1) := by decide +kernel
theorem dX4_deliverNow_14 : decode cX4_deliverNow 14 = .ok (.istore_n 3, 1) := by decide +kernel
theorem dX4_deliverNow_15 : decode cX4_deliverNow 15 = .ok (.aload_n 0, 1) := by decide +kernel
theorem dX4_deliverNow_16 : decode cX4_deliverNow 16 = .ok (.getfield 7, 3) := by decide +kernel
theorem dX4_deliverNow_19 : decode cX4_deliverNow 19 = .ok (.iload_n 2, 1) := by decide +kernel
theorem dX4_deliverNow_20 : decode cX4_deliverNow 20 = .ok (.iconst 1, 1) := by decide +kernel
theorem dX4_deliverNow_21 : decode cX4_deliverNow 21 = .ok (.iadd, 1) := by decide +kernel
theorem dX4_deliverNow_22 : decode cX4_deliverNow 22 = .ok (.iaload, 1) := by decide +kernel
theorem dX4_deliverNow_23 : decode cX4_deliverNow 23 = .ok (.istore 4, 2) := by decide +kernel
theorem dX4_deliverNow_25 : decode cX4_deliverNow 25 = .ok (.aload_n 0, 1) := by decide +kernel
theorem dX4_deliverNow_26 : decode cX4_deliverNow 26 = .ok (.getfield 7, 3) := by decide +kernel
theorem dX4_deliverNow_29 : decode cX4_deliverNow 29 = .ok (.iload_n 2, 1) := by decide +kernel
theorem dX4_deliverNow_30 : decode cX4_deliverNow 30 = .ok (.iconst 2, 1) := by decide +kernel
theorem dX4_deliverNow_31 : decode cX4_deliverNow 31 = .ok (.iadd, 1) := by decide +kernel
theorem dX4_deliverNow_32 : decode cX4_deliverNow 32 = .ok (.iaload, 1) := by decide +kernel
theorem dX4_deliverNow_33 : decode cX4_deliverNow 33 = .ok (.istore 5, 2) := by decide +kernel
theorem dX4_deliverNow_35 : decode cX4_deliverNow 35 = .ok (.aload_n 0, 1) := by decide +kernel
theorem dX4_deliverNow_36 : decode cX4_deliverNow 36 = .ok (.getfield 7, 3) := by decide +kernel
theorem dX4_deliverNow_39 : decode cX4_deliverNow 39 = .ok (.iload_n 2, 1) := by decide +kernel
theorem dX4_deliverNow_40 : decode cX4_deliverNow 40 = .ok (.iconst 3, 1) := by decide +kernel
theorem dX4_deliverNow_41 : decode cX4_deliverNow 41 = .ok (.iadd, 1) := by decide +kernel
theorem dX4_deliverNow_42 : decode cX4_deliverNow 42 = .ok (.iaload, 1) := by decide +kernel
theorem dX4_deliverNow_43 : decode cX4_deliverNow 43 = .ok (.istore 6, 2) := by decide +kernel
theorem dX4_deliverNow_45 : decode cX4_deliverNow 45 = .ok (.aload_n 0, 1) := by decide +kernel
theorem dX4_deliverNow_46 : decode cX4_deliverNow 46 = .ok (.iload_n 1, 1) := by decide +kernel
theorem dX4_deliverNow_47 : decode cX4_deliverNow 47 = .ok (.invokevirtual 69, 3) := by decide +kernel
theorem dX4_deliverNow_50 : decode cX4_deliverNow 50 = .ok (.aload_n 0, 1) := by decide +kernel
theorem dX4_deliverNow_51 : decode cX4_deliverNow 51 = .ok (.iload 6, 2) := by decide +kernel
theorem dX4_deliverNow_53 : decode cX4_deliverNow 53 = .ok (.invokevirtual 73, 3) := by decide +kernel
theorem dX4_deliverNow_56 : decode cX4_deliverNow 56 = .ok (.ifCond .eq 15, 3) := by decide +kernel
theorem dX4_deliverNow_59 : decode cX4_deliverNow 59 = .ok (.aload_n 0, 1) := by decide +kernel
theorem dX4_deliverNow_60 : decode cX4_deliverNow 60 = .ok (.getfield 7, 3) := by decide +kernel
theorem dX4_deliverNow_63 : decode cX4_deliverNow 63 = .ok (.bipush 8, 2) := by decide +kernel
theorem dX4_deliverNow_65 : decode cX4_deliverNow 65 = .ok (.dup2, 1) := by decide +kernel
theorem dX4_deliverNow_66 : decode cX4_deliverNow 66 = .ok (.iaload, 1) := by decide +kernel
theorem dX4_deliverNow_67 : decode cX4_deliverNow 67 = .ok (.iconst 1, 1) := by decide +kernel
theorem dX4_deliverNow_68 : decode cX4_deliverNow 68 = .ok (.iadd, 1) := by decide +kernel
theorem dX4_deliverNow_69 : decode cX4_deliverNow 69 = .ok (.iastore, 1) := by decide +kernel
theorem dX4_deliverNow_70 : decode cX4_deliverNow 70 = .ok (.return_, 1) := by decide +kernel
theorem dX4_deliverNow_71 : decode cX4_deliverNow 71 = .ok (.aload_n 0, 1) := by decide +kernel
theorem dX4_deliverNow_72 : decode cX4_deliverNow 72 = .ok (.getfield 7, 3) := by decide +kernel
theorem dX4_deliverNow_75 : decode cX4_deliverNow 75 = .ok (.bipush 7, 2) := by decide +kernel
theorem dX4_deliverNow_77 : decode cX4_deliverNow 77 = .ok (.dup2, 1) := by decide +kernel
theorem dX4_deliverNow_78 : decode cX4_deliverNow 78 = .ok (.iaload, 1) := by decide +kernel
theorem dX4_deliverNow_79 : decode cX4_deliverNow 79 = .ok (.iconst 1, 1) := by decide +kernel
theorem dX4_deliverNow_80 : decode cX4_deliverNow 80 = .ok (.iadd, 1) := by decide +kernel
theorem dX4_deliverNow_81 : decode cX4_deliverNow 81 = .ok (.iastore, 1) := by decide +kernel
theorem dX4_deliverNow_82 : decode cX4_deliverNow 82 = .ok (.aload_n 0, 1) := by decide +kernel
theorem dX4_deliverNow_83 : decode cX4_deliverNow 83 = .ok (.getfield 7, 3) := by decide +kernel
theorem dX4_deliverNow_86 : decode cX4_deliverNow 86 = .ok (.bipush 20, 2) := by decide +kernel
theorem dX4_deliverNow_88 : decode cX4_deliverNow 88 = .ok (.iload 6, 2) := by decide +kernel
theorem dX4_deliverNow_90 : decode cX4_deliverNow 90 = .ok (.iadd, 1) := by decide +kernel
theorem dX4_deliverNow_91 : decode cX4_deliverNow 91 = .ok (.dup2, 1) := by decide +kernel
theorem dX4_deliverNow_92 : decode cX4_deliverNow 92 = .ok (.iaload, 1) := by decide +kernel
theorem dX4_deliverNow_93 : decode cX4_deliverNow 93 = .ok (.iconst 1, 1) := by decide +kernel
theorem dX4_deliverNow_94 : decode cX4_deliverNow 94 = .ok (.iadd, 1) := by decide +kernel
theorem dX4_deliverNow_95 : decode cX4_deliverNow 95 = .ok (.iastore, 1) := by decide +kernel
theorem dX4_deliverNow_96 : decode cX4_deliverNow 96 = .ok (.iload 6, 2) := by decide +kernel
theorem dX4_deliverNow_98 : decode cX4_deliverNow 98 = .ok (.iconst 4, 1) := by decide +kernel
theorem dX4_deliverNow_99 : decode cX4_deliverNow 99 = .ok (.if_icmp .ne 15, 3) := by decide +kernel
theorem dX4_deliverNow_102 : decode cX4_deliverNow 102 = .ok (.aload_n 0, 1) := by decide +kernel
theorem dX4_deliverNow_103 : decode cX4_deliverNow 103 = .ok (.iload_n 3, 1) := by decide +kernel
theorem dX4_deliverNow_104 : decode cX4_deliverNow 104 = .ok (.iload 4, 2) := by decide +kernel
theorem dX4_deliverNow_106 : decode cX4_deliverNow 106 = .ok (.iload 5, 2) := by decide +kernel
theorem dX4_deliverNow_108 : decode cX4_deliverNow 108 = .ok (.invokevirtual 77, 3) := by decide +kernel
theorem dX4_deliverNow_111 : decode cX4_deliverNow 111 = .ok (.goto 14, 3) := by decide +kernel
theorem dX4_deliverNow_114 : decode cX4_deliverNow 114 = .ok (.aload_n 0, 1) := by decide +kernel
theorem dX4_deliverNow_115 : decode cX4_deliverNow 115 = .ok (.iload 6, 2) := by decide +kernel
theorem dX4_deliverNow_117 : decode cX4_deliverNow 117 = .ok (.iload_n 3, 1) := by decide +kernel
theorem dX4_deliverNow_118 : decode cX4_deliverNow 118 = .ok (.iload 4, 2) := by decide +kernel
theorem dX4_deliverNow_120 : decode cX4_deliverNow 120 = .ok (.iload 5, 2) := by decide +kernel
theorem dX4_deliverNow_122 : decode cX4_deliverNow 122 = .ok (.invokevirtual 80, 3) := by decide +kernel
theorem dX4_deliverNow_125 : decode cX4_deliverNow 125 = .ok (.return_, 1) := by decide +kernel
theorem dX4_isTime_0 : decode cX4_isTime 0 = .ok (.iload_n 0, 1) := by decide +kernel
theorem dX4_isTime_1 : decode cX4_isTime 1 = .ok (.ifCond .le 13, 3) := by decide +kernel
theorem dX4_isTime_4 : decode cX4_isTime 4 = .ok (.iload_n 0, 1) := by decide +kernel
theorem dX4_isTime_5 : decode cX4_isTime 5 = .ok (.iload_n 1, 1) := by decide +kernel
theorem dX4_isTime_6 : decode cX4_isTime 6 = .ok (.irem, 1) := by decide +kernel
theorem dX4_isTime_7 : decode cX4_isTime 7 = .ok (.ifCond .ne 7, 3) := by decide +kernel
theorem dX4_isTime_10 : decode cX4_isTime 10 = .ok (.iconst 1, 1) := by decide +kernel
theorem dX4_isTime_11 : decode cX4_isTime 11 = .ok (.goto 4, 3) := by decide +kernel
theorem dX4_isTime_14 : decode cX4_isTime 14 = .ok (.iconst 0, 1) := by decide +kernel
theorem dX4_isTime_15 : decode cX4_isTime 15 = .ok (.ireturn, 1) := by decide +kernel
theorem dX4_passBetween_0 : decode cX4_passBetween 0 = .ok (.aload_n 0, 1) := by decide +kernel
theorem dX4_passBetween_1 : decode cX4_passBetween 1 = .ok (.iload_n 1, 1) := by decide +kernel
theorem dX4_passBetween_2 : decode cX4_passBetween 2 = .ok (.iconst 0, 1) := by decide +kernel
theorem dX4_passBetween_3 : decode cX4_passBetween 3 = .ok (.invokevirtual 40, 3) := by decide +kernel
theorem dX4_passBetween_6 : decode cX4_passBetween 6 = .ok (.istore_n 2, 1) := by decide +kernel
theorem dX4_passBetween_7 : decode cX4_passBetween 7 = .ok (.aload_n 0, 1) := by decide +kernel
theorem dX4_passBetween_8 : decode cX4_passBetween 8 = .ok (.iload_n 1, 1) := by decide +kernel
theorem dX4_passBetween_9 : decode cX4_passBetween 9 = .ok (.iconst 1, 1) := by decide +kernel
theorem dX4_passBetween_10 : decode cX4_passBetween 10 = .ok (.invokevirtual 40, 3) := by decide +kernel
theorem dX4_passBetween_13 : decode cX4_passBetween 13 = .ok (.ifCond .ne 34, 3) := by decide +kernel
theorem dX4_passBetween_16 : decode cX4_passBetween 16 = .ok (.aload_n 0, 1) := by decide +kernel
theorem dX4_passBetween_17 : decode cX4_passBetween 17 = .ok (.getfield 7, 3) := by decide +kernel
theorem dX4_passBetween_20 : decode cX4_passBetween 20 = .ok (.iconst 4, 1) := by decide +kernel
theorem dX4_passBetween_21 : decode cX4_passBetween 21 = .ok (.iaload, 1) := by decide +kernel
theorem dX4_passBetween_22 : decode cX4_passBetween 22 = .ok (.aload_n 0, 1) := by decide +kernel
theorem dX4_passBetween_23 : decode cX4_passBetween 23 = .ok (.iload_n 1, 1) := by decide +kernel
theorem dX4_passBetween_24 : decode cX4_passBetween 24 = .ok (.iconst 2, 1) := by decide +kernel
theorem dX4_passBetween_25 : decode cX4_passBetween 25 = .ok (.invokevirtual 40, 3) := by decide +kernel
theorem dX4_passBetween_28 : decode cX4_passBetween 28 = .ok (.isub, 1) := by decide +kernel
theorem dX4_passBetween_29 : decode cX4_passBetween 29 = .ok (.aload_n 0, 1) := by decide +kernel
theorem dX4_passBetween_30 : decode cX4_passBetween 30 = .ok (.getfield 7, 3) := by decide +kernel
theorem dX4_passBetween_33 : decode cX4_passBetween 33 = .ok (.iconst 0, 1) := by decide +kernel
theorem dX4_passBetween_34 : decode cX4_passBetween 34 = .ok (.iaload, 1) := by decide +kernel
theorem dX4_passBetween_35 : decode cX4_passBetween 35 = .ok (.if_icmp .lt 12, 3) := by decide +kernel
theorem dX4_passBetween_38 : decode cX4_passBetween 38 = .ok (.aload_n 0, 1) := by decide +kernel
theorem dX4_passBetween_39 : decode cX4_passBetween 39 = .ok (.iload_n 1, 1) := by decide +kernel
theorem dX4_passBetween_40 : decode cX4_passBetween 40 = .ok (.iload_n 2, 1) := by decide +kernel
theorem dX4_passBetween_41 : decode cX4_passBetween 41 = .ok (.invokevirtual 63, 3) := by decide +kernel
theorem dX4_passBetween_44 : decode cX4_passBetween 44 = .ok (.goto 55, 3) := by decide +kernel
theorem dX4_passBetween_47 : decode cX4_passBetween 47 = .ok (.aload_n 0, 1) := by decide +kernel
theorem dX4_passBetween_48 : decode cX4_passBetween 48 = .ok (.iload_n 1, 1) := by decide +kernel
theorem dX4_passBetween_49 : decode cX4_passBetween 49 = .ok (.iconst 1, 1) := by decide +kernel
theorem dX4_passBetween_50 : decode cX4_passBetween 50 = .ok (.invokevirtual 40, 3) := by decide +kernel
theorem dX4_passBetween_53 : decode cX4_passBetween 53 = .ok (.iconst 1, 1) := by decide +kernel
theorem dX4_passBetween_54 : decode cX4_passBetween 54 = .ok (.if_icmp .ne 45, 3) := by decide +kernel
theorem dX4_passBetween_57 : decode cX4_passBetween 57 = .ok (.aload_n 0, 1) := by decide +kernel
theorem dX4_passBetween_58 : decode cX4_passBetween 58 = .ok (.getfield 7, 3) := by decide +kernel
theorem dX4_passBetween_61 : decode cX4_passBetween 61 = .ok (.iconst 4, 1) := by decide +kernel
theorem dX4_passBetween_62 : decode cX4_passBetween 62 = .ok (.iaload, 1) := by decide +kernel
theorem dX4_passBetween_63 : decode cX4_passBetween 63 = .ok (.aload_n 0, 1) := by decide +kernel
theorem dX4_passBetween_64 : decode cX4_passBetween 64 = .ok (.iload_n 1, 1) := by decide +kernel
theorem dX4_passBetween_65 : decode cX4_passBetween 65 = .ok (.iconst 3, 1) := by decide +kernel
theorem dX4_passBetween_66 : decode cX4_passBetween 66 = .ok (.invokevirtual 40, 3) := by decide +kernel
theorem dX4_passBetween_69 : decode cX4_passBetween 69 = .ok (.isub, 1) := by decide +kernel
theorem dX4_passBetween_70 : decode cX4_passBetween 70 = .ok (.aload_n 0, 1) := by decide +kernel
theorem dX4_passBetween_71 : decode cX4_passBetween 71 = .ok (.getfield 7, 3) := by decide +kernel
theorem dX4_passBetween_74 : decode cX4_passBetween 74 = .ok (.iconst 2, 1) := by decide +kernel
theorem dX4_passBetween_75 : decode cX4_passBetween 75 = .ok (.iaload, 1) := by decide +kernel
theorem dX4_passBetween_76 : decode cX4_passBetween 76 = .ok (.invokestatic 83, 3) := by decide +kernel
theorem dX4_passBetween_79 : decode cX4_passBetween 79 = .ok (.ifCond .eq 20, 3) := by decide +kernel
theorem dX4_passBetween_82 : decode cX4_passBetween 82 = .ok (.aload_n 0, 1) := by decide +kernel
theorem dX4_passBetween_83 : decode cX4_passBetween 83 = .ok (.iconst 3, 1) := by decide +kernel
theorem dX4_passBetween_84 : decode cX4_passBetween 84 = .ok (.iload_n 1, 1) := by decide +kernel
theorem dX4_passBetween_85 : decode cX4_passBetween 85 = .ok (.iconst 4, 1) := by decide +kernel
theorem dX4_passBetween_86 : decode cX4_passBetween 86 = .ok (.iload_n 2, 1) := by decide +kernel
theorem dX4_passBetween_87 : decode cX4_passBetween 87 = .ok (.aload_n 0, 1) := by decide +kernel
theorem dX4_passBetween_88 : decode cX4_passBetween 88 = .ok (.iload_n 1, 1) := by decide +kernel
theorem dX4_passBetween_89 : decode cX4_passBetween 89 = .ok (.iconst 5, 1) := by decide +kernel
theorem dX4_passBetween_90 : decode cX4_passBetween 90 = .ok (.invokevirtual 40, 3) := by decide +kernel
theorem dX4_passBetween_93 : decode cX4_passBetween 93 = .ok (.iconst (-1), 1) := by decide +kernel
theorem dX4_passBetween_94 : decode cX4_passBetween 94 = .ok (.ixor, 1) := by decide +kernel
theorem dX4_passBetween_95 : decode cX4_passBetween 95 = .ok (.iand, 1) := by decide +kernel
theorem dX4_passBetween_96 : decode cX4_passBetween 96 = .ok (.invokevirtual 56, 3) := by decide +kernel
theorem dX4_passBetween_99 : decode cX4_passBetween 99 = .ok (.return_, 1) := by decide +kernel
theorem dX4_passClerk_0 : decode cX4_passClerk 0 = .ok (.aload_n 0, 1) := by decide +kernel
theorem dX4_passClerk_1 : decode cX4_passClerk 1 = .ok (.iload_n 2, 1) := by decide +kernel
theorem dX4_passClerk_2 : decode cX4_passClerk 2 = .ok (.iload_n 1, 1) := by decide +kernel
theorem dX4_passClerk_3 : decode cX4_passClerk 3 = .ok (.invokevirtual 86, 3) := by decide +kernel
theorem dX4_passClerk_6 : decode cX4_passClerk 6 = .ok (.ifCond .eq 48, 3) := by decide +kernel
theorem dX4_passClerk_9 : decode cX4_passClerk 9 = .ok (.aload_n 0, 1) := by decide +kernel
theorem dX4_passClerk_10 : decode cX4_passClerk 10 = .ok (.iload_n 2, 1) := by decide +kernel
theorem dX4_passClerk_11 : decode cX4_passClerk 11 = .ok (.bipush 6, 2) := by decide +kernel
theorem dX4_passClerk_13 : decode cX4_passClerk 13 = .ok (.iload_n 1, 1) := by decide +kernel
theorem dX4_passClerk_14 : decode cX4_passClerk 14 = .ok (.iadd, 1) := by decide +kernel
theorem dX4_passClerk_15 : decode cX4_passClerk 15 = .ok (.invokevirtual 40, 3) := by decide +kernel
theorem dX4_passClerk_18 : decode cX4_passClerk 18 = .ok (.iconst 1, 1) := by decide +kernel
theorem dX4_passClerk_19 : decode cX4_passClerk 19 = .ok (.if_icmp .ne 35, 3) := by decide +kernel
theorem dX4_passClerk_22 : decode cX4_passClerk 22 = .ok (.aload_n 0, 1) := by decide +kernel
theorem dX4_passClerk_23 : decode cX4_passClerk 23 = .ok (.getfield 7, 3) := by decide +kernel
theorem dX4_passClerk_26 : decode cX4_passClerk 26 = .ok (.iconst 4, 1) := by decide +kernel
theorem dX4_passClerk_27 : decode cX4_passClerk 27 = .ok (.iaload, 1) := by decide +kernel
theorem dX4_passClerk_28 : decode cX4_passClerk 28 = .ok (.aload_n 0, 1) := by decide +kernel
theorem dX4_passClerk_29 : decode cX4_passClerk 29 = .ok (.iload_n 2, 1) := by decide +kernel
theorem dX4_passClerk_30 : decode cX4_passClerk 30 = .ok (.bipush 10, 2) := by decide +kernel
theorem dX4_passClerk_32 : decode cX4_passClerk 32 = .ok (.iload_n 1, 1) := by decide +kernel
theorem dX4_passClerk_33 : decode cX4_passClerk 33 = .ok (.iadd, 1) := by decide +kernel
theorem dX4_passClerk_34 : decode cX4_passClerk 34 = .ok (.invokevirtual 40, 3) := by decide +kernel
theorem dX4_passClerk_37 : decode cX4_passClerk 37 = .ok (.isub, 1) := by decide +kernel
theorem dX4_passClerk_38 : decode cX4_passClerk 38 = .ok (.aload_n 0, 1) := by decide +kernel
theorem dX4_passClerk_39 : decode cX4_passClerk 39 = .ok (.getfield 7, 3) := by decide +kernel
theorem dX4_passClerk_42 : decode cX4_passClerk 42 = .ok (.iconst 1, 1) := by decide +kernel
theorem dX4_passClerk_43 : decode cX4_passClerk 43 = .ok (.iaload, 1) := by decide +kernel
theorem dX4_passClerk_44 : decode cX4_passClerk 44 = .ok (.invokestatic 83, 3) := by decide +kernel
theorem dX4_passClerk_47 : decode cX4_passClerk 47 = .ok (.ifCond .eq 7, 3) := by decide +kernel
theorem dX4_passClerk_50 : decode cX4_passClerk 50 = .ok (.iconst 1, 1) := by decide +kernel
theorem dX4_passClerk_51 : decode cX4_passClerk 51 = .ok (.goto 4, 3) := by decide +kernel
theorem dX4_passClerk_54 : decode cX4_passClerk 54 = .ok (.iconst 0, 1) := by decide +kernel
theorem dX4_passClerk_55 : decode cX4_passClerk 55 = .ok (.istore_n 3, 1) := by decide +kernel
theorem dX4_passClerk_56 : decode cX4_passClerk 56 = .ok (.iload_n 3, 1) := by decide +kernel
theorem dX4_passClerk_57 : decode cX4_passClerk 57 = .ok (.ifCond .eq 46, 3) := by decide +kernel
theorem dX4_passClerk_60 : decode cX4_passClerk 60 = .ok (.aload_n 0, 1) := by decide +kernel
theorem dX4_passClerk_61 : decode cX4_passClerk 61 = .ok (.bipush 6, 2) := by decide +kernel
theorem dX4_passClerk_63 : decode cX4_passClerk 63 = .ok (.iload_n 2, 1) := by decide +kernel
theorem dX4_passClerk_64 : decode cX4_passClerk 64 = .ok (.iload_n 1, 1) := by decide +kernel
theorem dX4_passClerk_65 : decode cX4_passClerk 65 = .ok (.iconst 4, 1) := by decide +kernel
theorem dX4_passClerk_66 : decode cX4_passClerk 66 = .ok (.invokevirtual 48, 3) := by decide +kernel
theorem dX4_passClerk_69 : decode cX4_passClerk 69 = .ok (.aload_n 0, 1) := by decide +kernel
theorem dX4_passClerk_70 : decode cX4_passClerk 70 = .ok (.bipush 6, 2) := by decide +kernel
theorem dX4_passClerk_72 : decode cX4_passClerk 72 = .ok (.iload_n 2, 1) := by decide +kernel
theorem dX4_passClerk_73 : decode cX4_passClerk 73 = .ok (.iload_n 1, 1) := by decide +kernel
theorem dX4_passClerk_74 : decode cX4_passClerk 74 = .ok (.aload_n 0, 1) := by decide +kernel
theorem dX4_passClerk_75 : decode cX4_passClerk 75 = .ok (.getfield 7, 3) := by decide +kernel
theorem dX4_passClerk_78 : decode cX4_passClerk 78 = .ok (.iconst 3, 1) := by decide +kernel
theorem dX4_passClerk_79 : decode cX4_passClerk 79 = .ok (.iaload, 1) := by decide +kernel
theorem dX4_passClerk_80 : decode cX4_passClerk 80 = .ok (.iconst 1, 1) := by decide +kernel
theorem dX4_passClerk_81 : decode cX4_passClerk 81 = .ok (.if_icmp .ne 18, 3) := by decide +kernel
theorem dX4_passClerk_84 : decode cX4_passClerk 84 = .ok (.aload_n 0, 1) := by decide +kernel
theorem dX4_passClerk_85 : decode cX4_passClerk 85 = .ok (.iload_n 2, 1) := by decide +kernel
theorem dX4_passClerk_86 : decode cX4_passClerk 86 = .ok (.iconst 0, 1) := by decide +kernel
theorem dX4_passClerk_87 : decode cX4_passClerk 87 = .ok (.invokevirtual 40, 3) := by decide +kernel
theorem dX4_passClerk_90 : decode cX4_passClerk 90 = .ok (.iconst 1, 1) := by decide +kernel
theorem dX4_passClerk_91 : decode cX4_passClerk 91 = .ok (.iload_n 1, 1) := by decide +kernel
theorem dX4_passClerk_92 : decode cX4_passClerk 92 = .ok (.ishl, 1) := by decide +kernel
theorem dX4_passClerk_93 : decode cX4_passClerk 93 = .ok (.iconst (-1), 1) := by decide +kernel
theorem dX4_passClerk_94 : decode cX4_passClerk 94 = .ok (.ixor, 1) := by decide +kernel
theorem dX4_passClerk_95 : decode cX4_passClerk 95 = .ok (.iand, 1) := by decide +kernel
theorem dX4_passClerk_96 : decode cX4_passClerk 96 = .ok (.goto 4, 3) := by decide +kernel
theorem dX4_passClerk_99 : decode cX4_passClerk 99 = .ok (.iconst 0, 1) := by decide +kernel
theorem dX4_passClerk_100 : decode cX4_passClerk 100 = .ok (.invokevirtual 56, 3) := by decide +kernel
theorem dX4_passClerk_103 : decode cX4_passClerk 103 = .ok (.return_, 1) := by decide +kernel
theorem dX4_pass_0 : decode cX4_pass 0 = .ok (.iconst 0, 1) := by decide +kernel
theorem dX4_pass_1 : decode cX4_pass 1 = .ok (.istore_n 1, 1) := by decide +kernel
theorem dX4_pass_2 : decode cX4_pass 2 = .ok (.iload_n 1, 1) := by decide +kernel
theorem dX4_pass_3 : decode cX4_pass 3 = .ok (.aload_n 0, 1) := by decide +kernel
theorem dX4_pass_4 : decode cX4_pass 4 = .ok (.getfield 7, 3) := by decide +kernel
theorem dX4_pass_7 : decode cX4_pass 7 = .ok (.iconst 5, 1) := by decide +kernel
theorem dX4_pass_8 : decode cX4_pass 8 = .ok (.iaload, 1) := by decide +kernel
theorem dX4_pass_9 : decode cX4_pass 9 = .ok (.if_icmp .ge 22, 3) := by decide +kernel
theorem dX4_pass_12 : decode cX4_pass 12 = .ok (.aload_n 0, 1) := by decide +kernel
theorem dX4_pass_13 : decode cX4_pass 13 = .ok (.iconst 4, 1) := by decide +kernel
theorem dX4_pass_14 : decode cX4_pass 14 = .ok (.invokevirtual 73, 3) := by decide +kernel
theorem dX4_pass_17 : decode cX4_pass 17 = .ok (.ifCond .ne 14, 3) := by decide +kernel
theorem dX4_pass_20 : decode cX4_pass 20 = .ok (.aload_n 0, 1) := by decide +kernel
theorem dX4_pass_21 : decode cX4_pass 21 = .ok (.iload_n 1, 1) := by decide +kernel
theorem dX4_pass_22 : decode cX4_pass 22 = .ok (.invokevirtual 89, 3) := by decide +kernel
theorem dX4_pass_25 : decode cX4_pass 25 = .ok (.iinc 1 1, 3) := by decide +kernel
theorem dX4_pass_28 : decode cX4_pass 28 = .ok (.goto (-26), 3) := by decide +kernel
theorem dX4_pass_31 : decode cX4_pass 31 = .ok (.iconst 0, 1) := by decide +kernel
theorem dX4_pass_32 : decode cX4_pass 32 = .ok (.istore_n 1, 1) := by decide +kernel
theorem dX4_pass_33 : decode cX4_pass 33 = .ok (.iload_n 1, 1) := by decide +kernel
theorem dX4_pass_34 : decode cX4_pass 34 = .ok (.iconst 4, 1) := by decide +kernel
theorem dX4_pass_35 : decode cX4_pass 35 = .ok (.if_icmp .ge 41, 3) := by decide +kernel
theorem dX4_pass_38 : decode cX4_pass 38 = .ok (.iconst 0, 1) := by decide +kernel
theorem dX4_pass_39 : decode cX4_pass 39 = .ok (.istore_n 2, 1) := by decide +kernel
theorem dX4_pass_40 : decode cX4_pass 40 = .ok (.iload_n 2, 1) := by decide +kernel
theorem dX4_pass_41 : decode cX4_pass 41 = .ok (.aload_n 0, 1) := by decide +kernel
theorem dX4_pass_42 : decode cX4_pass 42 = .ok (.getfield 7, 3) := by decide +kernel
theorem dX4_pass_45 : decode cX4_pass 45 = .ok (.iconst 5, 1) := by decide +kernel
theorem dX4_pass_46 : decode cX4_pass 46 = .ok (.iaload, 1) := by decide +kernel
theorem dX4_pass_47 : decode cX4_pass 47 = .ok (.if_icmp .ge 23, 3) := by decide +kernel
theorem dX4_pass_50 : decode cX4_pass 50 = .ok (.aload_n 0, 1) := by decide +kernel
theorem dX4_pass_51 : decode cX4_pass 51 = .ok (.iload_n 1, 1) := by decide +kernel
theorem dX4_pass_52 : decode cX4_pass 52 = .ok (.invokevirtual 73, 3) := by decide +kernel
theorem dX4_pass_55 : decode cX4_pass 55 = .ok (.ifCond .ne 15, 3) := by decide +kernel
theorem dX4_pass_58 : decode cX4_pass 58 = .ok (.aload_n 0, 1) := by decide +kernel
theorem dX4_pass_59 : decode cX4_pass 59 = .ok (.iload_n 1, 1) := by decide +kernel
theorem dX4_pass_60 : decode cX4_pass 60 = .ok (.iload_n 2, 1) := by decide +kernel
theorem dX4_pass_61 : decode cX4_pass 61 = .ok (.invokevirtual 92, 3) := by decide +kernel
theorem dX4_pass_64 : decode cX4_pass 64 = .ok (.iinc 2 1, 3) := by decide +kernel
theorem dX4_pass_67 : decode cX4_pass 67 = .ok (.goto (-27), 3) := by decide +kernel
theorem dX4_pass_70 : decode cX4_pass 70 = .ok (.iinc 1 1, 3) := by decide +kernel
theorem dX4_pass_73 : decode cX4_pass 73 = .ok (.goto (-40), 3) := by decide +kernel
theorem dX4_pass_76 : decode cX4_pass 76 = .ok (.aload_n 0, 1) := by decide +kernel
theorem dX4_pass_77 : decode cX4_pass 77 = .ok (.getfield 7, 3) := by decide +kernel
theorem dX4_pass_80 : decode cX4_pass 80 = .ok (.iconst 4, 1) := by decide +kernel
theorem dX4_pass_81 : decode cX4_pass 81 = .ok (.dup2, 1) := by decide +kernel
theorem dX4_pass_82 : decode cX4_pass 82 = .ok (.iaload, 1) := by decide +kernel
theorem dX4_pass_83 : decode cX4_pass 83 = .ok (.iconst 1, 1) := by decide +kernel
theorem dX4_pass_84 : decode cX4_pass 84 = .ok (.iadd, 1) := by decide +kernel
theorem dX4_pass_85 : decode cX4_pass 85 = .ok (.iastore, 1) := by decide +kernel
theorem dX4_pass_86 : decode cX4_pass 86 = .ok (.return_, 1) := by decide +kernel
theorem dX4_set_0 : decode cX4_set 0 = .ok (.iload_n 1, 1) := by decide +kernel
theorem dX4_set_1 : decode cX4_set 1 = .ok (.iconst 0, 1) := by decide +kernel
theorem dX4_set_2 : decode cX4_set 2 = .ok (.iconst 3, 1) := by decide +kernel
theorem dX4_set_3 : decode cX4_set 3 = .ok (.invokestatic 95, 3) := by decide +kernel
theorem dX4_set_6 : decode cX4_set 6 = .ok (.ifCond .eq 31, 3) := by decide +kernel
theorem dX4_set_9 : decode cX4_set 9 = .ok (.iload_n 2, 1) := by decide +kernel
theorem dX4_set_10 : decode cX4_set 10 = .ok (.iload_n 1, 1) := by decide +kernel
theorem dX4_set_11 : decode cX4_set 11 = .ok (.iconst 3, 1) := by decide +kernel
theorem dX4_set_12 : decode cX4_set 12 = .ok (.if_icmp .ne 7, 3) := by decide +kernel
theorem dX4_set_15 : decode cX4_set 15 = .ok (.iconst 0, 1) := by decide +kernel
theorem dX4_set_16 : decode cX4_set 16 = .ok (.goto 4, 3) := by decide +kernel
theorem dX4_set_19 : decode cX4_set 19 = .ok (.iconst 1, 1) := by decide +kernel
theorem dX4_set_20 : decode cX4_set 20 = .ok (.iload_n 1, 1) := by decide +kernel
theorem dX4_set_21 : decode cX4_set 21 = .ok (.iconst 3, 1) := by decide +kernel
theorem dX4_set_22 : decode cX4_set 22 = .ok (.if_icmp .ne 7, 3) := by decide +kernel
theorem dX4_set_25 : decode cX4_set 25 = .ok (.iconst 1, 1) := by decide +kernel
theorem dX4_set_26 : decode cX4_set 26 = .ok (.goto 5, 3) := by decide +kernel
theorem dX4_set_29 : decode cX4_set 29 = .ok (.bipush 50, 2) := by decide +kernel
theorem dX4_set_31 : decode cX4_set 31 = .ok (.invokestatic 95, 3) := by decide +kernel
theorem dX4_set_34 : decode cX4_set 34 = .ok (.ifCond .ne 6, 3) := by decide +kernel
theorem dX4_set_37 : decode cX4_set 37 = .ok (.bipush (-2), 2) := by decide +kernel
theorem dX4_set_39 : decode cX4_set 39 = .ok (.ireturn, 1) := by decide +kernel
theorem dX4_set_40 : decode cX4_set 40 = .ok (.aload_n 0, 1) := by decide +kernel
theorem dX4_set_41 : decode cX4_set 41 = .ok (.invokevirtual 99, 3) := by decide +kernel
theorem dX4_set_44 : decode cX4_set 44 = .ok (.aload_n 0, 1) := by decide +kernel
theorem dX4_set_45 : decode cX4_set 45 = .ok (.getfield 7, 3) := by decide +kernel
theorem dX4_set_48 : decode cX4_set 48 = .ok (.iload_n 1, 1) := by decide +kernel
theorem dX4_set_49 : decode cX4_set 49 = .ok (.iaload, 1) := by decide +kernel
theorem dX4_set_50 : decode cX4_set 50 = .ok (.istore_n 3, 1) := by decide +kernel
theorem dX4_set_51 : decode cX4_set 51 = .ok (.aload_n 0, 1) := by decide +kernel
theorem dX4_set_52 : decode cX4_set 52 = .ok (.getfield 7, 3) := by decide +kernel
theorem dX4_set_55 : decode cX4_set 55 = .ok (.iload_n 1, 1) := by decide +kernel
theorem dX4_set_56 : decode cX4_set 56 = .ok (.iload_n 2, 1) := by decide +kernel
theorem dX4_set_57 : decode cX4_set 57 = .ok (.iastore, 1) := by decide +kernel
theorem dX4_set_58 : decode cX4_set 58 = .ok (.iload_n 3, 1) := by decide +kernel
theorem dX4_set_59 : decode cX4_set 59 = .ok (.ireturn, 1) := by decide +kernel
theorem dX4_willing_0 : decode cX4_willing 0 = .ok (.iload_n 1, 1) := by decide +kernel
theorem dX4_willing_1 : decode cX4_willing 1 = .ok (.iconst 0, 1) := by decide +kernel
theorem dX4_willing_2 : decode cX4_willing 2 = .ok (.iconst 3, 1) := by decide +kernel
theorem dX4_willing_3 : decode cX4_willing 3 = .ok (.invokestatic 95, 3) := by decide +kernel
theorem dX4_willing_6 : decode cX4_willing 6 = .ok (.ifCond .ne 5, 3) := by decide +kernel
theorem dX4_willing_9 : decode cX4_willing 9 = .ok (.iconst (-1), 1) := by decide +kernel
theorem dX4_willing_10 : decode cX4_willing 10 = .ok (.ireturn, 1) := by decide +kernel
theorem dX4_willing_11 : decode cX4_willing 11 = .ok (.iload_n 2, 1) := by decide +kernel
theorem dX4_willing_12 : decode cX4_willing 12 = .ok (.iconst 0, 1) := by decide +kernel
theorem dX4_willing_13 : decode cX4_willing 13 = .ok (.iconst 1, 1) := by decide +kernel
theorem dX4_willing_14 : decode cX4_willing 14 = .ok (.invokestatic 95, 3) := by decide +kernel
theorem dX4_willing_17 : decode cX4_willing 17 = .ok (.ifCond .ne 6, 3) := by decide +kernel
theorem dX4_willing_20 : decode cX4_willing 20 = .ok (.bipush (-2), 2) := by decide +kernel
theorem dX4_willing_22 : decode cX4_willing 22 = .ok (.ireturn, 1) := by decide +kernel
theorem dX4_willing_23 : decode cX4_willing 23 = .ok (.aload_n 0, 1) := by decide +kernel
theorem dX4_willing_24 : decode cX4_willing 24 = .ok (.invokevirtual 99, 3) := by decide +kernel
theorem dX4_willing_27 : decode cX4_willing 27 = .ok (.aload_n 0, 1) := by decide +kernel
theorem dX4_willing_28 : decode cX4_willing 28 = .ok (.getfield 7, 3) := by decide +kernel
theorem dX4_willing_31 : decode cX4_willing 31 = .ok (.bipush 15, 2) := by decide +kernel
theorem dX4_willing_33 : decode cX4_willing 33 = .ok (.iload_n 1, 1) := by decide +kernel
theorem dX4_willing_34 : decode cX4_willing 34 = .ok (.iadd, 1) := by decide +kernel
theorem dX4_willing_35 : decode cX4_willing 35 = .ok (.iaload, 1) := by decide +kernel
theorem dX4_willing_36 : decode cX4_willing 36 = .ok (.istore_n 3, 1) := by decide +kernel
theorem dX4_willing_37 : decode cX4_willing 37 = .ok (.aload_n 0, 1) := by decide +kernel
theorem dX4_willing_38 : decode cX4_willing 38 = .ok (.getfield 7, 3) := by decide +kernel
theorem dX4_willing_41 : decode cX4_willing 41 = .ok (.bipush 15, 2) := by decide +kernel
theorem dX4_willing_43 : decode cX4_willing 43 = .ok (.iload_n 1, 1) := by decide +kernel
theorem dX4_willing_44 : decode cX4_willing 44 = .ok (.iadd, 1) := by decide +kernel
theorem dX4_willing_45 : decode cX4_willing 45 = .ok (.iload_n 2, 1) := by decide +kernel
theorem dX4_willing_46 : decode cX4_willing 46 = .ok (.iastore, 1) := by decide +kernel
theorem dX4_willing_47 : decode cX4_willing 47 = .ok (.iload_n 3, 1) := by decide +kernel
theorem dX4_willing_48 : decode cX4_willing 48 = .ok (.ireturn, 1) := by decide +kernel
theorem dX4_open_0 : decode cX4_open 0 = .ok (.iload_n 1, 1) := by decide +kernel
theorem dX4_open_1 : decode cX4_open 1 = .ok (.iconst 1, 1) := by decide +kernel
theorem dX4_open_2 : decode cX4_open 2 = .ok (.bipush 15, 2) := by decide +kernel
theorem dX4_open_4 : decode cX4_open 4 = .ok (.invokestatic 95, 3) := by decide +kernel
theorem dX4_open_7 : decode cX4_open 7 = .ok (.ifCond .ne 6, 3) := by decide +kernel
theorem dX4_open_10 : decode cX4_open 10 = .ok (.bipush (-2), 2) := by decide +kernel
theorem dX4_open_12 : decode cX4_open 12 = .ok (.ireturn, 1) := by decide +kernel
theorem dX4_open_13 : decode cX4_open 13 = .ok (.aload_n 0, 1) := by decide +kernel
theorem dX4_open_14 : decode cX4_open 14 = .ok (.getfield 7, 3) := by decide +kernel
theorem dX4_open_17 : decode cX4_open 17 = .ok (.iconst 5, 1) := by decide +kernel
theorem dX4_open_18 : decode cX4_open 18 = .ok (.iaload, 1) := by decide +kernel
theorem dX4_open_19 : decode cX4_open 19 = .ok (.bipush 8, 2) := by decide +kernel
theorem dX4_open_21 : decode cX4_open 21 = .ok (.if_icmp .ne 6, 3) := by decide +kernel
theorem dX4_open_24 : decode cX4_open 24 = .ok (.bipush (-4), 2) := by decide +kernel
theorem dX4_open_26 : decode cX4_open 26 = .ok (.ireturn, 1) := by decide +kernel
theorem dX4_open_27 : decode cX4_open 27 = .ok (.aload_n 0, 1) := by decide +kernel
theorem dX4_open_28 : decode cX4_open 28 = .ok (.iconst 4, 1) := by decide +kernel
theorem dX4_open_29 : decode cX4_open 29 = .ok (.invokevirtual 73, 3) := by decide +kernel
theorem dX4_open_32 : decode cX4_open 32 = .ok (.ifCond .eq 6, 3) := by decide +kernel
theorem dX4_open_35 : decode cX4_open 35 = .ok (.bipush (-5), 2) := by decide +kernel
theorem dX4_open_37 : decode cX4_open 37 = .ok (.ireturn, 1) := by decide +kernel
theorem dX4_open_38 : decode cX4_open 38 = .ok (.aload_n 0, 1) := by decide +kernel
theorem dX4_open_39 : decode cX4_open 39 = .ok (.invokevirtual 99, 3) := by decide +kernel
theorem dX4_open_42 : decode cX4_open 42 = .ok (.aload_n 0, 1) := by decide +kernel
theorem dX4_open_43 : decode cX4_open 43 = .ok (.getfield 7, 3) := by decide +kernel
theorem dX4_open_46 : decode cX4_open 46 = .ok (.iconst 5, 1) := by decide +kernel
theorem dX4_open_47 : decode cX4_open 47 = .ok (.iaload, 1) := by decide +kernel
theorem dX4_open_48 : decode cX4_open 48 = .ok (.istore_n 2, 1) := by decide +kernel
theorem dX4_open_49 : decode cX4_open 49 = .ok (.aload_n 0, 1) := by decide +kernel
theorem dX4_open_50 : decode cX4_open 50 = .ok (.getfield 7, 3) := by decide +kernel
theorem dX4_open_53 : decode cX4_open 53 = .ok (.iconst 5, 1) := by decide +kernel
theorem dX4_open_54 : decode cX4_open 54 = .ok (.dup2, 1) := by decide +kernel
theorem dX4_open_55 : decode cX4_open 55 = .ok (.iaload, 1) := by decide +kernel
theorem dX4_open_56 : decode cX4_open 56 = .ok (.iconst 1, 1) := by decide +kernel
theorem dX4_open_57 : decode cX4_open 57 = .ok (.iadd, 1) := by decide +kernel
theorem dX4_open_58 : decode cX4_open 58 = .ok (.iastore, 1) := by decide +kernel
theorem dX4_open_59 : decode cX4_open 59 = .ok (.aload_n 0, 1) := by decide +kernel
theorem dX4_open_60 : decode cX4_open 60 = .ok (.iload_n 2, 1) := by decide +kernel
theorem dX4_open_61 : decode cX4_open 61 = .ok (.iconst 0, 1) := by decide +kernel
theorem dX4_open_62 : decode cX4_open 62 = .ok (.iload_n 1, 1) := by decide +kernel
theorem dX4_open_63 : decode cX4_open 63 = .ok (.invokevirtual 52, 3) := by decide +kernel
theorem dX4_open_66 : decode cX4_open 66 = .ok (.aload_n 0, 1) := by decide +kernel
theorem dX4_open_67 : decode cX4_open 67 = .ok (.iload_n 2, 1) := by decide +kernel
theorem dX4_open_68 : decode cX4_open 68 = .ok (.iconst 2, 1) := by decide +kernel
theorem dX4_open_69 : decode cX4_open 69 = .ok (.aload_n 0, 1) := by decide +kernel
theorem dX4_open_70 : decode cX4_open 70 = .ok (.getfield 7, 3) := by decide +kernel
theorem dX4_open_73 : decode cX4_open 73 = .ok (.iconst 4, 1) := by decide +kernel
theorem dX4_open_74 : decode cX4_open 74 = .ok (.iaload, 1) := by decide +kernel
theorem dX4_open_75 : decode cX4_open 75 = .ok (.invokevirtual 52, 3) := by decide +kernel
theorem dX4_open_78 : decode cX4_open 78 = .ok (.aload_n 0, 1) := by decide +kernel
theorem dX4_open_79 : decode cX4_open 79 = .ok (.iconst 0, 1) := by decide +kernel
theorem dX4_open_80 : decode cX4_open 80 = .ok (.iload_n 2, 1) := by decide +kernel
theorem dX4_open_81 : decode cX4_open 81 = .ok (.iconst 4, 1) := by decide +kernel
theorem dX4_open_82 : decode cX4_open 82 = .ok (.iload_n 1, 1) := by decide +kernel
theorem dX4_open_83 : decode cX4_open 83 = .ok (.invokevirtual 56, 3) := by decide +kernel
theorem dX4_open_86 : decode cX4_open 86 = .ok (.iload_n 2, 1) := by decide +kernel
theorem dX4_open_87 : decode cX4_open 87 = .ok (.ireturn, 1) := by decide +kernel
theorem dX4_isMessage_0 : decode cX4_isMessage 0 = .ok (.iload_n 1, 1) := by decide +kernel
theorem dX4_isMessage_1 : decode cX4_isMessage 1 = .ok (.iconst 0, 1) := by decide +kernel
theorem dX4_isMessage_2 : decode cX4_isMessage 2 = .ok (.aload_n 0, 1) := by decide +kernel
theorem dX4_isMessage_3 : decode cX4_isMessage 3 = .ok (.getfield 7, 3) := by decide +kernel
theorem dX4_isMessage_6 : decode cX4_isMessage 6 = .ok (.bipush 6, 2) := by decide +kernel
theorem dX4_isMessage_8 : decode cX4_isMessage 8 = .ok (.iaload, 1) := by decide +kernel
theorem dX4_isMessage_9 : decode cX4_isMessage 9 = .ok (.iconst 1, 1) := by decide +kernel
theorem dX4_isMessage_10 : decode cX4_isMessage 10 = .ok (.isub, 1) := by decide +kernel
theorem dX4_isMessage_11 : decode cX4_isMessage 11 = .ok (.invokestatic 95, 3) := by decide +kernel
theorem dX4_isMessage_14 : decode cX4_isMessage 14 = .ok (.ireturn, 1) := by decide +kernel
theorem dX4_deliver_0 : decode cX4_deliver 0 = .ok (.aload_n 0, 1) := by decide +kernel
theorem dX4_deliver_1 : decode cX4_deliver 1 = .ok (.iload_n 1, 1) := by decide +kernel
theorem dX4_deliver_2 : decode cX4_deliver 2 = .ok (.invokevirtual 102, 3) := by decide +kernel
theorem dX4_deliver_5 : decode cX4_deliver 5 = .ok (.ifCond .ne 5, 3) := by decide +kernel
theorem dX4_deliver_8 : decode cX4_deliver 8 = .ok (.iconst (-1), 1) := by decide +kernel
theorem dX4_deliver_9 : decode cX4_deliver 9 = .ok (.ireturn, 1) := by decide +kernel
theorem dX4_deliver_10 : decode cX4_deliver 10 = .ok (.aload_n 0, 1) := by decide +kernel
theorem dX4_deliver_11 : decode cX4_deliver 11 = .ok (.invokevirtual 99, 3) := by decide +kernel
theorem dX4_deliver_14 : decode cX4_deliver 14 = .ok (.aload_n 0, 1) := by decide +kernel
theorem dX4_deliver_15 : decode cX4_deliver 15 = .ok (.iload_n 1, 1) := by decide +kernel
theorem dX4_deliver_16 : decode cX4_deliver 16 = .ok (.invokevirtual 105, 3) := by decide +kernel
theorem dX4_deliver_19 : decode cX4_deliver 19 = .ok (.aload_n 0, 1) := by decide +kernel
theorem dX4_deliver_20 : decode cX4_deliver 20 = .ok (.getfield 7, 3) := by decide +kernel
theorem dX4_deliver_23 : decode cX4_deliver 23 = .ok (.bipush 6, 2) := by decide +kernel
theorem dX4_deliver_25 : decode cX4_deliver 25 = .ok (.iaload, 1) := by decide +kernel
theorem dX4_deliver_26 : decode cX4_deliver 26 = .ok (.ireturn, 1) := by decide +kernel
theorem dX4_loseNow_0 : decode cX4_loseNow 0 = .ok (.aload_n 0, 1) := by decide +kernel
theorem dX4_loseNow_1 : decode cX4_loseNow 1 = .ok (.iload_n 1, 1) := by decide +kernel
theorem dX4_loseNow_2 : decode cX4_loseNow 2 = .ok (.invokevirtual 69, 3) := by decide +kernel
theorem dX4_loseNow_5 : decode cX4_loseNow 5 = .ok (.aload_n 0, 1) := by decide +kernel
theorem dX4_loseNow_6 : decode cX4_loseNow 6 = .ok (.getfield 7, 3) := by decide +kernel
theorem dX4_loseNow_9 : decode cX4_loseNow 9 = .ok (.bipush 8, 2) := by decide +kernel
theorem dX4_loseNow_11 : decode cX4_loseNow 11 = .ok (.dup2, 1) := by decide +kernel
theorem dX4_loseNow_12 : decode cX4_loseNow 12 = .ok (.iaload, 1) := by decide +kernel
theorem dX4_loseNow_13 : decode cX4_loseNow 13 = .ok (.iconst 1, 1) := by decide +kernel
theorem dX4_loseNow_14 : decode cX4_loseNow 14 = .ok (.iadd, 1) := by decide +kernel
theorem dX4_loseNow_15 : decode cX4_loseNow 15 = .ok (.iastore, 1) := by decide +kernel
theorem dX4_loseNow_16 : decode cX4_loseNow 16 = .ok (.return_, 1) := by decide +kernel
theorem dX4_lose_0 : decode cX4_lose 0 = .ok (.aload_n 0, 1) := by decide +kernel
theorem dX4_lose_1 : decode cX4_lose 1 = .ok (.iload_n 1, 1) := by decide +kernel
theorem dX4_lose_2 : decode cX4_lose 2 = .ok (.invokevirtual 102, 3) := by decide +kernel
theorem dX4_lose_5 : decode cX4_lose 5 = .ok (.ifCond .ne 5, 3) := by decide +kernel
theorem dX4_lose_8 : decode cX4_lose 8 = .ok (.iconst (-1), 1) := by decide +kernel
theorem dX4_lose_9 : decode cX4_lose 9 = .ok (.ireturn, 1) := by decide +kernel
theorem dX4_lose_10 : decode cX4_lose 10 = .ok (.aload_n 0, 1) := by decide +kernel
theorem dX4_lose_11 : decode cX4_lose 11 = .ok (.invokevirtual 99, 3) := by decide +kernel
theorem dX4_lose_14 : decode cX4_lose 14 = .ok (.aload_n 0, 1) := by decide +kernel
theorem dX4_lose_15 : decode cX4_lose 15 = .ok (.iload_n 1, 1) := by decide +kernel
theorem dX4_lose_16 : decode cX4_lose 16 = .ok (.invokevirtual 108, 3) := by decide +kernel
theorem dX4_lose_19 : decode cX4_lose 19 = .ok (.aload_n 0, 1) := by decide +kernel
theorem dX4_lose_20 : decode cX4_lose 20 = .ok (.getfield 7, 3) := by decide +kernel
theorem dX4_lose_23 : decode cX4_lose 23 = .ok (.bipush 6, 2) := by decide +kernel
theorem dX4_lose_25 : decode cX4_lose 25 = .ok (.iaload, 1) := by decide +kernel
theorem dX4_lose_26 : decode cX4_lose 26 = .ok (.ireturn, 1) := by decide +kernel
theorem dX4_twice_0 : decode cX4_twice 0 = .ok (.aload_n 0, 1) := by decide +kernel
theorem dX4_twice_1 : decode cX4_twice 1 = .ok (.iload_n 1, 1) := by decide +kernel
theorem dX4_twice_2 : decode cX4_twice 2 = .ok (.invokevirtual 102, 3) := by decide +kernel
theorem dX4_twice_5 : decode cX4_twice 5 = .ok (.ifCond .ne 5, 3) := by decide +kernel
theorem dX4_twice_8 : decode cX4_twice 8 = .ok (.iconst (-1), 1) := by decide +kernel
theorem dX4_twice_9 : decode cX4_twice 9 = .ok (.ireturn, 1) := by decide +kernel
theorem dX4_twice_10 : decode cX4_twice 10 = .ok (.aload_n 0, 1) := by decide +kernel
theorem dX4_twice_11 : decode cX4_twice 11 = .ok (.getfield 7, 3) := by decide +kernel
theorem dX4_twice_14 : decode cX4_twice 14 = .ok (.bipush 6, 2) := by decide +kernel
theorem dX4_twice_16 : decode cX4_twice 16 = .ok (.iaload, 1) := by decide +kernel
theorem dX4_twice_17 : decode cX4_twice 17 = .ok (.bipush 60, 2) := by decide +kernel
theorem dX4_twice_19 : decode cX4_twice 19 = .ok (.if_icmp .ne 6, 3) := by decide +kernel
theorem dX4_twice_22 : decode cX4_twice 22 = .ok (.bipush (-4), 2) := by decide +kernel
theorem dX4_twice_24 : decode cX4_twice 24 = .ok (.ireturn, 1) := by decide +kernel
theorem dX4_twice_25 : decode cX4_twice 25 = .ok (.aload_n 0, 1) := by decide +kernel
theorem dX4_twice_26 : decode cX4_twice 26 = .ok (.invokevirtual 99, 3) := by decide +kernel
theorem dX4_twice_29 : decode cX4_twice 29 = .ok (.iconst 0, 1) := by decide +kernel
theorem dX4_twice_30 : decode cX4_twice 30 = .ok (.istore_n 2, 1) := by decide +kernel
theorem dX4_twice_31 : decode cX4_twice 31 = .ok (.iload_n 2, 1) := by decide +kernel
theorem dX4_twice_32 : decode cX4_twice 32 = .ok (.iconst 4, 1) := by decide +kernel
theorem dX4_twice_33 : decode cX4_twice 33 = .ok (.if_icmp .ge 43, 3) := by decide +kernel
theorem dX4_twice_36 : decode cX4_twice 36 = .ok (.aload_n 0, 1) := by decide +kernel
theorem dX4_twice_37 : decode cX4_twice 37 = .ok (.getfield 7, 3) := by decide +kernel
theorem dX4_twice_40 : decode cX4_twice 40 = .ok (.sipush 150, 3) := by decide +kernel
theorem dX4_twice_43 : decode cX4_twice 43 = .ok (.iconst 4, 1) := by decide +kernel
theorem dX4_twice_44 : decode cX4_twice 44 = .ok (.aload_n 0, 1) := by decide +kernel
theorem dX4_twice_45 : decode cX4_twice 45 = .ok (.getfield 7, 3) := by decide +kernel
theorem dX4_twice_48 : decode cX4_twice 48 = .ok (.bipush 6, 2) := by decide +kernel
theorem dX4_twice_50 : decode cX4_twice 50 = .ok (.iaload, 1) := by decide +kernel
theorem dX4_twice_51 : decode cX4_twice 51 = .ok (.imul, 1) := by decide +kernel
theorem dX4_twice_52 : decode cX4_twice 52 = .ok (.iadd, 1) := by decide +kernel
theorem dX4_twice_53 : decode cX4_twice 53 = .ok (.iload_n 2, 1) := by decide +kernel
theorem dX4_twice_54 : decode cX4_twice 54 = .ok (.iadd, 1) := by decide +kernel
theorem dX4_twice_55 : decode cX4_twice 55 = .ok (.aload_n 0, 1) := by decide +kernel
theorem dX4_twice_56 : decode cX4_twice 56 = .ok (.getfield 7, 3) := by decide +kernel
theorem dX4_twice_59 : decode cX4_twice 59 = .ok (.sipush 150, 3) := by decide +kernel
theorem dX4_twice_62 : decode cX4_twice 62 = .ok (.iconst 4, 1) := by decide +kernel
theorem dX4_twice_63 : decode cX4_twice 63 = .ok (.iload_n 1, 1) := by decide +kernel
theorem dX4_twice_64 : decode cX4_twice 64 = .ok (.imul, 1) := by decide +kernel
theorem dX4_twice_65 : decode cX4_twice 65 = .ok (.iadd, 1) := by decide +kernel
theorem dX4_twice_66 : decode cX4_twice 66 = .ok (.iload_n 2, 1) := by decide +kernel
theorem dX4_twice_67 : decode cX4_twice 67 = .ok (.iadd, 1) := by decide +kernel
theorem dX4_twice_68 : decode cX4_twice 68 = .ok (.iaload, 1) := by decide +kernel
theorem dX4_twice_69 : decode cX4_twice 69 = .ok (.iastore, 1) := by decide +kernel
theorem dX4_twice_70 : decode cX4_twice 70 = .ok (.iinc 2 1, 3) := by decide +kernel
theorem dX4_twice_73 : decode cX4_twice 73 = .ok (.goto (-42), 3) := by decide +kernel
theorem dX4_twice_76 : decode cX4_twice 76 = .ok (.aload_n 0, 1) := by decide +kernel
theorem dX4_twice_77 : decode cX4_twice 77 = .ok (.getfield 7, 3) := by decide +kernel
theorem dX4_twice_80 : decode cX4_twice 80 = .ok (.bipush 6, 2) := by decide +kernel
theorem dX4_twice_82 : decode cX4_twice 82 = .ok (.dup2, 1) := by decide +kernel
theorem dX4_twice_83 : decode cX4_twice 83 = .ok (.iaload, 1) := by decide +kernel
theorem dX4_twice_84 : decode cX4_twice 84 = .ok (.iconst 1, 1) := by decide +kernel
theorem dX4_twice_85 : decode cX4_twice 85 = .ok (.iadd, 1) := by decide +kernel
theorem dX4_twice_86 : decode cX4_twice 86 = .ok (.iastore, 1) := by decide +kernel
theorem dX4_twice_87 : decode cX4_twice 87 = .ok (.aload_n 0, 1) := by decide +kernel
theorem dX4_twice_88 : decode cX4_twice 88 = .ok (.getfield 7, 3) := by decide +kernel
theorem dX4_twice_91 : decode cX4_twice 91 = .ok (.bipush 6, 2) := by decide +kernel
theorem dX4_twice_93 : decode cX4_twice 93 = .ok (.iaload, 1) := by decide +kernel
theorem dX4_twice_94 : decode cX4_twice 94 = .ok (.ireturn, 1) := by decide +kernel
theorem dX4_ill_0 : decode cX4_ill 0 = .ok (.iconst 0, 1) := by decide +kernel
theorem dX4_ill_1 : decode cX4_ill 1 = .ok (.istore_n 1, 1) := by decide +kernel
theorem dX4_ill_2 : decode cX4_ill 2 = .ok (.iconst 0, 1) := by decide +kernel
theorem dX4_ill_3 : decode cX4_ill 3 = .ok (.istore_n 2, 1) := by decide +kernel
theorem dX4_ill_4 : decode cX4_ill 4 = .ok (.iload_n 2, 1) := by decide +kernel
theorem dX4_ill_5 : decode cX4_ill 5 = .ok (.iconst 5, 1) := by decide +kernel
theorem dX4_ill_6 : decode cX4_ill 6 = .ok (.if_icmp .ge 21, 3) := by decide +kernel
theorem dX4_ill_9 : decode cX4_ill 9 = .ok (.iload_n 1, 1) := by decide +kernel
theorem dX4_ill_10 : decode cX4_ill 10 = .ok (.aload_n 0, 1) := by decide +kernel
theorem dX4_ill_11 : decode cX4_ill 11 = .ok (.getfield 7, 3) := by decide +kernel
theorem dX4_ill_14 : decode cX4_ill 14 = .ok (.bipush 10, 2) := by decide +kernel
theorem dX4_ill_16 : decode cX4_ill 16 = .ok (.iload_n 2, 1) := by decide +kernel
theorem dX4_ill_17 : decode cX4_ill 17 = .ok (.iadd, 1) := by decide +kernel
theorem dX4_ill_18 : decode cX4_ill 18 = .ok (.iaload, 1) := by decide +kernel
theorem dX4_ill_19 : decode cX4_ill 19 = .ok (.iadd, 1) := by decide +kernel
theorem dX4_ill_20 : decode cX4_ill 20 = .ok (.istore_n 1, 1) := by decide +kernel
theorem dX4_ill_21 : decode cX4_ill 21 = .ok (.iinc 2 1, 3) := by decide +kernel
theorem dX4_ill_24 : decode cX4_ill 24 = .ok (.goto (-20), 3) := by decide +kernel
theorem dX4_ill_27 : decode cX4_ill 27 = .ok (.iload_n 1, 1) := by decide +kernel
theorem dX4_ill_28 : decode cX4_ill 28 = .ok (.ireturn, 1) := by decide +kernel
theorem dX4_fall_0 : decode cX4_fall 0 = .ok (.iload_n 1, 1) := by decide +kernel
theorem dX4_fall_1 : decode cX4_fall 1 = .ok (.iconst 0, 1) := by decide +kernel
theorem dX4_fall_2 : decode cX4_fall 2 = .ok (.iconst 4, 1) := by decide +kernel
theorem dX4_fall_3 : decode cX4_fall 3 = .ok (.invokestatic 95, 3) := by decide +kernel
theorem dX4_fall_6 : decode cX4_fall 6 = .ok (.ifCond .ne 5, 3) := by decide +kernel
theorem dX4_fall_9 : decode cX4_fall 9 = .ok (.iconst (-1), 1) := by decide +kernel
theorem dX4_fall_10 : decode cX4_fall 10 = .ok (.ireturn, 1) := by decide +kernel
theorem dX4_fall_11 : decode cX4_fall 11 = .ok (.aload_n 0, 1) := by decide +kernel
theorem dX4_fall_12 : decode cX4_fall 12 = .ok (.iload_n 1, 1) := by decide +kernel
theorem dX4_fall_13 : decode cX4_fall 13 = .ok (.invokevirtual 73, 3) := by decide +kernel
theorem dX4_fall_16 : decode cX4_fall 16 = .ok (.ifCond .eq 6, 3) := by decide +kernel
theorem dX4_fall_19 : decode cX4_fall 19 = .ok (.bipush (-5), 2) := by decide +kernel
theorem dX4_fall_21 : decode cX4_fall 21 = .ok (.ireturn, 1) := by decide +kernel
theorem dX4_fall_22 : decode cX4_fall 22 = .ok (.aload_n 0, 1) := by decide +kernel
theorem dX4_fall_23 : decode cX4_fall 23 = .ok (.invokevirtual 99, 3) := by decide +kernel
theorem dX4_fall_26 : decode cX4_fall 26 = .ok (.aload_n 0, 1) := by decide +kernel
theorem dX4_fall_27 : decode cX4_fall 27 = .ok (.getfield 7, 3) := by decide +kernel
theorem dX4_fall_30 : decode cX4_fall 30 = .ok (.bipush 10, 2) := by decide +kernel
theorem dX4_fall_32 : decode cX4_fall 32 = .ok (.iload_n 1, 1) := by decide +kernel
theorem dX4_fall_33 : decode cX4_fall 33 = .ok (.iadd, 1) := by decide +kernel
theorem dX4_fall_34 : decode cX4_fall 34 = .ok (.iconst 1, 1) := by decide +kernel
theorem dX4_fall_35 : decode cX4_fall 35 = .ok (.iastore, 1) := by decide +kernel
theorem dX4_fall_36 : decode cX4_fall 36 = .ok (.iconst 0, 1) := by decide +kernel
theorem dX4_fall_37 : decode cX4_fall 37 = .ok (.istore_n 2, 1) := by decide +kernel
theorem dX4_fall_38 : decode cX4_fall 38 = .ok (.iload_n 2, 1) := by decide +kernel
theorem dX4_fall_39 : decode cX4_fall 39 = .ok (.aload_n 0, 1) := by decide +kernel
theorem dX4_fall_40 : decode cX4_fall 40 = .ok (.getfield 7, 3) := by decide +kernel
theorem dX4_fall_43 : decode cX4_fall 43 = .ok (.iconst 5, 1) := by decide +kernel
theorem dX4_fall_44 : decode cX4_fall 44 = .ok (.iaload, 1) := by decide +kernel
theorem dX4_fall_45 : decode cX4_fall 45 = .ok (.if_icmp .ge 100, 3) := by decide +kernel
theorem dX4_fall_48 : decode cX4_fall 48 = .ok (.iload_n 1, 1) := by decide +kernel
theorem dX4_fall_49 : decode cX4_fall 49 = .ok (.iconst 4, 1) := by decide +kernel
theorem dX4_fall_50 : decode cX4_fall 50 = .ok (.if_icmp .ne 57, 3) := by decide +kernel
theorem dX4_fall_53 : decode cX4_fall 53 = .ok (.aload_n 0, 1) := by decide +kernel
theorem dX4_fall_54 : decode cX4_fall 54 = .ok (.iload_n 2, 1) := by decide +kernel
theorem dX4_fall_55 : decode cX4_fall 55 = .ok (.iconst 5, 1) := by decide +kernel
theorem dX4_fall_56 : decode cX4_fall 56 = .ok (.aload_n 0, 1) := by decide +kernel
theorem dX4_fall_57 : decode cX4_fall 57 = .ok (.iload_n 2, 1) := by decide +kernel
theorem dX4_fall_58 : decode cX4_fall 58 = .ok (.iconst 1, 1) := by decide +kernel
theorem dX4_fall_59 : decode cX4_fall 59 = .ok (.invokevirtual 40, 3) := by decide +kernel
theorem dX4_fall_62 : decode cX4_fall 62 = .ok (.iconst 1, 1) := by decide +kernel
theorem dX4_fall_63 : decode cX4_fall 63 = .ok (.if_icmp .ne 7, 3) := by decide +kernel
theorem dX4_fall_66 : decode cX4_fall 66 = .ok (.iconst 0, 1) := by decide +kernel
theorem dX4_fall_67 : decode cX4_fall 67 = .ok (.goto 9, 3) := by decide +kernel
theorem dX4_fall_70 : decode cX4_fall 70 = .ok (.aload_n 0, 1) := by decide +kernel
theorem dX4_fall_71 : decode cX4_fall 71 = .ok (.iload_n 2, 1) := by decide +kernel
theorem dX4_fall_72 : decode cX4_fall 72 = .ok (.iconst 5, 1) := by decide +kernel
theorem dX4_fall_73 : decode cX4_fall 73 = .ok (.invokevirtual 40, 3) := by decide +kernel
theorem dX4_fall_76 : decode cX4_fall 76 = .ok (.invokevirtual 52, 3) := by decide +kernel
theorem dX4_fall_79 : decode cX4_fall 79 = .ok (.aload_n 0, 1) := by decide +kernel
theorem dX4_fall_80 : decode cX4_fall 80 = .ok (.iload_n 2, 1) := by decide +kernel
theorem dX4_fall_81 : decode cX4_fall 81 = .ok (.iconst 1, 1) := by decide +kernel
theorem dX4_fall_82 : decode cX4_fall 82 = .ok (.aload_n 0, 1) := by decide +kernel
theorem dX4_fall_83 : decode cX4_fall 83 = .ok (.iload_n 2, 1) := by decide +kernel
theorem dX4_fall_84 : decode cX4_fall 84 = .ok (.iconst 1, 1) := by decide +kernel
theorem dX4_fall_85 : decode cX4_fall 85 = .ok (.invokevirtual 40, 3) := by decide +kernel
theorem dX4_fall_88 : decode cX4_fall 88 = .ok (.ifCond .ne 7, 3) := by decide +kernel
theorem dX4_fall_91 : decode cX4_fall 91 = .ok (.iconst 2, 1) := by decide +kernel
theorem dX4_fall_92 : decode cX4_fall 92 = .ok (.goto 9, 3) := by decide +kernel
theorem dX4_fall_95 : decode cX4_fall 95 = .ok (.aload_n 0, 1) := by decide +kernel
theorem dX4_fall_96 : decode cX4_fall 96 = .ok (.iload_n 2, 1) := by decide +kernel
theorem dX4_fall_97 : decode cX4_fall 97 = .ok (.iconst 1, 1) := by decide +kernel
theorem dX4_fall_98 : decode cX4_fall 98 = .ok (.invokevirtual 40, 3) := by decide +kernel
theorem dX4_fall_101 : decode cX4_fall 101 = .ok (.invokevirtual 52, 3) := by decide +kernel
theorem dX4_fall_104 : decode cX4_fall 104 = .ok (.goto 35, 3) := by decide +kernel
theorem dX4_fall_107 : decode cX4_fall 107 = .ok (.aload_n 0, 1) := by decide +kernel
theorem dX4_fall_108 : decode cX4_fall 108 = .ok (.iload_n 2, 1) := by decide +kernel
theorem dX4_fall_109 : decode cX4_fall 109 = .ok (.bipush 6, 2) := by decide +kernel
theorem dX4_fall_111 : decode cX4_fall 111 = .ok (.iload_n 1, 1) := by decide +kernel
theorem dX4_fall_112 : decode cX4_fall 112 = .ok (.iadd, 1) := by decide +kernel
theorem dX4_fall_113 : decode cX4_fall 113 = .ok (.invokevirtual 40, 3) := by decide +kernel
theorem dX4_fall_116 : decode cX4_fall 116 = .ok (.ifCond .ne 23, 3) := by decide +kernel
theorem dX4_fall_119 : decode cX4_fall 119 = .ok (.aload_n 0, 1) := by decide +kernel
theorem dX4_fall_120 : decode cX4_fall 120 = .ok (.iload_n 2, 1) := by decide +kernel
theorem dX4_fall_121 : decode cX4_fall 121 = .ok (.iload_n 1, 1) := by decide +kernel
theorem dX4_fall_122 : decode cX4_fall 122 = .ok (.aload_n 0, 1) := by decide +kernel
theorem dX4_fall_123 : decode cX4_fall 123 = .ok (.iload_n 2, 1) := by decide +kernel
theorem dX4_fall_124 : decode cX4_fall 124 = .ok (.iload_n 1, 1) := by decide +kernel
theorem dX4_fall_125 : decode cX4_fall 125 = .ok (.invokevirtual 86, 3) := by decide +kernel
theorem dX4_fall_128 : decode cX4_fall 128 = .ok (.ifCond .eq 7, 3) := by decide +kernel
theorem dX4_fall_131 : decode cX4_fall 131 = .ok (.iconst 3, 1) := by decide +kernel
theorem dX4_fall_132 : decode cX4_fall 132 = .ok (.goto 4, 3) := by decide +kernel
theorem dX4_fall_135 : decode cX4_fall 135 = .ok (.iconst 0, 1) := by decide +kernel
theorem dX4_fall_136 : decode cX4_fall 136 = .ok (.invokevirtual 66, 3) := by decide +kernel
theorem dX4_fall_139 : decode cX4_fall 139 = .ok (.iinc 2 1, 3) := by decide +kernel
theorem dX4_fall_142 : decode cX4_fall 142 = .ok (.goto (-104), 3) := by decide +kernel
theorem dX4_fall_145 : decode cX4_fall 145 = .ok (.aload_n 0, 1) := by decide +kernel
theorem dX4_fall_146 : decode cX4_fall 146 = .ok (.invokevirtual 111, 3) := by decide +kernel
theorem dX4_fall_149 : decode cX4_fall 149 = .ok (.ireturn, 1) := by decide +kernel
theorem dX4_rise_0 : decode cX4_rise 0 = .ok (.iload_n 1, 1) := by decide +kernel
theorem dX4_rise_1 : decode cX4_rise 1 = .ok (.iconst 0, 1) := by decide +kernel
theorem dX4_rise_2 : decode cX4_rise 2 = .ok (.iconst 4, 1) := by decide +kernel
theorem dX4_rise_3 : decode cX4_rise 3 = .ok (.invokestatic 95, 3) := by decide +kernel
theorem dX4_rise_6 : decode cX4_rise 6 = .ok (.ifCond .ne 5, 3) := by decide +kernel
theorem dX4_rise_9 : decode cX4_rise 9 = .ok (.iconst (-1), 1) := by decide +kernel
theorem dX4_rise_10 : decode cX4_rise 10 = .ok (.ireturn, 1) := by decide +kernel
theorem dX4_rise_11 : decode cX4_rise 11 = .ok (.aload_n 0, 1) := by decide +kernel
theorem dX4_rise_12 : decode cX4_rise 12 = .ok (.iload_n 1, 1) := by decide +kernel
theorem dX4_rise_13 : decode cX4_rise 13 = .ok (.invokevirtual 73, 3) := by decide +kernel
theorem dX4_rise_16 : decode cX4_rise 16 = .ok (.ifCond .ne 6, 3) := by decide +kernel
theorem dX4_rise_19 : decode cX4_rise 19 = .ok (.bipush (-5), 2) := by decide +kernel
theorem dX4_rise_21 : decode cX4_rise 21 = .ok (.ireturn, 1) := by decide +kernel
theorem dX4_rise_22 : decode cX4_rise 22 = .ok (.aload_n 0, 1) := by decide +kernel
theorem dX4_rise_23 : decode cX4_rise 23 = .ok (.invokevirtual 99, 3) := by decide +kernel
theorem dX4_rise_26 : decode cX4_rise 26 = .ok (.aload_n 0, 1) := by decide +kernel
theorem dX4_rise_27 : decode cX4_rise 27 = .ok (.getfield 7, 3) := by decide +kernel
theorem dX4_rise_30 : decode cX4_rise 30 = .ok (.bipush 10, 2) := by decide +kernel
theorem dX4_rise_32 : decode cX4_rise 32 = .ok (.iload_n 1, 1) := by decide +kernel
theorem dX4_rise_33 : decode cX4_rise 33 = .ok (.iadd, 1) := by decide +kernel
theorem dX4_rise_34 : decode cX4_rise 34 = .ok (.iconst 0, 1) := by decide +kernel
theorem dX4_rise_35 : decode cX4_rise 35 = .ok (.iastore, 1) := by decide +kernel
theorem dX4_rise_36 : decode cX4_rise 36 = .ok (.aload_n 0, 1) := by decide +kernel
theorem dX4_rise_37 : decode cX4_rise 37 = .ok (.invokevirtual 111, 3) := by decide +kernel
theorem dX4_rise_40 : decode cX4_rise 40 = .ok (.ireturn, 1) := by decide +kernel
theorem dX4_ticks_0 : decode cX4_ticks 0 = .ok (.iload_n 1, 1) := by decide +kernel
theorem dX4_ticks_1 : decode cX4_ticks 1 = .ok (.iconst 1, 1) := by decide +kernel
theorem dX4_ticks_2 : decode cX4_ticks 2 = .ok (.bipush 100, 2) := by decide +kernel
theorem dX4_ticks_4 : decode cX4_ticks 4 = .ok (.invokestatic 95, 3) := by decide +kernel
theorem dX4_ticks_7 : decode cX4_ticks 7 = .ok (.ifCond .ne 6, 3) := by decide +kernel
theorem dX4_ticks_10 : decode cX4_ticks 10 = .ok (.bipush (-2), 2) := by decide +kernel
theorem dX4_ticks_12 : decode cX4_ticks 12 = .ok (.ireturn, 1) := by decide +kernel
theorem dX4_ticks_13 : decode cX4_ticks 13 = .ok (.aload_n 0, 1) := by decide +kernel
theorem dX4_ticks_14 : decode cX4_ticks 14 = .ok (.invokevirtual 99, 3) := by decide +kernel
theorem dX4_ticks_17 : decode cX4_ticks 17 = .ok (.iconst 0, 1) := by decide +kernel
theorem dX4_ticks_18 : decode cX4_ticks 18 = .ok (.istore_n 2, 1) := by decide +kernel
theorem dX4_ticks_19 : decode cX4_ticks 19 = .ok (.iload_n 2, 1) := by decide +kernel
theorem dX4_ticks_20 : decode cX4_ticks 20 = .ok (.iload_n 1, 1) := by decide +kernel
theorem dX4_ticks_21 : decode cX4_ticks 21 = .ok (.if_icmp .ge 13, 3) := by decide +kernel
theorem dX4_ticks_24 : decode cX4_ticks 24 = .ok (.aload_n 0, 1) := by decide +kernel
theorem dX4_ticks_25 : decode cX4_ticks 25 = .ok (.invokevirtual 115, 3) := by decide +kernel
theorem dX4_ticks_28 : decode cX4_ticks 28 = .ok (.iinc 2 1, 3) := by decide +kernel
theorem dX4_ticks_31 : decode cX4_ticks 31 = .ok (.goto (-12), 3) := by decide +kernel
theorem dX4_ticks_34 : decode cX4_ticks 34 = .ok (.aload_n 0, 1) := by decide +kernel
theorem dX4_ticks_35 : decode cX4_ticks 35 = .ok (.getfield 7, 3) := by decide +kernel
theorem dX4_ticks_38 : decode cX4_ticks 38 = .ok (.iconst 4, 1) := by decide +kernel
theorem dX4_ticks_39 : decode cX4_ticks 39 = .ok (.iaload, 1) := by decide +kernel
theorem dX4_ticks_40 : decode cX4_ticks 40 = .ok (.ireturn, 1) := by decide +kernel
theorem dX4_isDeal_0 : decode cX4_isDeal 0 = .ok (.iload_n 1, 1) := by decide +kernel
theorem dX4_isDeal_1 : decode cX4_isDeal 1 = .ok (.iconst 0, 1) := by decide +kernel
theorem dX4_isDeal_2 : decode cX4_isDeal 2 = .ok (.aload_n 0, 1) := by decide +kernel
theorem dX4_isDeal_3 : decode cX4_isDeal 3 = .ok (.getfield 7, 3) := by decide +kernel
theorem dX4_isDeal_6 : decode cX4_isDeal 6 = .ok (.iconst 5, 1) := by decide +kernel
theorem dX4_isDeal_7 : decode cX4_isDeal 7 = .ok (.iaload, 1) := by decide +kernel
theorem dX4_isDeal_8 : decode cX4_isDeal 8 = .ok (.iconst 1, 1) := by decide +kernel
theorem dX4_isDeal_9 : decode cX4_isDeal 9 = .ok (.isub, 1) := by decide +kernel
theorem dX4_isDeal_10 : decode cX4_isDeal 10 = .ok (.invokestatic 95, 3) := by decide +kernel
theorem dX4_isDeal_13 : decode cX4_isDeal 13 = .ok (.ireturn, 1) := by decide +kernel
theorem dX4_clerksOf_0 : decode cX4_clerksOf 0 = .ok (.iconst 0, 1) := by decide +kernel
theorem dX4_clerksOf_1 : decode cX4_clerksOf 1 = .ok (.istore_n 3, 1) := by decide +kernel
theorem dX4_clerksOf_2 : decode cX4_clerksOf 2 = .ok (.iconst 0, 1) := by decide +kernel
theorem dX4_clerksOf_3 : decode cX4_clerksOf 3 = .ok (.istore 4, 2) := by decide +kernel
theorem dX4_clerksOf_5 : decode cX4_clerksOf 5 = .ok (.iload 4, 2) := by decide +kernel
theorem dX4_clerksOf_7 : decode cX4_clerksOf 7 = .ok (.iconst 4, 1) := by decide +kernel
theorem dX4_clerksOf_8 : decode cX4_clerksOf 8 = .ok (.if_icmp .ge 44, 3) := by decide +kernel
theorem dX4_clerksOf_11 : decode cX4_clerksOf 11 = .ok (.iload_n 3, 1) := by decide +kernel
theorem dX4_clerksOf_12 : decode cX4_clerksOf 12 = .ok (.aload_n 0, 1) := by decide +kernel
theorem dX4_clerksOf_13 : decode cX4_clerksOf 13 = .ok (.iload_n 1, 1) := by decide +kernel
theorem dX4_clerksOf_14 : decode cX4_clerksOf 14 = .ok (.iload 4, 2) := by decide +kernel
theorem dX4_clerksOf_16 : decode cX4_clerksOf 16 = .ok (.invokevirtual 86, 3) := by decide +kernel
theorem dX4_clerksOf_19 : decode cX4_clerksOf 19 = .ok (.ifCond .eq 24, 3) := by decide +kernel
theorem dX4_clerksOf_22 : decode cX4_clerksOf 22 = .ok (.aload_n 0, 1) := by decide +kernel
theorem dX4_clerksOf_23 : decode cX4_clerksOf 23 = .ok (.iload_n 1, 1) := by decide +kernel
theorem dX4_clerksOf_24 : decode cX4_clerksOf 24 = .ok (.bipush 6, 2) := by decide +kernel
theorem dX4_clerksOf_26 : decode cX4_clerksOf 26 = .ok (.iload 4, 2) := by decide +kernel
theorem dX4_clerksOf_28 : decode cX4_clerksOf 28 = .ok (.iadd, 1) := by decide +kernel
theorem dX4_clerksOf_29 : decode cX4_clerksOf 29 = .ok (.invokevirtual 40, 3) := by decide +kernel
theorem dX4_clerksOf_32 : decode cX4_clerksOf 32 = .ok (.iload_n 2, 1) := by decide +kernel
theorem dX4_clerksOf_33 : decode cX4_clerksOf 33 = .ok (.if_icmp .ne 10, 3) := by decide +kernel
theorem dX4_clerksOf_36 : decode cX4_clerksOf 36 = .ok (.iconst 1, 1) := by decide +kernel
theorem dX4_clerksOf_37 : decode cX4_clerksOf 37 = .ok (.iload 4, 2) := by decide +kernel
theorem dX4_clerksOf_39 : decode cX4_clerksOf 39 = .ok (.ishl, 1) := by decide +kernel
theorem dX4_clerksOf_40 : decode cX4_clerksOf 40 = .ok (.goto 4, 3) := by decide +kernel
theorem dX4_clerksOf_43 : decode cX4_clerksOf 43 = .ok (.iconst 0, 1) := by decide +kernel
theorem dX4_clerksOf_44 : decode cX4_clerksOf 44 = .ok (.ior, 1) := by decide +kernel
theorem dX4_clerksOf_45 : decode cX4_clerksOf 45 = .ok (.istore_n 3, 1) := by decide +kernel
theorem dX4_clerksOf_46 : decode cX4_clerksOf 46 = .ok (.iinc 4 1, 3) := by decide +kernel
theorem dX4_clerksOf_49 : decode cX4_clerksOf 49 = .ok (.goto (-44), 3) := by decide +kernel
theorem dX4_clerksOf_52 : decode cX4_clerksOf 52 = .ok (.iload_n 3, 1) := by decide +kernel
theorem dX4_clerksOf_53 : decode cX4_clerksOf 53 = .ok (.ireturn, 1) := by decide +kernel
theorem dX4_ofDeal_0 : decode cX4_ofDeal 0 = .ok (.aload_n 0, 1) := by decide +kernel
theorem dX4_ofDeal_1 : decode cX4_ofDeal 1 = .ok (.iload_n 1, 1) := by decide +kernel
theorem dX4_ofDeal_2 : decode cX4_ofDeal 2 = .ok (.invokevirtual 118, 3) := by decide +kernel
theorem dX4_ofDeal_5 : decode cX4_ofDeal 5 = .ok (.ifCond .ne 5, 3) := by decide +kernel
theorem dX4_ofDeal_8 : decode cX4_ofDeal 8 = .ok (.iconst (-1), 1) := by decide +kernel
theorem dX4_ofDeal_9 : decode cX4_ofDeal 9 = .ok (.ireturn, 1) := by decide +kernel
theorem dX4_ofDeal_10 : decode cX4_ofDeal 10 = .ok (.iload_n 2, 1) := by decide +kernel
theorem dX4_ofDeal_11 : decode cX4_ofDeal 11 = .ok (.tableswitch 49 0 4 #[33, 33, 33, 40, 40], 33) := by decide +kernel
theorem dX4_ofDeal_44 : decode cX4_ofDeal 44 = .ok (.aload_n 0, 1) := by decide +kernel
theorem dX4_ofDeal_45 : decode cX4_ofDeal 45 = .ok (.iload_n 1, 1) := by decide +kernel
theorem dX4_ofDeal_46 : decode cX4_ofDeal 46 = .ok (.iload_n 2, 1) := by decide +kernel
theorem dX4_ofDeal_47 : decode cX4_ofDeal 47 = .ok (.invokevirtual 40, 3) := by decide +kernel
theorem dX4_ofDeal_50 : decode cX4_ofDeal 50 = .ok (.ireturn, 1) := by decide +kernel
theorem dX4_ofDeal_51 : decode cX4_ofDeal 51 = .ok (.aload_n 0, 1) := by decide +kernel
theorem dX4_ofDeal_52 : decode cX4_ofDeal 52 = .ok (.iload_n 1, 1) := by decide +kernel
theorem dX4_ofDeal_53 : decode cX4_ofDeal 53 = .ok (.iload_n 2, 1) := by decide +kernel
theorem dX4_ofDeal_54 : decode cX4_ofDeal 54 = .ok (.iconst 1, 1) := by decide +kernel
theorem dX4_ofDeal_55 : decode cX4_ofDeal 55 = .ok (.iadd, 1) := by decide +kernel
theorem dX4_ofDeal_56 : decode cX4_ofDeal 56 = .ok (.invokevirtual 40, 3) := by decide +kernel
theorem dX4_ofDeal_59 : decode cX4_ofDeal 59 = .ok (.ireturn, 1) := by decide +kernel
theorem dX4_ofDeal_60 : decode cX4_ofDeal 60 = .ok (.iload_n 2, 1) := by decide +kernel
theorem dX4_ofDeal_61 : decode cX4_ofDeal 61 = .ok (.iconst 5, 1) := by decide +kernel
theorem dX4_ofDeal_62 : decode cX4_ofDeal 62 = .ok (.bipush 8, 2) := by decide +kernel
theorem dX4_ofDeal_64 : decode cX4_ofDeal 64 = .ok (.invokestatic 95, 3) := by decide +kernel
theorem dX4_ofDeal_67 : decode cX4_ofDeal 67 = .ok (.ifCond .eq 14, 3) := by decide +kernel
theorem dX4_ofDeal_70 : decode cX4_ofDeal 70 = .ok (.aload_n 0, 1) := by decide +kernel
theorem dX4_ofDeal_71 : decode cX4_ofDeal 71 = .ok (.iload_n 1, 1) := by decide +kernel
theorem dX4_ofDeal_72 : decode cX4_ofDeal 72 = .ok (.iload_n 2, 1) := by decide +kernel
theorem dX4_ofDeal_73 : decode cX4_ofDeal 73 = .ok (.iconst 5, 1) := by decide +kernel
theorem dX4_ofDeal_74 : decode cX4_ofDeal 74 = .ok (.isub, 1) := by decide +kernel
theorem dX4_ofDeal_75 : decode cX4_ofDeal 75 = .ok (.invokevirtual 121, 3) := by decide +kernel
theorem dX4_ofDeal_78 : decode cX4_ofDeal 78 = .ok (.goto 5, 3) := by decide +kernel
theorem dX4_ofDeal_81 : decode cX4_ofDeal 81 = .ok (.bipush (-2), 2) := by decide +kernel
theorem dX4_ofDeal_83 : decode cX4_ofDeal 83 = .ok (.ireturn, 1) := by decide +kernel
theorem dX4_at_0 : decode cX4_at 0 = .ok (.aload_n 0, 1) := by decide +kernel
theorem dX4_at_1 : decode cX4_at 1 = .ok (.iload_n 1, 1) := by decide +kernel
theorem dX4_at_2 : decode cX4_at 2 = .ok (.invokevirtual 118, 3) := by decide +kernel
theorem dX4_at_5 : decode cX4_at 5 = .ok (.ifCond .eq 12, 3) := by decide +kernel
theorem dX4_at_8 : decode cX4_at 8 = .ok (.iload_n 2, 1) := by decide +kernel
theorem dX4_at_9 : decode cX4_at 9 = .ok (.iconst 0, 1) := by decide +kernel
theorem dX4_at_10 : decode cX4_at 10 = .ok (.iconst 3, 1) := by decide +kernel
theorem dX4_at_11 : decode cX4_at 11 = .ok (.invokestatic 95, 3) := by decide +kernel
theorem dX4_at_14 : decode cX4_at 14 = .ok (.ifCond .ne 5, 3) := by decide +kernel
theorem dX4_at_17 : decode cX4_at 17 = .ok (.iconst (-1), 1) := by decide +kernel
theorem dX4_at_18 : decode cX4_at 18 = .ok (.ireturn, 1) := by decide +kernel
theorem dX4_at_19 : decode cX4_at 19 = .ok (.aload_n 0, 1) := by decide +kernel
theorem dX4_at_20 : decode cX4_at 20 = .ok (.iload_n 1, 1) := by decide +kernel
theorem dX4_at_21 : decode cX4_at 21 = .ok (.iload_n 2, 1) := by decide +kernel
theorem dX4_at_22 : decode cX4_at 22 = .ok (.invokevirtual 86, 3) := by decide +kernel
theorem dX4_at_25 : decode cX4_at 25 = .ok (.ifCond .eq 15, 3) := by decide +kernel
theorem dX4_at_28 : decode cX4_at 28 = .ok (.aload_n 0, 1) := by decide +kernel
theorem dX4_at_29 : decode cX4_at 29 = .ok (.iload_n 1, 1) := by decide +kernel
theorem dX4_at_30 : decode cX4_at 30 = .ok (.bipush 6, 2) := by decide +kernel
theorem dX4_at_32 : decode cX4_at 32 = .ok (.iload_n 2, 1) := by decide +kernel
theorem dX4_at_33 : decode cX4_at 33 = .ok (.iadd, 1) := by decide +kernel
theorem dX4_at_34 : decode cX4_at 34 = .ok (.invokevirtual 40, 3) := by decide +kernel
theorem dX4_at_37 : decode cX4_at 37 = .ok (.goto 5, 3) := by decide +kernel
theorem dX4_at_40 : decode cX4_at 40 = .ok (.bipush (-6), 2) := by decide +kernel
theorem dX4_at_42 : decode cX4_at 42 = .ok (.ireturn, 1) := by decide +kernel
theorem dX4_message_0 : decode cX4_message 0 = .ok (.aload_n 0, 1) := by decide +kernel
theorem dX4_message_1 : decode cX4_message 1 = .ok (.iload_n 1, 1) := by decide +kernel
theorem dX4_message_2 : decode cX4_message 2 = .ok (.invokevirtual 102, 3) := by decide +kernel
theorem dX4_message_5 : decode cX4_message 5 = .ok (.ifCond .ne 5, 3) := by decide +kernel
theorem dX4_message_8 : decode cX4_message 8 = .ok (.iconst (-1), 1) := by decide +kernel
theorem dX4_message_9 : decode cX4_message 9 = .ok (.ireturn, 1) := by decide +kernel
theorem dX4_message_10 : decode cX4_message 10 = .ok (.iload_n 2, 1) := by decide +kernel
theorem dX4_message_11 : decode cX4_message 11 = .ok (.iconst 0, 1) := by decide +kernel
theorem dX4_message_12 : decode cX4_message 12 = .ok (.iconst 3, 1) := by decide +kernel
theorem dX4_message_13 : decode cX4_message 13 = .ok (.invokestatic 95, 3) := by decide +kernel
theorem dX4_message_16 : decode cX4_message 16 = .ok (.ifCond .eq 20, 3) := by decide +kernel
theorem dX4_message_19 : decode cX4_message 19 = .ok (.aload_n 0, 1) := by decide +kernel
theorem dX4_message_20 : decode cX4_message 20 = .ok (.getfield 7, 3) := by decide +kernel
theorem dX4_message_23 : decode cX4_message 23 = .ok (.sipush 150, 3) := by decide +kernel
theorem dX4_message_26 : decode cX4_message 26 = .ok (.iconst 4, 1) := by decide +kernel
theorem dX4_message_27 : decode cX4_message 27 = .ok (.iload_n 1, 1) := by decide +kernel
theorem dX4_message_28 : decode cX4_message 28 = .ok (.imul, 1) := by decide +kernel
theorem dX4_message_29 : decode cX4_message 29 = .ok (.iadd, 1) := by decide +kernel
theorem dX4_message_30 : decode cX4_message 30 = .ok (.iload_n 2, 1) := by decide +kernel
theorem dX4_message_31 : decode cX4_message 31 = .ok (.iadd, 1) := by decide +kernel
theorem dX4_message_32 : decode cX4_message 32 = .ok (.iaload, 1) := by decide +kernel
theorem dX4_message_33 : decode cX4_message 33 = .ok (.goto 5, 3) := by decide +kernel
theorem dX4_message_36 : decode cX4_message 36 = .ok (.bipush (-2), 2) := by decide +kernel
theorem dX4_message_38 : decode cX4_message 38 = .ok (.ireturn, 1) := by decide +kernel
theorem dX4_underwayTo_0 : decode cX4_underwayTo 0 = .ok (.iconst 0, 1) := by decide +kernel
theorem dX4_underwayTo_1 : decode cX4_underwayTo 1 = .ok (.istore_n 2, 1) := by decide +kernel
theorem dX4_underwayTo_2 : decode cX4_underwayTo 2 = .ok (.iconst 0, 1) := by decide +kernel
theorem dX4_underwayTo_3 : decode cX4_underwayTo 3 = .ok (.istore_n 3, 1) := by decide +kernel
theorem dX4_underwayTo_4 : decode cX4_underwayTo 4 = .ok (.iload_n 3, 1) := by decide +kernel
theorem dX4_underwayTo_5 : decode cX4_underwayTo 5 = .ok (.aload_n 0, 1) := by decide +kernel
theorem dX4_underwayTo_6 : decode cX4_underwayTo 6 = .ok (.getfield 7, 3) := by decide +kernel
theorem dX4_underwayTo_9 : decode cX4_underwayTo 9 = .ok (.bipush 6, 2) := by decide +kernel
theorem dX4_underwayTo_11 : decode cX4_underwayTo 11 = .ok (.iaload, 1) := by decide +kernel
theorem dX4_underwayTo_12 : decode cX4_underwayTo 12 = .ok (.if_icmp .ge 35, 3) := by decide +kernel
theorem dX4_underwayTo_15 : decode cX4_underwayTo 15 = .ok (.iload_n 2, 1) := by decide +kernel
theorem dX4_underwayTo_16 : decode cX4_underwayTo 16 = .ok (.aload_n 0, 1) := by decide +kernel
theorem dX4_underwayTo_17 : decode cX4_underwayTo 17 = .ok (.getfield 7, 3) := by decide +kernel
theorem dX4_underwayTo_20 : decode cX4_underwayTo 20 = .ok (.sipush 150, 3) := by decide +kernel
theorem dX4_underwayTo_23 : decode cX4_underwayTo 23 = .ok (.iconst 4, 1) := by decide +kernel
theorem dX4_underwayTo_24 : decode cX4_underwayTo 24 = .ok (.iload_n 3, 1) := by decide +kernel
theorem dX4_underwayTo_25 : decode cX4_underwayTo 25 = .ok (.imul, 1) := by decide +kernel
theorem dX4_underwayTo_26 : decode cX4_underwayTo 26 = .ok (.iadd, 1) := by decide +kernel
theorem dX4_underwayTo_27 : decode cX4_underwayTo 27 = .ok (.iconst 3, 1) := by decide +kernel
theorem dX4_underwayTo_28 : decode cX4_underwayTo 28 = .ok (.iadd, 1) := by decide +kernel
theorem dX4_underwayTo_29 : decode cX4_underwayTo 29 = .ok (.iaload, 1) := by decide +kernel
theorem dX4_underwayTo_30 : decode cX4_underwayTo 30 = .ok (.iload_n 1, 1) := by decide +kernel
theorem dX4_underwayTo_31 : decode cX4_underwayTo 31 = .ok (.if_icmp .ne 7, 3) := by decide +kernel
theorem dX4_underwayTo_34 : decode cX4_underwayTo 34 = .ok (.iconst 1, 1) := by decide +kernel
theorem dX4_underwayTo_35 : decode cX4_underwayTo 35 = .ok (.goto 4, 3) := by decide +kernel
theorem dX4_underwayTo_38 : decode cX4_underwayTo 38 = .ok (.iconst 0, 1) := by decide +kernel
theorem dX4_underwayTo_39 : decode cX4_underwayTo 39 = .ok (.iadd, 1) := by decide +kernel
theorem dX4_underwayTo_40 : decode cX4_underwayTo 40 = .ok (.istore_n 2, 1) := by decide +kernel
theorem dX4_underwayTo_41 : decode cX4_underwayTo 41 = .ok (.iinc 3 1, 3) := by decide +kernel
theorem dX4_underwayTo_44 : decode cX4_underwayTo 44 = .ok (.goto (-40), 3) := by decide +kernel
theorem dX4_underwayTo_47 : decode cX4_underwayTo 47 = .ok (.iload_n 2, 1) := by decide +kernel
theorem dX4_underwayTo_48 : decode cX4_underwayTo 48 = .ok (.ireturn, 1) := by decide +kernel
theorem dX4_who_0 : decode cX4_who 0 = .ok (.iload_n 1, 1) := by decide +kernel
theorem dX4_who_1 : decode cX4_who 1 = .ok (.iconst 0, 1) := by decide +kernel
theorem dX4_who_2 : decode cX4_who 2 = .ok (.iconst 4, 1) := by decide +kernel
theorem dX4_who_3 : decode cX4_who 3 = .ok (.invokestatic 95, 3) := by decide +kernel
theorem dX4_who_6 : decode cX4_who 6 = .ok (.ifCond .ne 5, 3) := by decide +kernel
theorem dX4_who_9 : decode cX4_who 9 = .ok (.iconst (-1), 1) := by decide +kernel
theorem dX4_who_10 : decode cX4_who 10 = .ok (.ireturn, 1) := by decide +kernel
theorem dX4_who_11 : decode cX4_who 11 = .ok (.iload_n 2, 1) := by decide +kernel
theorem dX4_who_12 : decode cX4_who 12 = .ok (.tableswitch 77 0 3 #[32, 42, 61, 67], 32) := by decide +kernel
theorem dX4_who_44 : decode cX4_who 44 = .ok (.aload_n 0, 1) := by decide +kernel
theorem dX4_who_45 : decode cX4_who 45 = .ok (.getfield 7, 3) := by decide +kernel
theorem dX4_who_48 : decode cX4_who 48 = .ok (.bipush 10, 2) := by decide +kernel
theorem dX4_who_50 : decode cX4_who 50 = .ok (.iload_n 1, 1) := by decide +kernel
theorem dX4_who_51 : decode cX4_who 51 = .ok (.iadd, 1) := by decide +kernel
theorem dX4_who_52 : decode cX4_who 52 = .ok (.iaload, 1) := by decide +kernel
theorem dX4_who_53 : decode cX4_who 53 = .ok (.ireturn, 1) := by decide +kernel
theorem dX4_who_54 : decode cX4_who 54 = .ok (.iload_n 1, 1) := by decide +kernel
theorem dX4_who_55 : decode cX4_who 55 = .ok (.iconst 4, 1) := by decide +kernel
theorem dX4_who_56 : decode cX4_who 56 = .ok (.if_icmp .ne 7, 3) := by decide +kernel
theorem dX4_who_59 : decode cX4_who 59 = .ok (.iconst 1, 1) := by decide +kernel
theorem dX4_who_60 : decode cX4_who 60 = .ok (.goto 12, 3) := by decide +kernel
theorem dX4_who_63 : decode cX4_who 63 = .ok (.aload_n 0, 1) := by decide +kernel
theorem dX4_who_64 : decode cX4_who 64 = .ok (.getfield 7, 3) := by decide +kernel
theorem dX4_who_67 : decode cX4_who 67 = .ok (.bipush 15, 2) := by decide +kernel
theorem dX4_who_69 : decode cX4_who 69 = .ok (.iload_n 1, 1) := by decide +kernel
theorem dX4_who_70 : decode cX4_who 70 = .ok (.iadd, 1) := by decide +kernel
theorem dX4_who_71 : decode cX4_who 71 = .ok (.iaload, 1) := by decide +kernel
theorem dX4_who_72 : decode cX4_who 72 = .ok (.ireturn, 1) := by decide +kernel
theorem dX4_who_73 : decode cX4_who 73 = .ok (.aload_n 0, 1) := by decide +kernel
theorem dX4_who_74 : decode cX4_who 74 = .ok (.iload_n 1, 1) := by decide +kernel
theorem dX4_who_75 : decode cX4_who 75 = .ok (.invokevirtual 124, 3) := by decide +kernel
theorem dX4_who_78 : decode cX4_who 78 = .ok (.ireturn, 1) := by decide +kernel
theorem dX4_who_79 : decode cX4_who 79 = .ok (.aload_n 0, 1) := by decide +kernel
theorem dX4_who_80 : decode cX4_who 80 = .ok (.getfield 7, 3) := by decide +kernel
theorem dX4_who_83 : decode cX4_who 83 = .ok (.bipush 20, 2) := by decide +kernel
theorem dX4_who_85 : decode cX4_who 85 = .ok (.iload_n 1, 1) := by decide +kernel
theorem dX4_who_86 : decode cX4_who 86 = .ok (.iadd, 1) := by decide +kernel
theorem dX4_who_87 : decode cX4_who 87 = .ok (.iaload, 1) := by decide +kernel
theorem dX4_who_88 : decode cX4_who 88 = .ok (.ireturn, 1) := by decide +kernel
theorem dX4_who_89 : decode cX4_who 89 = .ok (.iload_n 2, 1) := by decide +kernel
theorem dX4_who_90 : decode cX4_who 90 = .ok (.iconst 4, 1) := by decide +kernel
theorem dX4_who_91 : decode cX4_who 91 = .ok (.if_icmp .ne 15, 3) := by decide +kernel
theorem dX4_who_94 : decode cX4_who 94 = .ok (.aload_n 0, 1) := by decide +kernel
theorem dX4_who_95 : decode cX4_who 95 = .ok (.getfield 7, 3) := by decide +kernel
theorem dX4_who_98 : decode cX4_who 98 = .ok (.bipush 25, 2) := by decide +kernel
theorem dX4_who_100 : decode cX4_who 100 = .ok (.iload_n 1, 1) := by decide +kernel
theorem dX4_who_101 : decode cX4_who 101 = .ok (.iadd, 1) := by decide +kernel
theorem dX4_who_102 : decode cX4_who 102 = .ok (.iaload, 1) := by decide +kernel
theorem dX4_who_103 : decode cX4_who 103 = .ok (.goto 5, 3) := by decide +kernel
theorem dX4_who_106 : decode cX4_who 106 = .ok (.bipush (-2), 2) := by decide +kernel
theorem dX4_who_108 : decode cX4_who 108 = .ok (.ireturn, 1) := by decide +kernel
theorem dX4_dealsWith_0 : decode cX4_dealsWith 0 = .ok (.iconst 0, 1) := by decide +kernel
theorem dX4_dealsWith_1 : decode cX4_dealsWith 1 = .ok (.istore_n 2, 1) := by decide +kernel
theorem dX4_dealsWith_2 : decode cX4_dealsWith 2 = .ok (.iconst 0, 1) := by decide +kernel
theorem dX4_dealsWith_3 : decode cX4_dealsWith 3 = .ok (.istore_n 3, 1) := by decide +kernel
theorem dX4_dealsWith_4 : decode cX4_dealsWith 4 = .ok (.iload_n 3, 1) := by decide +kernel
theorem dX4_dealsWith_5 : decode cX4_dealsWith 5 = .ok (.aload_n 0, 1) := by decide +kernel
theorem dX4_dealsWith_6 : decode cX4_dealsWith 6 = .ok (.getfield 7, 3) := by decide +kernel
theorem dX4_dealsWith_9 : decode cX4_dealsWith 9 = .ok (.iconst 5, 1) := by decide +kernel
theorem dX4_dealsWith_10 : decode cX4_dealsWith 10 = .ok (.iaload, 1) := by decide +kernel
theorem dX4_dealsWith_11 : decode cX4_dealsWith 11 = .ok (.if_icmp .ge 68, 3) := by decide +kernel
theorem dX4_dealsWith_14 : decode cX4_dealsWith 14 = .ok (.aload_n 0, 1) := by decide +kernel
theorem dX4_dealsWith_15 : decode cX4_dealsWith 15 = .ok (.iload_n 3, 1) := by decide +kernel
theorem dX4_dealsWith_16 : decode cX4_dealsWith 16 = .ok (.iconst 2, 1) := by decide +kernel
theorem dX4_dealsWith_17 : decode cX4_dealsWith 17 = .ok (.invokevirtual 121, 3) := by decide +kernel
theorem dX4_dealsWith_20 : decode cX4_dealsWith 20 = .ok (.ifCond .eq 7, 3) := by decide +kernel
theorem dX4_dealsWith_23 : decode cX4_dealsWith 23 = .ok (.iconst 1, 1) := by decide +kernel
theorem dX4_dealsWith_24 : decode cX4_dealsWith 24 = .ok (.goto 4, 3) := by decide +kernel
theorem dX4_dealsWith_27 : decode cX4_dealsWith 27 = .ok (.iconst 0, 1) := by decide +kernel
theorem dX4_dealsWith_28 : decode cX4_dealsWith 28 = .ok (.istore 4, 2) := by decide +kernel
theorem dX4_dealsWith_30 : decode cX4_dealsWith 30 = .ok (.aload_n 0, 1) := by decide +kernel
theorem dX4_dealsWith_31 : decode cX4_dealsWith 31 = .ok (.iload_n 3, 1) := by decide +kernel
theorem dX4_dealsWith_32 : decode cX4_dealsWith 32 = .ok (.iconst 3, 1) := by decide +kernel
theorem dX4_dealsWith_33 : decode cX4_dealsWith 33 = .ok (.invokevirtual 121, 3) := by decide +kernel
theorem dX4_dealsWith_36 : decode cX4_dealsWith 36 = .ok (.ifCond .eq 7, 3) := by decide +kernel
theorem dX4_dealsWith_39 : decode cX4_dealsWith 39 = .ok (.iconst 1, 1) := by decide +kernel
theorem dX4_dealsWith_40 : decode cX4_dealsWith 40 = .ok (.goto 4, 3) := by decide +kernel
theorem dX4_dealsWith_43 : decode cX4_dealsWith 43 = .ok (.iconst 0, 1) := by decide +kernel
theorem dX4_dealsWith_44 : decode cX4_dealsWith 44 = .ok (.istore 5, 2) := by decide +kernel
theorem dX4_dealsWith_46 : decode cX4_dealsWith 46 = .ok (.iload_n 2, 1) := by decide +kernel
theorem dX4_dealsWith_47 : decode cX4_dealsWith 47 = .ok (.iload_n 1, 1) := by decide +kernel
theorem dX4_dealsWith_48 : decode cX4_dealsWith 48 = .ok (.iconst 1, 1) := by decide +kernel
theorem dX4_dealsWith_49 : decode cX4_dealsWith 49 = .ok (.if_icmp .eq 8, 3) := by decide +kernel
theorem dX4_dealsWith_52 : decode cX4_dealsWith 52 = .ok (.iload 4, 2) := by decide +kernel
theorem dX4_dealsWith_54 : decode cX4_dealsWith 54 = .ok (.ifCond .eq 16, 3) := by decide +kernel
theorem dX4_dealsWith_57 : decode cX4_dealsWith 57 = .ok (.iload_n 1, 1) := by decide +kernel
theorem dX4_dealsWith_58 : decode cX4_dealsWith 58 = .ok (.ifCond .eq 8, 3) := by decide +kernel
theorem dX4_dealsWith_61 : decode cX4_dealsWith 61 = .ok (.iload 5, 2) := by decide +kernel
theorem dX4_dealsWith_63 : decode cX4_dealsWith 63 = .ok (.ifCond .eq 7, 3) := by decide +kernel
theorem dX4_dealsWith_66 : decode cX4_dealsWith 66 = .ok (.iconst 1, 1) := by decide +kernel
theorem dX4_dealsWith_67 : decode cX4_dealsWith 67 = .ok (.goto 4, 3) := by decide +kernel
theorem dX4_dealsWith_70 : decode cX4_dealsWith 70 = .ok (.iconst 0, 1) := by decide +kernel
theorem dX4_dealsWith_71 : decode cX4_dealsWith 71 = .ok (.iadd, 1) := by decide +kernel
theorem dX4_dealsWith_72 : decode cX4_dealsWith 72 = .ok (.istore_n 2, 1) := by decide +kernel
theorem dX4_dealsWith_73 : decode cX4_dealsWith 73 = .ok (.iinc 3 1, 3) := by decide +kernel
theorem dX4_dealsWith_76 : decode cX4_dealsWith 76 = .ok (.goto (-72), 3) := by decide +kernel
theorem dX4_dealsWith_79 : decode cX4_dealsWith 79 = .ok (.iload_n 2, 1) := by decide +kernel
theorem dX4_dealsWith_80 : decode cX4_dealsWith 80 = .ok (.ireturn, 1) := by decide +kernel
theorem dX4_count_0 : decode cX4_count 0 = .ok (.iload_n 1, 1) := by decide +kernel
theorem dX4_count_1 : decode cX4_count 1 = .ok (.bipush 7, 2) := by decide +kernel
theorem dX4_count_3 : decode cX4_count 3 = .ok (.bipush 10, 2) := by decide +kernel
theorem dX4_count_5 : decode cX4_count 5 = .ok (.invokestatic 95, 3) := by decide +kernel
theorem dX4_count_8 : decode cX4_count 8 = .ok (.ifCond .eq 13, 3) := by decide +kernel
theorem dX4_count_11 : decode cX4_count 11 = .ok (.aload_n 0, 1) := by decide +kernel
theorem dX4_count_12 : decode cX4_count 12 = .ok (.getfield 7, 3) := by decide +kernel
theorem dX4_count_15 : decode cX4_count 15 = .ok (.iload_n 1, 1) := by decide +kernel
theorem dX4_count_16 : decode cX4_count 16 = .ok (.bipush 7, 2) := by decide +kernel
theorem dX4_count_18 : decode cX4_count 18 = .ok (.isub, 1) := by decide +kernel
theorem dX4_count_19 : decode cX4_count 19 = .ok (.iaload, 1) := by decide +kernel
theorem dX4_count_20 : decode cX4_count 20 = .ok (.ireturn, 1) := by decide +kernel
theorem dX4_count_21 : decode cX4_count 21 = .ok (.iload_n 1, 1) := by decide +kernel
theorem dX4_count_22 : decode cX4_count 22 = .ok (.bipush 11, 2) := by decide +kernel
theorem dX4_count_24 : decode cX4_count 24 = .ok (.bipush 13, 2) := by decide +kernel
theorem dX4_count_26 : decode cX4_count 26 = .ok (.invokestatic 95, 3) := by decide +kernel
theorem dX4_count_29 : decode cX4_count 29 = .ok (.ifCond .eq 12, 3) := by decide +kernel
theorem dX4_count_32 : decode cX4_count 32 = .ok (.aload_n 0, 1) := by decide +kernel
theorem dX4_count_33 : decode cX4_count 33 = .ok (.iload_n 1, 1) := by decide +kernel
theorem dX4_count_34 : decode cX4_count 34 = .ok (.bipush 11, 2) := by decide +kernel
theorem dX4_count_36 : decode cX4_count 36 = .ok (.isub, 1) := by decide +kernel
theorem dX4_count_37 : decode cX4_count 37 = .ok (.invokevirtual 128, 3) := by decide +kernel
theorem dX4_count_40 : decode cX4_count 40 = .ok (.ireturn, 1) := by decide +kernel
theorem dX4_count_41 : decode cX4_count 41 = .ok (.iload_n 1, 1) := by decide +kernel
theorem dX4_count_42 : decode cX4_count 42 = .ok (.iconst 0, 1) := by decide +kernel
theorem dX4_count_43 : decode cX4_count 43 = .ok (.iconst 4, 1) := by decide +kernel
theorem dX4_count_44 : decode cX4_count 44 = .ok (.invokestatic 95, 3) := by decide +kernel
theorem dX4_count_47 : decode cX4_count 47 = .ok (.ifCond .eq 14, 3) := by decide +kernel
theorem dX4_count_50 : decode cX4_count 50 = .ok (.aload_n 0, 1) := by decide +kernel
theorem dX4_count_51 : decode cX4_count 51 = .ok (.getfield 7, 3) := by decide +kernel
theorem dX4_count_54 : decode cX4_count 54 = .ok (.iconst 4, 1) := by decide +kernel
theorem dX4_count_55 : decode cX4_count 55 = .ok (.iload_n 1, 1) := by decide +kernel
theorem dX4_count_56 : decode cX4_count 56 = .ok (.iadd, 1) := by decide +kernel
theorem dX4_count_57 : decode cX4_count 57 = .ok (.iaload, 1) := by decide +kernel
theorem dX4_count_58 : decode cX4_count 58 = .ok (.goto 30, 3) := by decide +kernel
theorem dX4_count_61 : decode cX4_count 61 = .ok (.iload_n 1, 1) := by decide +kernel
theorem dX4_count_62 : decode cX4_count 62 = .ok (.iconst 5, 1) := by decide +kernel
theorem dX4_count_63 : decode cX4_count 63 = .ok (.if_icmp .ne 10, 3) := by decide +kernel
theorem dX4_count_66 : decode cX4_count 66 = .ok (.aload_n 0, 1) := by decide +kernel
theorem dX4_count_67 : decode cX4_count 67 = .ok (.getfield 131, 3) := by decide +kernel
theorem dX4_count_70 : decode cX4_count 70 = .ok (.goto 18, 3) := by decide +kernel
theorem dX4_count_73 : decode cX4_count 73 = .ok (.iload_n 1, 1) := by decide +kernel
theorem dX4_count_74 : decode cX4_count 74 = .ok (.bipush 6, 2) := by decide +kernel
theorem dX4_count_76 : decode cX4_count 76 = .ok (.if_icmp .ne 10, 3) := by decide +kernel
theorem dX4_count_79 : decode cX4_count 79 = .ok (.aload_n 0, 1) := by decide +kernel
theorem dX4_count_80 : decode cX4_count 80 = .ok (.getfield 36, 3) := by decide +kernel
theorem dX4_count_83 : decode cX4_count 83 = .ok (.goto 5, 3) := by decide +kernel
theorem dX4_count_86 : decode cX4_count 86 = .ok (.bipush (-2), 2) := by decide +kernel
theorem dX4_count_88 : decode cX4_count 88 = .ok (.ireturn, 1) := by decide +kernel
theorem dX4_sure_0 : decode cX4_sure 0 = .ok (.aload_n 0, 1) := by decide +kernel
theorem dX4_sure_1 : decode cX4_sure 1 = .ok (.iload_n 1, 1) := by decide +kernel
theorem dX4_sure_2 : decode cX4_sure 2 = .ok (.invokevirtual 118, 3) := by decide +kernel
theorem dX4_sure_5 : decode cX4_sure 5 = .ok (.ifCond .ne 5, 3) := by decide +kernel
theorem dX4_sure_8 : decode cX4_sure 8 = .ok (.iconst (-1), 1) := by decide +kernel
theorem dX4_sure_9 : decode cX4_sure 9 = .ok (.ireturn, 1) := by decide +kernel
theorem dX4_sure_10 : decode cX4_sure 10 = .ok (.aload_n 0, 1) := by decide +kernel
theorem dX4_sure_11 : decode cX4_sure 11 = .ok (.iload_n 1, 1) := by decide +kernel
theorem dX4_sure_12 : decode cX4_sure 12 = .ok (.iconst 1, 1) := by decide +kernel
theorem dX4_sure_13 : decode cX4_sure 13 = .ok (.invokevirtual 40, 3) := by decide +kernel
theorem dX4_sure_16 : decode cX4_sure 16 = .ok (.istore_n 2, 1) := by decide +kernel
theorem dX4_sure_17 : decode cX4_sure 17 = .ok (.iload_n 2, 1) := by decide +kernel
theorem dX4_sure_18 : decode cX4_sure 18 = .ok (.iconst 1, 1) := by decide +kernel
theorem dX4_sure_19 : decode cX4_sure 19 = .ok (.if_icmp .eq 8, 3) := by decide +kernel
theorem dX4_sure_22 : decode cX4_sure 22 = .ok (.iload_n 2, 1) := by decide +kernel
theorem dX4_sure_23 : decode cX4_sure 23 = .ok (.iconst 3, 1) := by decide +kernel
theorem dX4_sure_24 : decode cX4_sure 24 = .ok (.if_icmp .ne 7, 3) := by decide +kernel
theorem dX4_sure_27 : decode cX4_sure 27 = .ok (.iconst 1, 1) := by decide +kernel
theorem dX4_sure_28 : decode cX4_sure 28 = .ok (.goto 22, 3) := by decide +kernel
theorem dX4_sure_31 : decode cX4_sure 31 = .ok (.iload_n 2, 1) := by decide +kernel
theorem dX4_sure_32 : decode cX4_sure 32 = .ok (.iconst 2, 1) := by decide +kernel
theorem dX4_sure_33 : decode cX4_sure 33 = .ok (.if_icmp .eq 12, 3) := by decide +kernel
theorem dX4_sure_36 : decode cX4_sure 36 = .ok (.aload_n 0, 1) := by decide +kernel
theorem dX4_sure_37 : decode cX4_sure 37 = .ok (.iload_n 1, 1) := by decide +kernel
theorem dX4_sure_38 : decode cX4_sure 38 = .ok (.iconst 3, 1) := by decide +kernel
theorem dX4_sure_39 : decode cX4_sure 39 = .ok (.invokevirtual 121, 3) := by decide +kernel
theorem dX4_sure_42 : decode cX4_sure 42 = .ok (.ifCond .eq 7, 3) := by decide +kernel
theorem dX4_sure_45 : decode cX4_sure 45 = .ok (.iconst 2, 1) := by decide +kernel
theorem dX4_sure_46 : decode cX4_sure 46 = .ok (.goto 4, 3) := by decide +kernel
theorem dX4_sure_49 : decode cX4_sure 49 = .ok (.iconst 0, 1) := by decide +kernel
theorem dX4_sure_50 : decode cX4_sure 50 = .ok (.ireturn, 1) := by decide +kernel
theorem dX4_canAsk_0 : decode cX4_canAsk 0 = .ok (.aload_n 0, 1) := by decide +kernel
theorem dX4_canAsk_1 : decode cX4_canAsk 1 = .ok (.iconst 4, 1) := by decide +kernel
theorem dX4_canAsk_2 : decode cX4_canAsk 2 = .ok (.invokevirtual 73, 3) := by decide +kernel
theorem dX4_canAsk_5 : decode cX4_canAsk 5 = .ok (.ifCond .ne 16, 3) := by decide +kernel
theorem dX4_canAsk_8 : decode cX4_canAsk 8 = .ok (.aload_n 0, 1) := by decide +kernel
theorem dX4_canAsk_9 : decode cX4_canAsk 9 = .ok (.iload_n 1, 1) := by decide +kernel
theorem dX4_canAsk_10 : decode cX4_canAsk 10 = .ok (.iconst 1, 1) := by decide +kernel
theorem dX4_canAsk_11 : decode cX4_canAsk 11 = .ok (.invokevirtual 40, 3) := by decide +kernel
theorem dX4_canAsk_14 : decode cX4_canAsk 14 = .ok (.ifCond .eq 7, 3) := by decide +kernel
theorem dX4_canAsk_17 : decode cX4_canAsk 17 = .ok (.iconst 1, 1) := by decide +kernel
theorem dX4_canAsk_18 : decode cX4_canAsk 18 = .ok (.goto 4, 3) := by decide +kernel
theorem dX4_canAsk_21 : decode cX4_canAsk 21 = .ok (.iconst 0, 1) := by decide +kernel
theorem dX4_canAsk_22 : decode cX4_canAsk 22 = .ok (.istore_n 3, 1) := by decide +kernel
theorem dX4_canAsk_23 : decode cX4_canAsk 23 = .ok (.iconst 0, 1) := by decide +kernel
theorem dX4_canAsk_24 : decode cX4_canAsk 24 = .ok (.istore 4, 2) := by decide +kernel
theorem dX4_canAsk_26 : decode cX4_canAsk 26 = .ok (.iload 4, 2) := by decide +kernel
theorem dX4_canAsk_28 : decode cX4_canAsk 28 = .ok (.iconst 4, 1) := by decide +kernel
theorem dX4_canAsk_29 : decode cX4_canAsk 29 = .ok (.if_icmp .ge 68, 3) := by decide +kernel
theorem dX4_canAsk_32 : decode cX4_canAsk 32 = .ok (.iload_n 3, 1) := by decide +kernel
theorem dX4_canAsk_33 : decode cX4_canAsk 33 = .ok (.ifCond .ne 52, 3) := by decide +kernel
theorem dX4_canAsk_36 : decode cX4_canAsk 36 = .ok (.aload_n 0, 1) := by decide +kernel
theorem dX4_canAsk_37 : decode cX4_canAsk 37 = .ok (.getfield 7, 3) := by decide +kernel
theorem dX4_canAsk_40 : decode cX4_canAsk 40 = .ok (.iconst 3, 1) := by decide +kernel
theorem dX4_canAsk_41 : decode cX4_canAsk 41 = .ok (.iaload, 1) := by decide +kernel
theorem dX4_canAsk_42 : decode cX4_canAsk 42 = .ok (.iconst 1, 1) := by decide +kernel
theorem dX4_canAsk_43 : decode cX4_canAsk 43 = .ok (.if_icmp .ne 46, 3) := by decide +kernel
theorem dX4_canAsk_46 : decode cX4_canAsk 46 = .ok (.iload 4, 2) := by decide +kernel
theorem dX4_canAsk_48 : decode cX4_canAsk 48 = .ok (.iload_n 2, 1) := by decide +kernel
theorem dX4_canAsk_49 : decode cX4_canAsk 49 = .ok (.if_icmp .eq 40, 3) := by decide +kernel
theorem dX4_canAsk_52 : decode cX4_canAsk 52 = .ok (.aload_n 0, 1) := by decide +kernel
theorem dX4_canAsk_53 : decode cX4_canAsk 53 = .ok (.iload_n 1, 1) := by decide +kernel
theorem dX4_canAsk_54 : decode cX4_canAsk 54 = .ok (.iload 4, 2) := by decide +kernel
theorem dX4_canAsk_56 : decode cX4_canAsk 56 = .ok (.invokevirtual 86, 3) := by decide +kernel
theorem dX4_canAsk_59 : decode cX4_canAsk 59 = .ok (.ifCond .eq 30, 3) := by decide +kernel
theorem dX4_canAsk_62 : decode cX4_canAsk 62 = .ok (.aload_n 0, 1) := by decide +kernel
theorem dX4_canAsk_63 : decode cX4_canAsk 63 = .ok (.iload 4, 2) := by decide +kernel
theorem dX4_canAsk_65 : decode cX4_canAsk 65 = .ok (.invokevirtual 73, 3) := by decide +kernel
theorem dX4_canAsk_68 : decode cX4_canAsk 68 = .ok (.ifCond .ne 21, 3) := by decide +kernel
theorem dX4_canAsk_71 : decode cX4_canAsk 71 = .ok (.aload_n 0, 1) := by decide +kernel
theorem dX4_canAsk_72 : decode cX4_canAsk 72 = .ok (.iload_n 1, 1) := by decide +kernel
theorem dX4_canAsk_73 : decode cX4_canAsk 73 = .ok (.bipush 6, 2) := by decide +kernel
theorem dX4_canAsk_75 : decode cX4_canAsk 75 = .ok (.iload 4, 2) := by decide +kernel
theorem dX4_canAsk_77 : decode cX4_canAsk 77 = .ok (.iadd, 1) := by decide +kernel
theorem dX4_canAsk_78 : decode cX4_canAsk 78 = .ok (.invokevirtual 40, 3) := by decide +kernel
theorem dX4_canAsk_81 : decode cX4_canAsk 81 = .ok (.iconst 1, 1) := by decide +kernel
theorem dX4_canAsk_82 : decode cX4_canAsk 82 = .ok (.if_icmp .eq 7, 3) := by decide +kernel
theorem dX4_canAsk_85 : decode cX4_canAsk 85 = .ok (.iconst 1, 1) := by decide +kernel
theorem dX4_canAsk_86 : decode cX4_canAsk 86 = .ok (.goto 4, 3) := by decide +kernel
theorem dX4_canAsk_89 : decode cX4_canAsk 89 = .ok (.iconst 0, 1) := by decide +kernel
theorem dX4_canAsk_90 : decode cX4_canAsk 90 = .ok (.istore_n 3, 1) := by decide +kernel
theorem dX4_canAsk_91 : decode cX4_canAsk 91 = .ok (.iinc 4 1, 3) := by decide +kernel
theorem dX4_canAsk_94 : decode cX4_canAsk 94 = .ok (.goto (-68), 3) := by decide +kernel
theorem dX4_canAsk_97 : decode cX4_canAsk 97 = .ok (.iload_n 3, 1) := by decide +kernel
theorem dX4_canAsk_98 : decode cX4_canAsk 98 = .ok (.ifCond .eq 37, 3) := by decide +kernel
theorem dX4_canAsk_101 : decode cX4_canAsk 101 = .ok (.aload_n 0, 1) := by decide +kernel
theorem dX4_canAsk_102 : decode cX4_canAsk 102 = .ok (.iload_n 2, 1) := by decide +kernel
theorem dX4_canAsk_103 : decode cX4_canAsk 103 = .ok (.invokevirtual 73, 3) := by decide +kernel
theorem dX4_canAsk_106 : decode cX4_canAsk 106 = .ok (.ifCond .ne 29, 3) := by decide +kernel
theorem dX4_canAsk_109 : decode cX4_canAsk 109 = .ok (.aload_n 0, 1) := by decide +kernel
theorem dX4_canAsk_110 : decode cX4_canAsk 110 = .ok (.iload_n 1, 1) := by decide +kernel
theorem dX4_canAsk_111 : decode cX4_canAsk 111 = .ok (.iload_n 2, 1) := by decide +kernel
theorem dX4_canAsk_112 : decode cX4_canAsk 112 = .ok (.invokevirtual 86, 3) := by decide +kernel
theorem dX4_canAsk_115 : decode cX4_canAsk 115 = .ok (.ifCond .eq 20, 3) := by decide +kernel
theorem dX4_canAsk_118 : decode cX4_canAsk 118 = .ok (.aload_n 0, 1) := by decide +kernel
theorem dX4_canAsk_119 : decode cX4_canAsk 119 = .ok (.iload_n 1, 1) := by decide +kernel
theorem dX4_canAsk_120 : decode cX4_canAsk 120 = .ok (.bipush 6, 2) := by decide +kernel
theorem dX4_canAsk_122 : decode cX4_canAsk 122 = .ok (.iload_n 2, 1) := by decide +kernel
theorem dX4_canAsk_123 : decode cX4_canAsk 123 = .ok (.iadd, 1) := by decide +kernel
theorem dX4_canAsk_124 : decode cX4_canAsk 124 = .ok (.invokevirtual 40, 3) := by decide +kernel
theorem dX4_canAsk_127 : decode cX4_canAsk 127 = .ok (.iconst 1, 1) := by decide +kernel
theorem dX4_canAsk_128 : decode cX4_canAsk 128 = .ok (.if_icmp .ne 7, 3) := by decide +kernel
theorem dX4_canAsk_131 : decode cX4_canAsk 131 = .ok (.iconst 1, 1) := by decide +kernel
theorem dX4_canAsk_132 : decode cX4_canAsk 132 = .ok (.goto 4, 3) := by decide +kernel
theorem dX4_canAsk_135 : decode cX4_canAsk 135 = .ok (.iconst 0, 1) := by decide +kernel
theorem dX4_canAsk_136 : decode cX4_canAsk 136 = .ok (.ireturn, 1) := by decide +kernel
theorem dX4_couldAsk_0 : decode cX4_couldAsk 0 = .ok (.aload_n 0, 1) := by decide +kernel
theorem dX4_couldAsk_1 : decode cX4_couldAsk 1 = .ok (.iload_n 1, 1) := by decide +kernel
theorem dX4_couldAsk_2 : decode cX4_couldAsk 2 = .ok (.invokevirtual 118, 3) := by decide +kernel
theorem dX4_couldAsk_5 : decode cX4_couldAsk 5 = .ok (.ifCond .ne 5, 3) := by decide +kernel
theorem dX4_couldAsk_8 : decode cX4_couldAsk 8 = .ok (.iconst (-1), 1) := by decide +kernel
theorem dX4_couldAsk_9 : decode cX4_couldAsk 9 = .ok (.ireturn, 1) := by decide +kernel
theorem dX4_couldAsk_10 : decode cX4_couldAsk 10 = .ok (.iconst 0, 1) := by decide +kernel
theorem dX4_couldAsk_11 : decode cX4_couldAsk 11 = .ok (.istore_n 2, 1) := by decide +kernel
theorem dX4_couldAsk_12 : decode cX4_couldAsk 12 = .ok (.iconst 0, 1) := by decide +kernel
theorem dX4_couldAsk_13 : decode cX4_couldAsk 13 = .ok (.istore_n 3, 1) := by decide +kernel
theorem dX4_couldAsk_14 : decode cX4_couldAsk 14 = .ok (.iload_n 3, 1) := by decide +kernel
theorem dX4_couldAsk_15 : decode cX4_couldAsk 15 = .ok (.iconst 4, 1) := by decide +kernel
theorem dX4_couldAsk_16 : decode cX4_couldAsk 16 = .ok (.if_icmp .ge 28, 3) := by decide +kernel
theorem dX4_couldAsk_19 : decode cX4_couldAsk 19 = .ok (.iload_n 2, 1) := by decide +kernel
theorem dX4_couldAsk_20 : decode cX4_couldAsk 20 = .ok (.aload_n 0, 1) := by decide +kernel
theorem dX4_couldAsk_21 : decode cX4_couldAsk 21 = .ok (.iload_n 1, 1) := by decide +kernel
theorem dX4_couldAsk_22 : decode cX4_couldAsk 22 = .ok (.iload_n 3, 1) := by decide +kernel
theorem dX4_couldAsk_23 : decode cX4_couldAsk 23 = .ok (.invokevirtual 134, 3) := by decide +kernel
theorem dX4_couldAsk_26 : decode cX4_couldAsk 26 = .ok (.ifCond .eq 9, 3) := by decide +kernel
theorem dX4_couldAsk_29 : decode cX4_couldAsk 29 = .ok (.iconst 1, 1) := by decide +kernel
theorem dX4_couldAsk_30 : decode cX4_couldAsk 30 = .ok (.iload_n 3, 1) := by decide +kernel
theorem dX4_couldAsk_31 : decode cX4_couldAsk 31 = .ok (.ishl, 1) := by decide +kernel
theorem dX4_couldAsk_32 : decode cX4_couldAsk 32 = .ok (.goto 4, 3) := by decide +kernel
theorem dX4_couldAsk_35 : decode cX4_couldAsk 35 = .ok (.iconst 0, 1) := by decide +kernel
theorem dX4_couldAsk_36 : decode cX4_couldAsk 36 = .ok (.ior, 1) := by decide +kernel
theorem dX4_couldAsk_37 : decode cX4_couldAsk 37 = .ok (.istore_n 2, 1) := by decide +kernel
theorem dX4_couldAsk_38 : decode cX4_couldAsk 38 = .ok (.iinc 3 1, 3) := by decide +kernel
theorem dX4_couldAsk_41 : decode cX4_couldAsk 41 = .ok (.goto (-27), 3) := by decide +kernel
theorem dX4_couldAsk_44 : decode cX4_couldAsk 44 = .ok (.iload_n 2, 1) := by decide +kernel
theorem dX4_couldAsk_45 : decode cX4_couldAsk 45 = .ok (.ireturn, 1) := by decide +kernel
theorem dX4_isSettled_0 : decode cX4_isSettled 0 = .ok (.aload_n 0, 1) := by decide +kernel
theorem dX4_isSettled_1 : decode cX4_isSettled 1 = .ok (.iload_n 1, 1) := by decide +kernel
theorem dX4_isSettled_2 : decode cX4_isSettled 2 = .ok (.iconst 2, 1) := by decide +kernel
theorem dX4_isSettled_3 : decode cX4_isSettled 3 = .ok (.invokevirtual 121, 3) := by decide +kernel
theorem dX4_isSettled_6 : decode cX4_isSettled 6 = .ok (.aload_n 0, 1) := by decide +kernel
theorem dX4_isSettled_7 : decode cX4_isSettled 7 = .ok (.iload_n 1, 1) := by decide +kernel
theorem dX4_isSettled_8 : decode cX4_isSettled 8 = .ok (.iconst 3, 1) := by decide +kernel
theorem dX4_isSettled_9 : decode cX4_isSettled 9 = .ok (.invokevirtual 121, 3) := by decide +kernel
theorem dX4_isSettled_12 : decode cX4_isSettled 12 = .ok (.ior, 1) := by decide +kernel
theorem dX4_isSettled_13 : decode cX4_isSettled 13 = .ok (.aload_n 0, 1) := by decide +kernel
theorem dX4_isSettled_14 : decode cX4_isSettled 14 = .ok (.iload_n 1, 1) := by decide +kernel
theorem dX4_isSettled_15 : decode cX4_isSettled 15 = .ok (.iconst 0, 1) := by decide +kernel
theorem dX4_isSettled_16 : decode cX4_isSettled 16 = .ok (.invokevirtual 40, 3) := by decide +kernel
theorem dX4_isSettled_19 : decode cX4_isSettled 19 = .ok (.if_icmp .ne 7, 3) := by decide +kernel
theorem dX4_isSettled_22 : decode cX4_isSettled 22 = .ok (.iconst 1, 1) := by decide +kernel
theorem dX4_isSettled_23 : decode cX4_isSettled 23 = .ok (.goto 4, 3) := by decide +kernel
theorem dX4_isSettled_26 : decode cX4_isSettled 26 = .ok (.iconst 0, 1) := by decide +kernel
theorem dX4_isSettled_27 : decode cX4_isSettled 27 = .ok (.ireturn, 1) := by decide +kernel
theorem dX4_goRound_0 : decode cX4_goRound 0 = .ok (.aload_n 0, 1) := by decide +kernel
theorem dX4_goRound_1 : decode cX4_goRound 1 = .ok (.getfield 7, 3) := by decide +kernel
theorem dX4_goRound_4 : decode cX4_goRound 4 = .ok (.bipush 6, 2) := by decide +kernel
theorem dX4_goRound_6 : decode cX4_goRound 6 = .ok (.iaload, 1) := by decide +kernel
theorem dX4_goRound_7 : decode cX4_goRound 7 = .ok (.istore_n 1, 1) := by decide +kernel
theorem dX4_goRound_8 : decode cX4_goRound 8 = .ok (.iconst 0, 1) := by decide +kernel
theorem dX4_goRound_9 : decode cX4_goRound 9 = .ok (.istore_n 2, 1) := by decide +kernel
theorem dX4_goRound_10 : decode cX4_goRound 10 = .ok (.iload_n 2, 1) := by decide +kernel
theorem dX4_goRound_11 : decode cX4_goRound 11 = .ok (.iload_n 1, 1) := by decide +kernel
theorem dX4_goRound_12 : decode cX4_goRound 12 = .ok (.if_icmp .ge 14, 3) := by decide +kernel
theorem dX4_goRound_15 : decode cX4_goRound 15 = .ok (.aload_n 0, 1) := by decide +kernel
theorem dX4_goRound_16 : decode cX4_goRound 16 = .ok (.iconst 0, 1) := by decide +kernel
theorem dX4_goRound_17 : decode cX4_goRound 17 = .ok (.invokevirtual 105, 3) := by decide +kernel
theorem dX4_goRound_20 : decode cX4_goRound 20 = .ok (.iinc 2 1, 3) := by decide +kernel
theorem dX4_goRound_23 : decode cX4_goRound 23 = .ok (.goto (-13), 3) := by decide +kernel
theorem dX4_goRound_26 : decode cX4_goRound 26 = .ok (.aload_n 0, 1) := by decide +kernel
theorem dX4_goRound_27 : decode cX4_goRound 27 = .ok (.invokevirtual 115, 3) := by decide +kernel
theorem dX4_goRound_30 : decode cX4_goRound 30 = .ok (.return_, 1) := by decide +kernel
theorem dX4_roundsTo_0 : decode cX4_roundsTo 0 = .ok (.iconst 0, 1) := by decide +kernel
theorem dX4_roundsTo_1 : decode cX4_roundsTo 1 = .ok (.istore_n 2, 1) := by decide +kernel
theorem dX4_roundsTo_2 : decode cX4_roundsTo 2 = .ok (.iload_n 2, 1) := by decide +kernel
theorem dX4_roundsTo_3 : decode cX4_roundsTo 3 = .ok (.sipush 201, 3) := by decide +kernel
theorem dX4_roundsTo_6 : decode cX4_roundsTo 6 = .ok (.if_icmp .ge 21, 3) := by decide +kernel
theorem dX4_roundsTo_9 : decode cX4_roundsTo 9 = .ok (.aload_n 0, 1) := by decide +kernel
theorem dX4_roundsTo_10 : decode cX4_roundsTo 10 = .ok (.iload_n 1, 1) := by decide +kernel
theorem dX4_roundsTo_11 : decode cX4_roundsTo 11 = .ok (.invokevirtual 137, 3) := by decide +kernel
theorem dX4_roundsTo_14 : decode cX4_roundsTo 14 = .ok (.ifCond .ne 13, 3) := by decide +kernel
theorem dX4_roundsTo_17 : decode cX4_roundsTo 17 = .ok (.aload_n 0, 1) := by decide +kernel
theorem dX4_roundsTo_18 : decode cX4_roundsTo 18 = .ok (.invokevirtual 140, 3) := by decide +kernel
theorem dX4_roundsTo_21 : decode cX4_roundsTo 21 = .ok (.iinc 2 1, 3) := by decide +kernel
theorem dX4_roundsTo_24 : decode cX4_roundsTo 24 = .ok (.goto (-22), 3) := by decide +kernel
theorem dX4_roundsTo_27 : decode cX4_roundsTo 27 = .ok (.iload_n 2, 1) := by decide +kernel
theorem dX4_roundsTo_28 : decode cX4_roundsTo 28 = .ok (.ireturn, 1) := by decide +kernel
theorem dX4_settledIn_0 : decode cX4_settledIn 0 = .ok (.aload_n 0, 1) := by decide +kernel
theorem dX4_settledIn_1 : decode cX4_settledIn 1 = .ok (.iload_n 1, 1) := by decide +kernel
theorem dX4_settledIn_2 : decode cX4_settledIn 2 = .ok (.invokevirtual 118, 3) := by decide +kernel
theorem dX4_settledIn_5 : decode cX4_settledIn 5 = .ok (.ifCond .ne 5, 3) := by decide +kernel
theorem dX4_settledIn_8 : decode cX4_settledIn 8 = .ok (.iconst (-1), 1) := by decide +kernel
theorem dX4_settledIn_9 : decode cX4_settledIn 9 = .ok (.ireturn, 1) := by decide +kernel
theorem dX4_settledIn_10 : decode cX4_settledIn 10 = .ok (.aload_n 0, 1) := by decide +kernel
theorem dX4_settledIn_11 : decode cX4_settledIn 11 = .ok (.invokevirtual 143, 3) := by decide +kernel
theorem dX4_settledIn_14 : decode cX4_settledIn 14 = .ok (.aload_n 0, 1) := by decide +kernel
theorem dX4_settledIn_15 : decode cX4_settledIn 15 = .ok (.iload_n 1, 1) := by decide +kernel
theorem dX4_settledIn_16 : decode cX4_settledIn 16 = .ok (.invokevirtual 146, 3) := by decide +kernel
theorem dX4_settledIn_19 : decode cX4_settledIn 19 = .ok (.istore_n 2, 1) := by decide +kernel
theorem dX4_settledIn_20 : decode cX4_settledIn 20 = .ok (.aload_n 0, 1) := by decide +kernel
theorem dX4_settledIn_21 : decode cX4_settledIn 21 = .ok (.invokevirtual 149, 3) := by decide +kernel
theorem dX4_settledIn_24 : decode cX4_settledIn 24 = .ok (.iload_n 2, 1) := by decide +kernel
theorem dX4_settledIn_25 : decode cX4_settledIn 25 = .ok (.sipush 200, 3) := by decide +kernel
theorem dX4_settledIn_28 : decode cX4_settledIn 28 = .ok (.if_icmp .le 8, 3) := by decide +kernel
theorem dX4_settledIn_31 : decode cX4_settledIn 31 = .ok (.bipush (-6), 2) := by decide +kernel
theorem dX4_settledIn_33 : decode cX4_settledIn 33 = .ok (.goto 4, 3) := by decide +kernel
theorem dX4_settledIn_36 : decode cX4_settledIn 36 = .ok (.iload_n 2, 1) := by decide +kernel
theorem dX4_settledIn_37 : decode cX4_settledIn 37 = .ok (.ireturn, 1) := by decide +kernel
theorem dX4_underwayIn_0 : decode cX4_underwayIn 0 = .ok (.iload_n 1, 1) := by decide +kernel
theorem dX4_underwayIn_1 : decode cX4_underwayIn 1 = .ok (.iconst 1, 1) := by decide +kernel
theorem dX4_underwayIn_2 : decode cX4_underwayIn 2 = .ok (.bipush 50, 2) := by decide +kernel
theorem dX4_underwayIn_4 : decode cX4_underwayIn 4 = .ok (.invokestatic 95, 3) := by decide +kernel
theorem dX4_underwayIn_7 : decode cX4_underwayIn 7 = .ok (.ifCond .ne 6, 3) := by decide +kernel
theorem dX4_underwayIn_10 : decode cX4_underwayIn 10 = .ok (.bipush (-2), 2) := by decide +kernel
theorem dX4_underwayIn_12 : decode cX4_underwayIn 12 = .ok (.ireturn, 1) := by decide +kernel
theorem dX4_underwayIn_13 : decode cX4_underwayIn 13 = .ok (.aload_n 0, 1) := by decide +kernel
theorem dX4_underwayIn_14 : decode cX4_underwayIn 14 = .ok (.invokevirtual 143, 3) := by decide +kernel
theorem dX4_underwayIn_17 : decode cX4_underwayIn 17 = .ok (.iconst 0, 1) := by decide +kernel
theorem dX4_underwayIn_18 : decode cX4_underwayIn 18 = .ok (.istore_n 2, 1) := by decide +kernel
theorem dX4_underwayIn_19 : decode cX4_underwayIn 19 = .ok (.iload_n 2, 1) := by decide +kernel
theorem dX4_underwayIn_20 : decode cX4_underwayIn 20 = .ok (.iload_n 1, 1) := by decide +kernel
theorem dX4_underwayIn_21 : decode cX4_underwayIn 21 = .ok (.if_icmp .ge 13, 3) := by decide +kernel
theorem dX4_underwayIn_24 : decode cX4_underwayIn 24 = .ok (.aload_n 0, 1) := by decide +kernel
theorem dX4_underwayIn_25 : decode cX4_underwayIn 25 = .ok (.invokevirtual 140, 3) := by decide +kernel
theorem dX4_underwayIn_28 : decode cX4_underwayIn 28 = .ok (.iinc 2 1, 3) := by decide +kernel
theorem dX4_underwayIn_31 : decode cX4_underwayIn 31 = .ok (.goto (-12), 3) := by decide +kernel
theorem dX4_underwayIn_34 : decode cX4_underwayIn 34 = .ok (.aload_n 0, 1) := by decide +kernel
theorem dX4_underwayIn_35 : decode cX4_underwayIn 35 = .ok (.getfield 7, 3) := by decide +kernel
theorem dX4_underwayIn_38 : decode cX4_underwayIn 38 = .ok (.bipush 6, 2) := by decide +kernel
theorem dX4_underwayIn_40 : decode cX4_underwayIn 40 = .ok (.iaload, 1) := by decide +kernel
theorem dX4_underwayIn_41 : decode cX4_underwayIn 41 = .ok (.istore_n 2, 1) := by decide +kernel
theorem dX4_underwayIn_42 : decode cX4_underwayIn 42 = .ok (.aload_n 0, 1) := by decide +kernel
theorem dX4_underwayIn_43 : decode cX4_underwayIn 43 = .ok (.invokevirtual 149, 3) := by decide +kernel
theorem dX4_underwayIn_46 : decode cX4_underwayIn 46 = .ok (.iload_n 2, 1) := by decide +kernel
theorem dX4_underwayIn_47 : decode cX4_underwayIn 47 = .ok (.ireturn, 1) := by decide +kernel
theorem dX4_worstLoss_0 : decode cX4_worstLoss 0 = .ok (.aload_n 0, 1) := by decide +kernel
theorem dX4_worstLoss_1 : decode cX4_worstLoss 1 = .ok (.iload_n 1, 1) := by decide +kernel
theorem dX4_worstLoss_2 : decode cX4_worstLoss 2 = .ok (.invokevirtual 118, 3) := by decide +kernel
theorem dX4_worstLoss_5 : decode cX4_worstLoss 5 = .ok (.ifCond .ne 5, 3) := by decide +kernel
theorem dX4_worstLoss_8 : decode cX4_worstLoss 8 = .ok (.iconst (-1), 1) := by decide +kernel
theorem dX4_worstLoss_9 : decode cX4_worstLoss 9 = .ok (.ireturn, 1) := by decide +kernel
theorem dX4_worstLoss_10 : decode cX4_worstLoss 10 = .ok (.iload_n 2, 1) := by decide +kernel
theorem dX4_worstLoss_11 : decode cX4_worstLoss 11 = .ok (.iconst 0, 1) := by decide +kernel
theorem dX4_worstLoss_12 : decode cX4_worstLoss 12 = .ok (.iconst 1, 1) := by decide +kernel
theorem dX4_worstLoss_13 : decode cX4_worstLoss 13 = .ok (.invokestatic 95, 3) := by decide +kernel
theorem dX4_worstLoss_16 : decode cX4_worstLoss 16 = .ok (.ifCond .ne 6, 3) := by decide +kernel
theorem dX4_worstLoss_19 : decode cX4_worstLoss 19 = .ok (.bipush (-2), 2) := by decide +kernel
theorem dX4_worstLoss_21 : decode cX4_worstLoss 21 = .ok (.ireturn, 1) := by decide +kernel
theorem dX4_worstLoss_22 : decode cX4_worstLoss 22 = .ok (.bipush (-6), 2) := by decide +kernel
theorem dX4_worstLoss_24 : decode cX4_worstLoss 24 = .ok (.istore_n 3, 1) := by decide +kernel
theorem dX4_worstLoss_25 : decode cX4_worstLoss 25 = .ok (.iconst 0, 1) := by decide +kernel
theorem dX4_worstLoss_26 : decode cX4_worstLoss 26 = .ok (.istore 4, 2) := by decide +kernel
theorem dX4_worstLoss_28 : decode cX4_worstLoss 28 = .ok (.aload_n 0, 1) := by decide +kernel
theorem dX4_worstLoss_29 : decode cX4_worstLoss 29 = .ok (.invokevirtual 143, 3) := by decide +kernel
theorem dX4_worstLoss_32 : decode cX4_worstLoss 32 = .ok (.aload_n 0, 1) := by decide +kernel
theorem dX4_worstLoss_33 : decode cX4_worstLoss 33 = .ok (.getfield 7, 3) := by decide +kernel
theorem dX4_worstLoss_36 : decode cX4_worstLoss 36 = .ok (.bipush 6, 2) := by decide +kernel
theorem dX4_worstLoss_38 : decode cX4_worstLoss 38 = .ok (.iaload, 1) := by decide +kernel
theorem dX4_worstLoss_39 : decode cX4_worstLoss 39 = .ok (.istore 5, 2) := by decide +kernel
theorem dX4_worstLoss_41 : decode cX4_worstLoss 41 = .ok (.iconst 0, 1) := by decide +kernel
theorem dX4_worstLoss_42 : decode cX4_worstLoss 42 = .ok (.istore 6, 2) := by decide +kernel
theorem dX4_worstLoss_44 : decode cX4_worstLoss 44 = .ok (.iload 6, 2) := by decide +kernel
theorem dX4_worstLoss_46 : decode cX4_worstLoss 46 = .ok (.iload 5, 2) := by decide +kernel
theorem dX4_worstLoss_48 : decode cX4_worstLoss 48 = .ok (.if_icmp .ge 44, 3) := by decide +kernel
theorem dX4_worstLoss_51 : decode cX4_worstLoss 51 = .ok (.aload_n 0, 1) := by decide +kernel
theorem dX4_worstLoss_52 : decode cX4_worstLoss 52 = .ok (.iload 6, 2) := by decide +kernel
theorem dX4_worstLoss_54 : decode cX4_worstLoss 54 = .ok (.invokevirtual 108, 3) := by decide +kernel
theorem dX4_worstLoss_57 : decode cX4_worstLoss 57 = .ok (.aload_n 0, 1) := by decide +kernel
theorem dX4_worstLoss_58 : decode cX4_worstLoss 58 = .ok (.iload_n 1, 1) := by decide +kernel
theorem dX4_worstLoss_59 : decode cX4_worstLoss 59 = .ok (.invokevirtual 146, 3) := by decide +kernel
theorem dX4_worstLoss_62 : decode cX4_worstLoss 62 = .ok (.istore 7, 2) := by decide +kernel
theorem dX4_worstLoss_64 : decode cX4_worstLoss 64 = .ok (.aload_n 0, 1) := by decide +kernel
theorem dX4_worstLoss_65 : decode cX4_worstLoss 65 = .ok (.invokevirtual 149, 3) := by decide +kernel
theorem dX4_worstLoss_68 : decode cX4_worstLoss 68 = .ok (.iload_n 3, 1) := by decide +kernel
theorem dX4_worstLoss_69 : decode cX4_worstLoss 69 = .ok (.ifCond .lt 10, 3) := by decide +kernel
theorem dX4_worstLoss_72 : decode cX4_worstLoss 72 = .ok (.iload 7, 2) := by decide +kernel
theorem dX4_worstLoss_74 : decode cX4_worstLoss 74 = .ok (.iload 4, 2) := by decide +kernel
theorem dX4_worstLoss_76 : decode cX4_worstLoss 76 = .ok (.if_icmp .le 10, 3) := by decide +kernel
theorem dX4_worstLoss_79 : decode cX4_worstLoss 79 = .ok (.iload 6, 2) := by decide +kernel
theorem dX4_worstLoss_81 : decode cX4_worstLoss 81 = .ok (.istore_n 3, 1) := by decide +kernel
theorem dX4_worstLoss_82 : decode cX4_worstLoss 82 = .ok (.iload 7, 2) := by decide +kernel
theorem dX4_worstLoss_84 : decode cX4_worstLoss 84 = .ok (.istore 4, 2) := by decide +kernel
theorem dX4_worstLoss_86 : decode cX4_worstLoss 86 = .ok (.iinc 6 1, 3) := by decide +kernel
theorem dX4_worstLoss_89 : decode cX4_worstLoss 89 = .ok (.goto (-45), 3) := by decide +kernel
theorem dX4_worstLoss_92 : decode cX4_worstLoss 92 = .ok (.iload_n 3, 1) := by decide +kernel
theorem dX4_worstLoss_93 : decode cX4_worstLoss 93 = .ok (.ifCond .lt 7, 3) := by decide +kernel
theorem dX4_worstLoss_96 : decode cX4_worstLoss 96 = .ok (.iload_n 2, 1) := by decide +kernel
theorem dX4_worstLoss_97 : decode cX4_worstLoss 97 = .ok (.ifCond .ne 7, 3) := by decide +kernel
theorem dX4_worstLoss_100 : decode cX4_worstLoss 100 = .ok (.iload_n 3, 1) := by decide +kernel
theorem dX4_worstLoss_101 : decode cX4_worstLoss 101 = .ok (.goto 5, 3) := by decide +kernel
theorem dX4_worstLoss_104 : decode cX4_worstLoss 104 = .ok (.iload 4, 2) := by decide +kernel
theorem dX4_worstLoss_106 : decode cX4_worstLoss 106 = .ok (.ireturn, 1) := by decide +kernel
theorem dX4_sign_0 : decode cX4_sign 0 = .ok (.aload_n 0, 1) := by decide +kernel
theorem dX4_sign_1 : decode cX4_sign 1 = .ok (.getfield 152, 3) := by decide +kernel
theorem dX4_sign_4 : decode cX4_sign 4 = .ok (.aload_n 0, 1) := by decide +kernel
theorem dX4_sign_5 : decode cX4_sign 5 = .ok (.getfield 131, 3) := by decide +kernel
theorem dX4_sign_8 : decode cX4_sign 8 = .ok (.if_icmp .ge 15, 3) := by decide +kernel
theorem dX4_sign_11 : decode cX4_sign 11 = .ok (.aload_n 0, 1) := by decide +kernel
theorem dX4_sign_12 : decode cX4_sign 12 = .ok (.getfield 26, 3) := by decide +kernel
theorem dX4_sign_15 : decode cX4_sign 15 = .ok (.aload_n 0, 1) := by decide +kernel
theorem dX4_sign_16 : decode cX4_sign 16 = .ok (.getfield 152, 3) := by decide +kernel
theorem dX4_sign_19 : decode cX4_sign 19 = .ok (.iaload, 1) := by decide +kernel
theorem dX4_sign_20 : decode cX4_sign 20 = .ok (.goto 4, 3) := by decide +kernel
theorem dX4_sign_23 : decode cX4_sign 23 = .ok (.iconst 0, 1) := by decide +kernel
theorem dX4_sign_24 : decode cX4_sign 24 = .ok (.ireturn, 1) := by decide +kernel
theorem dX4_one_0 : decode cX4_one 0 = .ok (.aload_n 0, 1) := by decide +kernel
theorem dX4_one_1 : decode cX4_one 1 = .ok (.invokevirtual 155, 3) := by decide +kernel
theorem dX4_one_4 : decode cX4_one 4 = .ok (.bipush 48, 2) := by decide +kernel
theorem dX4_one_6 : decode cX4_one 6 = .ok (.isub, 1) := by decide +kernel
theorem dX4_one_7 : decode cX4_one 7 = .ok (.istore_n 3, 1) := by decide +kernel
theorem dX4_one_8 : decode cX4_one 8 = .ok (.aload_n 0, 1) := by decide +kernel
theorem dX4_one_9 : decode cX4_one 9 = .ok (.aload_n 0, 1) := by decide +kernel
theorem dX4_one_10 : decode cX4_one 10 = .ok (.getfield 158, 3) := by decide +kernel
theorem dX4_one_13 : decode cX4_one 13 = .ok (.ifCond .ne 12, 3) := by decide +kernel
theorem dX4_one_16 : decode cX4_one 16 = .ok (.iload_n 3, 1) := by decide +kernel
theorem dX4_one_17 : decode cX4_one 17 = .ok (.iload_n 1, 1) := by decide +kernel
theorem dX4_one_18 : decode cX4_one 18 = .ok (.iload_n 2, 1) := by decide +kernel
theorem dX4_one_19 : decode cX4_one 19 = .ok (.invokestatic 95, 3) := by decide +kernel
theorem dX4_one_22 : decode cX4_one 22 = .ok (.ifCond .ne 7, 3) := by decide +kernel
theorem dX4_one_25 : decode cX4_one 25 = .ok (.iconst 1, 1) := by decide +kernel
theorem dX4_one_26 : decode cX4_one 26 = .ok (.goto 4, 3) := by decide +kernel
theorem dX4_one_29 : decode cX4_one 29 = .ok (.iconst 0, 1) := by decide +kernel
theorem dX4_one_30 : decode cX4_one 30 = .ok (.putfield 158, 3) := by decide +kernel
theorem dX4_one_33 : decode cX4_one 33 = .ok (.aload_n 0, 1) := by decide +kernel
theorem dX4_one_34 : decode cX4_one 34 = .ok (.dup, 1) := by decide +kernel
theorem dX4_one_35 : decode cX4_one 35 = .ok (.getfield 152, 3) := by decide +kernel
theorem dX4_one_38 : decode cX4_one 38 = .ok (.aload_n 0, 1) := by decide +kernel
theorem dX4_one_39 : decode cX4_one 39 = .ok (.getfield 158, 3) := by decide +kernel
theorem dX4_one_42 : decode cX4_one 42 = .ok (.ifCond .eq 7, 3) := by decide +kernel
theorem dX4_one_45 : decode cX4_one 45 = .ok (.iconst 0, 1) := by decide +kernel
theorem dX4_one_46 : decode cX4_one 46 = .ok (.goto 4, 3) := by decide +kernel
theorem dX4_one_49 : decode cX4_one 49 = .ok (.iconst 1, 1) := by decide +kernel
theorem dX4_one_50 : decode cX4_one 50 = .ok (.iadd, 1) := by decide +kernel
theorem dX4_one_51 : decode cX4_one 51 = .ok (.putfield 152, 3) := by decide +kernel
theorem dX4_one_54 : decode cX4_one 54 = .ok (.iload_n 3, 1) := by decide +kernel
theorem dX4_one_55 : decode cX4_one 55 = .ok (.ireturn, 1) := by decide +kernel
theorem dX4_number_0 : decode cX4_number 0 = .ok (.aload_n 0, 1) := by decide +kernel
theorem dX4_number_1 : decode cX4_number 1 = .ok (.iconst 0, 1) := by decide +kernel
theorem dX4_number_2 : decode cX4_number 2 = .ok (.bipush 9, 2) := by decide +kernel
theorem dX4_number_4 : decode cX4_number 4 = .ok (.invokevirtual 161, 3) := by decide +kernel
theorem dX4_number_7 : decode cX4_number 7 = .ok (.istore_n 1, 1) := by decide +kernel
theorem dX4_number_8 : decode cX4_number 8 = .ok (.aload_n 0, 1) := by decide +kernel
theorem dX4_number_9 : decode cX4_number 9 = .ok (.getfield 158, 3) := by decide +kernel
theorem dX4_number_12 : decode cX4_number 12 = .ok (.ifCond .ne 64, 3) := by decide +kernel
theorem dX4_number_15 : decode cX4_number 15 = .ok (.iload_n 1, 1) := by decide +kernel
theorem dX4_number_16 : decode cX4_number 16 = .ok (.ifCond .le 60, 3) := by decide +kernel
theorem dX4_number_19 : decode cX4_number 19 = .ok (.aload_n 0, 1) := by decide +kernel
theorem dX4_number_20 : decode cX4_number 20 = .ok (.invokevirtual 155, 3) := by decide +kernel
theorem dX4_number_23 : decode cX4_number 23 = .ok (.bipush 48, 2) := by decide +kernel
theorem dX4_number_25 : decode cX4_number 25 = .ok (.bipush 57, 2) := by decide +kernel
theorem dX4_number_27 : decode cX4_number 27 = .ok (.invokestatic 95, 3) := by decide +kernel
theorem dX4_number_30 : decode cX4_number 30 = .ok (.ifCond .eq 46, 3) := by decide +kernel
theorem dX4_number_33 : decode cX4_number 33 = .ok (.bipush 10, 2) := by decide +kernel
theorem dX4_number_35 : decode cX4_number 35 = .ok (.iload_n 1, 1) := by decide +kernel
theorem dX4_number_36 : decode cX4_number 36 = .ok (.imul, 1) := by decide +kernel
theorem dX4_number_37 : decode cX4_number 37 = .ok (.aload_n 0, 1) := by decide +kernel
theorem dX4_number_38 : decode cX4_number 38 = .ok (.invokevirtual 155, 3) := by decide +kernel
theorem dX4_number_41 : decode cX4_number 41 = .ok (.iadd, 1) := by decide +kernel
theorem dX4_number_42 : decode cX4_number 42 = .ok (.bipush 48, 2) := by decide +kernel
theorem dX4_number_44 : decode cX4_number 44 = .ok (.isub, 1) := by decide +kernel
theorem dX4_number_45 : decode cX4_number 45 = .ok (.bipush 99, 2) := by decide +kernel
theorem dX4_number_47 : decode cX4_number 47 = .ok (.if_icmp .gt 29, 3) := by decide +kernel
theorem dX4_number_50 : decode cX4_number 50 = .ok (.bipush 10, 2) := by decide +kernel
theorem dX4_number_52 : decode cX4_number 52 = .ok (.iload_n 1, 1) := by decide +kernel
theorem dX4_number_53 : decode cX4_number 53 = .ok (.imul, 1) := by decide +kernel
theorem dX4_number_54 : decode cX4_number 54 = .ok (.aload_n 0, 1) := by decide +kernel
theorem dX4_number_55 : decode cX4_number 55 = .ok (.invokevirtual 155, 3) := by decide +kernel
theorem dX4_number_58 : decode cX4_number 58 = .ok (.iadd, 1) := by decide +kernel
theorem dX4_number_59 : decode cX4_number 59 = .ok (.bipush 48, 2) := by decide +kernel
theorem dX4_number_61 : decode cX4_number 61 = .ok (.isub, 1) := by decide +kernel
theorem dX4_number_62 : decode cX4_number 62 = .ok (.istore_n 1, 1) := by decide +kernel
theorem dX4_number_63 : decode cX4_number 63 = .ok (.aload_n 0, 1) := by decide +kernel
theorem dX4_number_64 : decode cX4_number 64 = .ok (.dup, 1) := by decide +kernel
theorem dX4_number_65 : decode cX4_number 65 = .ok (.getfield 152, 3) := by decide +kernel
theorem dX4_number_68 : decode cX4_number 68 = .ok (.iconst 1, 1) := by decide +kernel
theorem dX4_number_69 : decode cX4_number 69 = .ok (.iadd, 1) := by decide +kernel
theorem dX4_number_70 : decode cX4_number 70 = .ok (.putfield 152, 3) := by decide +kernel
theorem dX4_number_73 : decode cX4_number 73 = .ok (.goto (-65), 3) := by decide +kernel
theorem dX4_number_76 : decode cX4_number 76 = .ok (.iload_n 1, 1) := by decide +kernel
theorem dX4_number_77 : decode cX4_number 77 = .ok (.ireturn, 1) := by decide +kernel
theorem dX4_clerks_0 : decode cX4_clerks 0 = .ok (.aload_n 0, 1) := by decide +kernel
theorem dX4_clerks_1 : decode cX4_clerks 1 = .ok (.iconst 0, 1) := by decide +kernel
theorem dX4_clerks_2 : decode cX4_clerks 2 = .ok (.iconst 3, 1) := by decide +kernel
theorem dX4_clerks_3 : decode cX4_clerks 3 = .ok (.invokevirtual 161, 3) := by decide +kernel
theorem dX4_clerks_6 : decode cX4_clerks 6 = .ok (.istore_n 1, 1) := by decide +kernel
theorem dX4_clerks_7 : decode cX4_clerks 7 = .ok (.aload_n 0, 1) := by decide +kernel
theorem dX4_clerks_8 : decode cX4_clerks 8 = .ok (.getfield 158, 3) := by decide +kernel
theorem dX4_clerks_11 : decode cX4_clerks 11 = .ok (.ifCond .eq 7, 3) := by decide +kernel
theorem dX4_clerks_14 : decode cX4_clerks 14 = .ok (.iconst 0, 1) := by decide +kernel
theorem dX4_clerks_15 : decode cX4_clerks 15 = .ok (.goto 6, 3) := by decide +kernel
theorem dX4_clerks_18 : decode cX4_clerks 18 = .ok (.iconst 1, 1) := by decide +kernel
theorem dX4_clerks_19 : decode cX4_clerks 19 = .ok (.iload_n 1, 1) := by decide +kernel
theorem dX4_clerks_20 : decode cX4_clerks 20 = .ok (.ishl, 1) := by decide +kernel
theorem dX4_clerks_21 : decode cX4_clerks 21 = .ok (.istore_n 2, 1) := by decide +kernel
theorem dX4_clerks_22 : decode cX4_clerks 22 = .ok (.aload_n 0, 1) := by decide +kernel
theorem dX4_clerks_23 : decode cX4_clerks 23 = .ok (.getfield 158, 3) := by decide +kernel
theorem dX4_clerks_26 : decode cX4_clerks 26 = .ok (.ifCond .ne 47, 3) := by decide +kernel
theorem dX4_clerks_29 : decode cX4_clerks 29 = .ok (.aload_n 0, 1) := by decide +kernel
theorem dX4_clerks_30 : decode cX4_clerks 30 = .ok (.invokevirtual 155, 3) := by decide +kernel
theorem dX4_clerks_33 : decode cX4_clerks 33 = .ok (.bipush 48, 2) := by decide +kernel
theorem dX4_clerks_35 : decode cX4_clerks 35 = .ok (.isub, 1) := by decide +kernel
theorem dX4_clerks_36 : decode cX4_clerks 36 = .ok (.iload_n 1, 1) := by decide +kernel
theorem dX4_clerks_37 : decode cX4_clerks 37 = .ok (.iconst 1, 1) := by decide +kernel
theorem dX4_clerks_38 : decode cX4_clerks 38 = .ok (.iadd, 1) := by decide +kernel
theorem dX4_clerks_39 : decode cX4_clerks 39 = .ok (.iconst 3, 1) := by decide +kernel
theorem dX4_clerks_40 : decode cX4_clerks 40 = .ok (.invokestatic 95, 3) := by decide +kernel
theorem dX4_clerks_43 : decode cX4_clerks 43 = .ok (.ifCond .eq 30, 3) := by decide +kernel
theorem dX4_clerks_46 : decode cX4_clerks 46 = .ok (.aload_n 0, 1) := by decide +kernel
theorem dX4_clerks_47 : decode cX4_clerks 47 = .ok (.invokevirtual 155, 3) := by decide +kernel
theorem dX4_clerks_50 : decode cX4_clerks 50 = .ok (.bipush 48, 2) := by decide +kernel
theorem dX4_clerks_52 : decode cX4_clerks 52 = .ok (.isub, 1) := by decide +kernel
theorem dX4_clerks_53 : decode cX4_clerks 53 = .ok (.istore_n 1, 1) := by decide +kernel
theorem dX4_clerks_54 : decode cX4_clerks 54 = .ok (.iload_n 2, 1) := by decide +kernel
theorem dX4_clerks_55 : decode cX4_clerks 55 = .ok (.iconst 1, 1) := by decide +kernel
theorem dX4_clerks_56 : decode cX4_clerks 56 = .ok (.iload_n 1, 1) := by decide +kernel
theorem dX4_clerks_57 : decode cX4_clerks 57 = .ok (.ishl, 1) := by decide +kernel
theorem dX4_clerks_58 : decode cX4_clerks 58 = .ok (.ior, 1) := by decide +kernel
theorem dX4_clerks_59 : decode cX4_clerks 59 = .ok (.istore_n 2, 1) := by decide +kernel
theorem dX4_clerks_60 : decode cX4_clerks 60 = .ok (.aload_n 0, 1) := by decide +kernel
theorem dX4_clerks_61 : decode cX4_clerks 61 = .ok (.dup, 1) := by decide +kernel
theorem dX4_clerks_62 : decode cX4_clerks 62 = .ok (.getfield 152, 3) := by decide +kernel
theorem dX4_clerks_65 : decode cX4_clerks 65 = .ok (.iconst 1, 1) := by decide +kernel
theorem dX4_clerks_66 : decode cX4_clerks 66 = .ok (.iadd, 1) := by decide +kernel
theorem dX4_clerks_67 : decode cX4_clerks 67 = .ok (.putfield 152, 3) := by decide +kernel
theorem dX4_clerks_70 : decode cX4_clerks 70 = .ok (.goto (-48), 3) := by decide +kernel
theorem dX4_clerks_73 : decode cX4_clerks 73 = .ok (.iload_n 2, 1) := by decide +kernel
theorem dX4_clerks_74 : decode cX4_clerks 74 = .ok (.ireturn, 1) := by decide +kernel
theorem dX4_plus_0 : decode cX4_plus 0 = .ok (.aload_n 0, 1) := by decide +kernel
theorem dX4_plus_1 : decode cX4_plus 1 = .ok (.invokevirtual 155, 3) := by decide +kernel
theorem dX4_plus_4 : decode cX4_plus 4 = .ok (.istore_n 1, 1) := by decide +kernel
theorem dX4_plus_5 : decode cX4_plus 5 = .ok (.aload_n 0, 1) := by decide +kernel
theorem dX4_plus_6 : decode cX4_plus 6 = .ok (.aload_n 0, 1) := by decide +kernel
theorem dX4_plus_7 : decode cX4_plus 7 = .ok (.getfield 158, 3) := by decide +kernel
theorem dX4_plus_10 : decode cX4_plus 10 = .ok (.ifCond .ne 15, 3) := by decide +kernel
theorem dX4_plus_13 : decode cX4_plus 13 = .ok (.iload_n 1, 1) := by decide +kernel
theorem dX4_plus_14 : decode cX4_plus 14 = .ok (.bipush 43, 2) := by decide +kernel
theorem dX4_plus_16 : decode cX4_plus 16 = .ok (.if_icmp .eq 13, 3) := by decide +kernel
theorem dX4_plus_19 : decode cX4_plus 19 = .ok (.iload_n 1, 1) := by decide +kernel
theorem dX4_plus_20 : decode cX4_plus 20 = .ok (.bipush 45, 2) := by decide +kernel
theorem dX4_plus_22 : decode cX4_plus 22 = .ok (.if_icmp .eq 7, 3) := by decide +kernel
theorem dX4_plus_25 : decode cX4_plus 25 = .ok (.iconst 1, 1) := by decide +kernel
theorem dX4_plus_26 : decode cX4_plus 26 = .ok (.goto 4, 3) := by decide +kernel
theorem dX4_plus_29 : decode cX4_plus 29 = .ok (.iconst 0, 1) := by decide +kernel
theorem dX4_plus_30 : decode cX4_plus 30 = .ok (.putfield 158, 3) := by decide +kernel
theorem dX4_plus_33 : decode cX4_plus 33 = .ok (.aload_n 0, 1) := by decide +kernel
theorem dX4_plus_34 : decode cX4_plus 34 = .ok (.dup, 1) := by decide +kernel
theorem dX4_plus_35 : decode cX4_plus 35 = .ok (.getfield 152, 3) := by decide +kernel
theorem dX4_plus_38 : decode cX4_plus 38 = .ok (.aload_n 0, 1) := by decide +kernel
theorem dX4_plus_39 : decode cX4_plus 39 = .ok (.getfield 158, 3) := by decide +kernel
theorem dX4_plus_42 : decode cX4_plus 42 = .ok (.ifCond .eq 7, 3) := by decide +kernel
theorem dX4_plus_45 : decode cX4_plus 45 = .ok (.iconst 0, 1) := by decide +kernel
theorem dX4_plus_46 : decode cX4_plus 46 = .ok (.goto 4, 3) := by decide +kernel
theorem dX4_plus_49 : decode cX4_plus 49 = .ok (.iconst 1, 1) := by decide +kernel
theorem dX4_plus_50 : decode cX4_plus 50 = .ok (.iadd, 1) := by decide +kernel
theorem dX4_plus_51 : decode cX4_plus 51 = .ok (.putfield 152, 3) := by decide +kernel
theorem dX4_plus_54 : decode cX4_plus 54 = .ok (.iload_n 1, 1) := by decide +kernel
theorem dX4_plus_55 : decode cX4_plus 55 = .ok (.bipush 43, 2) := by decide +kernel
theorem dX4_plus_57 : decode cX4_plus 57 = .ok (.if_icmp .ne 7, 3) := by decide +kernel
theorem dX4_plus_60 : decode cX4_plus 60 = .ok (.iconst 1, 1) := by decide +kernel
theorem dX4_plus_61 : decode cX4_plus 61 = .ok (.goto 4, 3) := by decide +kernel
theorem dX4_plus_64 : decode cX4_plus 64 = .ok (.iconst 0, 1) := by decide +kernel
theorem dX4_plus_65 : decode cX4_plus 65 = .ok (.ireturn, 1) := by decide +kernel
theorem dX4_readOne_0 : decode cX4_readOne 0 = .ok (.iconst 3, 1) := by decide +kernel
theorem dX4_readOne_1 : decode cX4_readOne 1 = .ok (.aload_n 0, 1) := by decide +kernel
theorem dX4_readOne_2 : decode cX4_readOne 2 = .ok (.getfield 164, 3) := by decide +kernel
theorem dX4_readOne_5 : decode cX4_readOne 5 = .ok (.imul, 1) := by decide +kernel
theorem dX4_readOne_6 : decode cX4_readOne 6 = .ok (.istore_n 1, 1) := by decide +kernel
theorem dX4_readOne_7 : decode cX4_readOne 7 = .ok (.aload_n 0, 1) := by decide +kernel
theorem dX4_readOne_8 : decode cX4_readOne 8 = .ok (.invokevirtual 155, 3) := by decide +kernel
theorem dX4_readOne_11 : decode cX4_readOne 11 = .ok (.istore_n 2, 1) := by decide +kernel
theorem dX4_readOne_12 : decode cX4_readOne 12 = .ok (.aload_n 0, 1) := by decide +kernel
theorem dX4_readOne_13 : decode cX4_readOne 13 = .ok (.getfield 29, 3) := by decide +kernel
theorem dX4_readOne_16 : decode cX4_readOne 16 = .ok (.iload_n 1, 1) := by decide +kernel
theorem dX4_readOne_17 : decode cX4_readOne 17 = .ok (.iload_n 2, 1) := by decide +kernel
theorem dX4_readOne_18 : decode cX4_readOne 18 = .ok (.iastore, 1) := by decide +kernel
theorem dX4_readOne_19 : decode cX4_readOne 19 = .ok (.aload_n 0, 1) := by decide +kernel
theorem dX4_readOne_20 : decode cX4_readOne 20 = .ok (.dup, 1) := by decide +kernel
theorem dX4_readOne_21 : decode cX4_readOne 21 = .ok (.getfield 152, 3) := by decide +kernel
theorem dX4_readOne_24 : decode cX4_readOne 24 = .ok (.iconst 1, 1) := by decide +kernel
theorem dX4_readOne_25 : decode cX4_readOne 25 = .ok (.iadd, 1) := by decide +kernel
theorem dX4_readOne_26 : decode cX4_readOne 26 = .ok (.putfield 152, 3) := by decide +kernel
theorem dX4_readOne_29 : decode cX4_readOne 29 = .ok (.iload_n 2, 1) := by decide +kernel
theorem dX4_readOne_30 : decode cX4_readOne 30 = .ok (.tableswitch 185 100 120 #[113, 185, 185, 185, 185, 185, 185, 185, 113, 185, 185, 98, 185, 185, 128, 185, 113, 185, 185, 145, 128], 98) := by decide +kernel
theorem dX4_readOne_128 : decode cX4_readOne 128 = .ok (.aload_n 0, 1) := by decide +kernel
theorem dX4_readOne_129 : decode cX4_readOne 129 = .ok (.getfield 29, 3) := by decide +kernel
theorem dX4_readOne_132 : decode cX4_readOne 132 = .ok (.iload_n 1, 1) := by decide +kernel
theorem dX4_readOne_133 : decode cX4_readOne 133 = .ok (.iconst 1, 1) := by decide +kernel
theorem dX4_readOne_134 : decode cX4_readOne 134 = .ok (.iadd, 1) := by decide +kernel
theorem dX4_readOne_135 : decode cX4_readOne 135 = .ok (.aload_n 0, 1) := by decide +kernel
theorem dX4_readOne_136 : decode cX4_readOne 136 = .ok (.invokevirtual 167, 3) := by decide +kernel
theorem dX4_readOne_139 : decode cX4_readOne 139 = .ok (.iastore, 1) := by decide +kernel
theorem dX4_readOne_140 : decode cX4_readOne 140 = .ok (.goto 90, 3) := by decide +kernel
theorem dX4_readOne_143 : decode cX4_readOne 143 = .ok (.aload_n 0, 1) := by decide +kernel
theorem dX4_readOne_144 : decode cX4_readOne 144 = .ok (.getfield 29, 3) := by decide +kernel
theorem dX4_readOne_147 : decode cX4_readOne 147 = .ok (.iload_n 1, 1) := by decide +kernel
theorem dX4_readOne_148 : decode cX4_readOne 148 = .ok (.iconst 1, 1) := by decide +kernel
theorem dX4_readOne_149 : decode cX4_readOne 149 = .ok (.iadd, 1) := by decide +kernel
theorem dX4_readOne_150 : decode cX4_readOne 150 = .ok (.aload_n 0, 1) := by decide +kernel
theorem dX4_readOne_151 : decode cX4_readOne 151 = .ok (.invokevirtual 170, 3) := by decide +kernel
theorem dX4_readOne_154 : decode cX4_readOne 154 = .ok (.iastore, 1) := by decide +kernel
theorem dX4_readOne_155 : decode cX4_readOne 155 = .ok (.goto 75, 3) := by decide +kernel
theorem dX4_readOne_158 : decode cX4_readOne 158 = .ok (.aload_n 0, 1) := by decide +kernel
theorem dX4_readOne_159 : decode cX4_readOne 159 = .ok (.getfield 29, 3) := by decide +kernel
theorem dX4_readOne_162 : decode cX4_readOne 162 = .ok (.iload_n 1, 1) := by decide +kernel
theorem dX4_readOne_163 : decode cX4_readOne 163 = .ok (.iconst 1, 1) := by decide +kernel
theorem dX4_readOne_164 : decode cX4_readOne 164 = .ok (.iadd, 1) := by decide +kernel
theorem dX4_readOne_165 : decode cX4_readOne 165 = .ok (.aload_n 0, 1) := by decide +kernel
theorem dX4_readOne_166 : decode cX4_readOne 166 = .ok (.iconst 0, 1) := by decide +kernel
theorem dX4_readOne_167 : decode cX4_readOne 167 = .ok (.iconst 4, 1) := by decide +kernel
theorem dX4_readOne_168 : decode cX4_readOne 168 = .ok (.invokevirtual 161, 3) := by decide +kernel
theorem dX4_readOne_171 : decode cX4_readOne 171 = .ok (.iastore, 1) := by decide +kernel
theorem dX4_readOne_172 : decode cX4_readOne 172 = .ok (.goto 58, 3) := by decide +kernel
theorem dX4_readOne_175 : decode cX4_readOne 175 = .ok (.aload_n 0, 1) := by decide +kernel
theorem dX4_readOne_176 : decode cX4_readOne 176 = .ok (.getfield 29, 3) := by decide +kernel
theorem dX4_readOne_179 : decode cX4_readOne 179 = .ok (.iload_n 1, 1) := by decide +kernel
theorem dX4_readOne_180 : decode cX4_readOne 180 = .ok (.iconst 1, 1) := by decide +kernel
theorem dX4_readOne_181 : decode cX4_readOne 181 = .ok (.iadd, 1) := by decide +kernel
theorem dX4_readOne_182 : decode cX4_readOne 182 = .ok (.aload_n 0, 1) := by decide +kernel
theorem dX4_readOne_183 : decode cX4_readOne 183 = .ok (.iconst 0, 1) := by decide +kernel
theorem dX4_readOne_184 : decode cX4_readOne 184 = .ok (.iconst 3, 1) := by decide +kernel
theorem dX4_readOne_185 : decode cX4_readOne 185 = .ok (.invokevirtual 161, 3) := by decide +kernel
theorem dX4_readOne_188 : decode cX4_readOne 188 = .ok (.iastore, 1) := by decide +kernel
theorem dX4_readOne_189 : decode cX4_readOne 189 = .ok (.aload_n 0, 1) := by decide +kernel
theorem dX4_readOne_190 : decode cX4_readOne 190 = .ok (.getfield 29, 3) := by decide +kernel
theorem dX4_readOne_193 : decode cX4_readOne 193 = .ok (.iload_n 1, 1) := by decide +kernel
theorem dX4_readOne_194 : decode cX4_readOne 194 = .ok (.iconst 2, 1) := by decide +kernel
theorem dX4_readOne_195 : decode cX4_readOne 195 = .ok (.iadd, 1) := by decide +kernel
theorem dX4_readOne_196 : decode cX4_readOne 196 = .ok (.aload_n 0, 1) := by decide +kernel
theorem dX4_readOne_197 : decode cX4_readOne 197 = .ok (.getfield 158, 3) := by decide +kernel
theorem dX4_readOne_200 : decode cX4_readOne 200 = .ok (.ifCond .eq 7, 3) := by decide +kernel
theorem dX4_readOne_203 : decode cX4_readOne 203 = .ok (.iconst 0, 1) := by decide +kernel
theorem dX4_readOne_204 : decode cX4_readOne 204 = .ok (.goto 7, 3) := by decide +kernel
theorem dX4_readOne_207 : decode cX4_readOne 207 = .ok (.aload_n 0, 1) := by decide +kernel
theorem dX4_readOne_208 : decode cX4_readOne 208 = .ok (.invokevirtual 173, 3) := by decide +kernel
theorem dX4_readOne_211 : decode cX4_readOne 211 = .ok (.iastore, 1) := by decide +kernel
theorem dX4_readOne_212 : decode cX4_readOne 212 = .ok (.goto 18, 3) := by decide +kernel
theorem dX4_readOne_215 : decode cX4_readOne 215 = .ok (.aload_n 0, 1) := by decide +kernel
theorem dX4_readOne_216 : decode cX4_readOne 216 = .ok (.iconst 1, 1) := by decide +kernel
theorem dX4_readOne_217 : decode cX4_readOne 217 = .ok (.putfield 158, 3) := by decide +kernel
theorem dX4_readOne_220 : decode cX4_readOne 220 = .ok (.aload_n 0, 1) := by decide +kernel
theorem dX4_readOne_221 : decode cX4_readOne 221 = .ok (.dup, 1) := by decide +kernel
theorem dX4_readOne_222 : decode cX4_readOne 222 = .ok (.getfield 152, 3) := by decide +kernel
theorem dX4_readOne_225 : decode cX4_readOne 225 = .ok (.iconst 1, 1) := by decide +kernel
theorem dX4_readOne_226 : decode cX4_readOne 226 = .ok (.isub, 1) := by decide +kernel
theorem dX4_readOne_227 : decode cX4_readOne 227 = .ok (.putfield 152, 3) := by decide +kernel
theorem dX4_readOne_230 : decode cX4_readOne 230 = .ok (.aload_n 0, 1) := by decide +kernel
theorem dX4_readOne_231 : decode cX4_readOne 231 = .ok (.dup, 1) := by decide +kernel
theorem dX4_readOne_232 : decode cX4_readOne 232 = .ok (.getfield 164, 3) := by decide +kernel
theorem dX4_readOne_235 : decode cX4_readOne 235 = .ok (.iconst 1, 1) := by decide +kernel
theorem dX4_readOne_236 : decode cX4_readOne 236 = .ok (.iadd, 1) := by decide +kernel
theorem dX4_readOne_237 : decode cX4_readOne 237 = .ok (.putfield 164, 3) := by decide +kernel
theorem dX4_readOne_240 : decode cX4_readOne 240 = .ok (.return_, 1) := by decide +kernel
theorem dX4_faultOf_0 : decode cX4_faultOf 0 = .ok (.aload_n 0, 1) := by decide +kernel
theorem dX4_faultOf_1 : decode cX4_faultOf 1 = .ok (.iconst 0, 1) := by decide +kernel
theorem dX4_faultOf_2 : decode cX4_faultOf 2 = .ok (.putfield 152, 3) := by decide +kernel
theorem dX4_faultOf_5 : decode cX4_faultOf 5 = .ok (.aload_n 0, 1) := by decide +kernel
theorem dX4_faultOf_6 : decode cX4_faultOf 6 = .ok (.iconst 0, 1) := by decide +kernel
theorem dX4_faultOf_7 : decode cX4_faultOf 7 = .ok (.putfield 164, 3) := by decide +kernel
theorem dX4_faultOf_10 : decode cX4_faultOf 10 = .ok (.aload_n 0, 1) := by decide +kernel
theorem dX4_faultOf_11 : decode cX4_faultOf 11 = .ok (.iconst 0, 1) := by decide +kernel
theorem dX4_faultOf_12 : decode cX4_faultOf 12 = .ok (.putfield 158, 3) := by decide +kernel
theorem dX4_faultOf_15 : decode cX4_faultOf 15 = .ok (.aload_n 0, 1) := by decide +kernel
theorem dX4_faultOf_16 : decode cX4_faultOf 16 = .ok (.invokevirtual 176, 3) := by decide +kernel
theorem dX4_faultOf_19 : decode cX4_faultOf 19 = .ok (.aload_n 0, 1) := by decide +kernel
theorem dX4_faultOf_20 : decode cX4_faultOf 20 = .ok (.getfield 158, 3) := by decide +kernel
theorem dX4_faultOf_23 : decode cX4_faultOf 23 = .ok (.ifCond .ne 56, 3) := by decide +kernel
theorem dX4_faultOf_26 : decode cX4_faultOf 26 = .ok (.aload_n 0, 1) := by decide +kernel
theorem dX4_faultOf_27 : decode cX4_faultOf 27 = .ok (.getfield 152, 3) := by decide +kernel
theorem dX4_faultOf_30 : decode cX4_faultOf 30 = .ok (.aload_n 0, 1) := by decide +kernel
theorem dX4_faultOf_31 : decode cX4_faultOf 31 = .ok (.getfield 131, 3) := by decide +kernel
theorem dX4_faultOf_34 : decode cX4_faultOf 34 = .ok (.if_icmp .ge 45, 3) := by decide +kernel
theorem dX4_faultOf_37 : decode cX4_faultOf 37 = .ok (.aload_n 0, 1) := by decide +kernel
theorem dX4_faultOf_38 : decode cX4_faultOf 38 = .ok (.aload_n 0, 1) := by decide +kernel
theorem dX4_faultOf_39 : decode cX4_faultOf 39 = .ok (.invokevirtual 155, 3) := by decide +kernel
theorem dX4_faultOf_42 : decode cX4_faultOf 42 = .ok (.bipush 59, 2) := by decide +kernel
theorem dX4_faultOf_44 : decode cX4_faultOf 44 = .ok (.if_icmp .eq 7, 3) := by decide +kernel
theorem dX4_faultOf_47 : decode cX4_faultOf 47 = .ok (.iconst 1, 1) := by decide +kernel
theorem dX4_faultOf_48 : decode cX4_faultOf 48 = .ok (.goto 4, 3) := by decide +kernel
theorem dX4_faultOf_51 : decode cX4_faultOf 51 = .ok (.iconst 0, 1) := by decide +kernel
theorem dX4_faultOf_52 : decode cX4_faultOf 52 = .ok (.putfield 158, 3) := by decide +kernel
theorem dX4_faultOf_55 : decode cX4_faultOf 55 = .ok (.aload_n 0, 1) := by decide +kernel
theorem dX4_faultOf_56 : decode cX4_faultOf 56 = .ok (.getfield 158, 3) := by decide +kernel
theorem dX4_faultOf_59 : decode cX4_faultOf 59 = .ok (.ifCond .ne (-40), 3) := by decide +kernel
theorem dX4_faultOf_62 : decode cX4_faultOf 62 = .ok (.aload_n 0, 1) := by decide +kernel
theorem dX4_faultOf_63 : decode cX4_faultOf 63 = .ok (.dup, 1) := by decide +kernel
theorem dX4_faultOf_64 : decode cX4_faultOf 64 = .ok (.getfield 152, 3) := by decide +kernel
theorem dX4_faultOf_67 : decode cX4_faultOf 67 = .ok (.iconst 1, 1) := by decide +kernel
theorem dX4_faultOf_68 : decode cX4_faultOf 68 = .ok (.iadd, 1) := by decide +kernel
theorem dX4_faultOf_69 : decode cX4_faultOf 69 = .ok (.putfield 152, 3) := by decide +kernel
theorem dX4_faultOf_72 : decode cX4_faultOf 72 = .ok (.aload_n 0, 1) := by decide +kernel
theorem dX4_faultOf_73 : decode cX4_faultOf 73 = .ok (.invokevirtual 176, 3) := by decide +kernel
theorem dX4_faultOf_76 : decode cX4_faultOf 76 = .ok (.goto (-57), 3) := by decide +kernel
theorem dX4_faultOf_79 : decode cX4_faultOf 79 = .ok (.aload_n 0, 1) := by decide +kernel
theorem dX4_faultOf_80 : decode cX4_faultOf 80 = .ok (.getfield 158, 3) := by decide +kernel
theorem dX4_faultOf_83 : decode cX4_faultOf 83 = .ok (.ifCond .eq 10, 3) := by decide +kernel
theorem dX4_faultOf_86 : decode cX4_faultOf 86 = .ok (.aload_n 0, 1) := by decide +kernel
theorem dX4_faultOf_87 : decode cX4_faultOf 87 = .ok (.getfield 152, 3) := by decide +kernel
theorem dX4_faultOf_90 : decode cX4_faultOf 90 = .ok (.goto 5, 3) := by decide +kernel
theorem dX4_faultOf_93 : decode cX4_faultOf 93 = .ok (.bipush (-6), 2) := by decide +kernel
theorem dX4_faultOf_95 : decode cX4_faultOf 95 = .ok (.ireturn, 1) := by decide +kernel
theorem dX4_put_0 : decode cX4_put 0 = .ok (.iconst 0, 1) := by decide +kernel
theorem dX4_put_1 : decode cX4_put 1 = .ok (.istore_n 3, 1) := by decide +kernel
theorem dX4_put_2 : decode cX4_put 2 = .ok (.lload_n 1, 1) := by decide +kernel
theorem dX4_put_3 : decode cX4_put 3 = .ok (.lstore 4, 2) := by decide +kernel
theorem dX4_put_5 : decode cX4_put 5 = .ok (.lload 4, 2) := by decide +kernel
theorem dX4_put_7 : decode cX4_put 7 = .ok (.ldc2_w 179, 3) := by decide +kernel
theorem dX4_put_10 : decode cX4_put 10 = .ok (.land, 1) := by decide +kernel
theorem dX4_put_11 : decode cX4_put 11 = .ok (.lconst 0, 1) := by decide +kernel
theorem dX4_put_12 : decode cX4_put 12 = .ok (.lcmp, 1) := by decide +kernel
theorem dX4_put_13 : decode cX4_put 13 = .ok (.ifCond .eq 36, 3) := by decide +kernel
theorem dX4_put_16 : decode cX4_put 16 = .ok (.lload 4, 2) := by decide +kernel
theorem dX4_put_18 : decode cX4_put 18 = .ok (.ldc2_w 179, 3) := by decide +kernel
theorem dX4_put_21 : decode cX4_put 21 = .ok (.land, 1) := by decide +kernel
theorem dX4_put_22 : decode cX4_put 22 = .ok (.l2i, 1) := by decide +kernel
theorem dX4_put_23 : decode cX4_put 23 = .ok (.bipush 33, 2) := by decide +kernel
theorem dX4_put_25 : decode cX4_put 25 = .ok (.bipush 126, 2) := by decide +kernel
theorem dX4_put_27 : decode cX4_put 27 = .ok (.invokestatic 95, 3) := by decide +kernel
theorem dX4_put_30 : decode cX4_put 30 = .ok (.ifCond .ne 6, 3) := by decide +kernel
theorem dX4_put_33 : decode cX4_put 33 = .ok (.bipush (-2), 2) := by decide +kernel
theorem dX4_put_35 : decode cX4_put 35 = .ok (.ireturn, 1) := by decide +kernel
theorem dX4_put_36 : decode cX4_put 36 = .ok (.iinc 3 1, 3) := by decide +kernel
theorem dX4_put_39 : decode cX4_put 39 = .ok (.lload 4, 2) := by decide +kernel
theorem dX4_put_41 : decode cX4_put 41 = .ok (.bipush 8, 2) := by decide +kernel
theorem dX4_put_43 : decode cX4_put 43 = .ok (.lushr, 1) := by decide +kernel
theorem dX4_put_44 : decode cX4_put 44 = .ok (.lstore 4, 2) := by decide +kernel
theorem dX4_put_46 : decode cX4_put 46 = .ok (.goto (-41), 3) := by decide +kernel
theorem dX4_put_49 : decode cX4_put 49 = .ok (.lload 4, 2) := by decide +kernel
theorem dX4_put_51 : decode cX4_put 51 = .ok (.lconst 0, 1) := by decide +kernel
theorem dX4_put_52 : decode cX4_put 52 = .ok (.lcmp, 1) := by decide +kernel
theorem dX4_put_53 : decode cX4_put 53 = .ok (.ifCond .ne 7, 3) := by decide +kernel
theorem dX4_put_56 : decode cX4_put 56 = .ok (.iload_n 3, 1) := by decide +kernel
theorem dX4_put_57 : decode cX4_put 57 = .ok (.ifCond .ne 6, 3) := by decide +kernel
theorem dX4_put_60 : decode cX4_put 60 = .ok (.bipush (-2), 2) := by decide +kernel
theorem dX4_put_62 : decode cX4_put 62 = .ok (.ireturn, 1) := by decide +kernel
theorem dX4_put_63 : decode cX4_put 63 = .ok (.aload_n 0, 1) := by decide +kernel
theorem dX4_put_64 : decode cX4_put 64 = .ok (.getfield 131, 3) := by decide +kernel
theorem dX4_put_67 : decode cX4_put 67 = .ok (.iload_n 3, 1) := by decide +kernel
theorem dX4_put_68 : decode cX4_put 68 = .ok (.iadd, 1) := by decide +kernel
theorem dX4_put_69 : decode cX4_put 69 = .ok (.bipush 60, 2) := by decide +kernel
theorem dX4_put_71 : decode cX4_put 71 = .ok (.if_icmp .le 6, 3) := by decide +kernel
theorem dX4_put_74 : decode cX4_put 74 = .ok (.bipush (-4), 2) := by decide +kernel
theorem dX4_put_76 : decode cX4_put 76 = .ok (.ireturn, 1) := by decide +kernel
theorem dX4_put_77 : decode cX4_put 77 = .ok (.lload_n 1, 1) := by decide +kernel
theorem dX4_put_78 : decode cX4_put 78 = .ok (.lstore 4, 2) := by decide +kernel
theorem dX4_put_80 : decode cX4_put 80 = .ok (.iload_n 3, 1) := by decide +kernel
theorem dX4_put_81 : decode cX4_put 81 = .ok (.iconst 1, 1) := by decide +kernel
theorem dX4_put_82 : decode cX4_put 82 = .ok (.isub, 1) := by decide +kernel
theorem dX4_put_83 : decode cX4_put 83 = .ok (.istore 6, 2) := by decide +kernel
theorem dX4_put_85 : decode cX4_put 85 = .ok (.iload 6, 2) := by decide +kernel
theorem dX4_put_87 : decode cX4_put 87 = .ok (.ifCond .lt 35, 3) := by decide +kernel
theorem dX4_put_90 : decode cX4_put 90 = .ok (.aload_n 0, 1) := by decide +kernel
theorem dX4_put_91 : decode cX4_put 91 = .ok (.getfield 26, 3) := by decide +kernel
theorem dX4_put_94 : decode cX4_put 94 = .ok (.aload_n 0, 1) := by decide +kernel
theorem dX4_put_95 : decode cX4_put 95 = .ok (.getfield 131, 3) := by decide +kernel
theorem dX4_put_98 : decode cX4_put 98 = .ok (.iload 6, 2) := by decide +kernel
theorem dX4_put_100 : decode cX4_put 100 = .ok (.iadd, 1) := by decide +kernel
theorem dX4_put_101 : decode cX4_put 101 = .ok (.lload 4, 2) := by decide +kernel
theorem dX4_put_103 : decode cX4_put 103 = .ok (.ldc2_w 179, 3) := by decide +kernel
theorem dX4_put_106 : decode cX4_put 106 = .ok (.land, 1) := by decide +kernel
theorem dX4_put_107 : decode cX4_put 107 = .ok (.l2i, 1) := by decide +kernel
theorem dX4_put_108 : decode cX4_put 108 = .ok (.iastore, 1) := by decide +kernel
theorem dX4_put_109 : decode cX4_put 109 = .ok (.lload 4, 2) := by decide +kernel
theorem dX4_put_111 : decode cX4_put 111 = .ok (.bipush 8, 2) := by decide +kernel
theorem dX4_put_113 : decode cX4_put 113 = .ok (.lushr, 1) := by decide +kernel
theorem dX4_put_114 : decode cX4_put 114 = .ok (.lstore 4, 2) := by decide +kernel
theorem dX4_put_116 : decode cX4_put 116 = .ok (.iinc 6 (-1), 3) := by decide +kernel
theorem dX4_put_119 : decode cX4_put 119 = .ok (.goto (-34), 3) := by decide +kernel
theorem dX4_put_122 : decode cX4_put 122 = .ok (.aload_n 0, 1) := by decide +kernel
theorem dX4_put_123 : decode cX4_put 123 = .ok (.dup, 1) := by decide +kernel
theorem dX4_put_124 : decode cX4_put 124 = .ok (.getfield 131, 3) := by decide +kernel
theorem dX4_put_127 : decode cX4_put 127 = .ok (.iload_n 3, 1) := by decide +kernel
theorem dX4_put_128 : decode cX4_put 128 = .ok (.iadd, 1) := by decide +kernel
theorem dX4_put_129 : decode cX4_put 129 = .ok (.putfield 131, 3) := by decide +kernel
theorem dX4_put_132 : decode cX4_put 132 = .ok (.aload_n 0, 1) := by decide +kernel
theorem dX4_put_133 : decode cX4_put 133 = .ok (.getfield 131, 3) := by decide +kernel
theorem dX4_put_136 : decode cX4_put 136 = .ok (.ireturn, 1) := by decide +kernel
theorem dX4_wipe_0 : decode cX4_wipe 0 = .ok (.aload_n 0, 1) := by decide +kernel
theorem dX4_wipe_1 : decode cX4_wipe 1 = .ok (.getfield 131, 3) := by decide +kernel
theorem dX4_wipe_4 : decode cX4_wipe 4 = .ok (.istore_n 1, 1) := by decide +kernel
theorem dX4_wipe_5 : decode cX4_wipe 5 = .ok (.aload_n 0, 1) := by decide +kernel
theorem dX4_wipe_6 : decode cX4_wipe 6 = .ok (.iconst 0, 1) := by decide +kernel
theorem dX4_wipe_7 : decode cX4_wipe 7 = .ok (.putfield 131, 3) := by decide +kernel
theorem dX4_wipe_10 : decode cX4_wipe 10 = .ok (.iload_n 1, 1) := by decide +kernel
theorem dX4_wipe_11 : decode cX4_wipe 11 = .ok (.ireturn, 1) := by decide +kernel
theorem dX4_fault_0 : decode cX4_fault 0 = .ok (.aload_n 0, 1) := by decide +kernel
theorem dX4_fault_1 : decode cX4_fault 1 = .ok (.invokevirtual 181, 3) := by decide +kernel
theorem dX4_fault_4 : decode cX4_fault 4 = .ok (.ireturn, 1) := by decide +kernel
theorem dX4_carry_0 : decode cX4_carry 0 = .ok (.aload_n 0, 1) := by decide +kernel
theorem dX4_carry_1 : decode cX4_carry 1 = .ok (.getfield 29, 3) := by decide +kernel
theorem dX4_carry_4 : decode cX4_carry 4 = .ok (.iload_n 1, 1) := by decide +kernel
theorem dX4_carry_5 : decode cX4_carry 5 = .ok (.iconst 1, 1) := by decide +kernel
theorem dX4_carry_6 : decode cX4_carry 6 = .ok (.iadd, 1) := by decide +kernel
theorem dX4_carry_7 : decode cX4_carry 7 = .ok (.iaload, 1) := by decide +kernel
theorem dX4_carry_8 : decode cX4_carry 8 = .ok (.istore_n 2, 1) := by decide +kernel
theorem dX4_carry_9 : decode cX4_carry 9 = .ok (.aload_n 0, 1) := by decide +kernel
theorem dX4_carry_10 : decode cX4_carry 10 = .ok (.getfield 29, 3) := by decide +kernel
theorem dX4_carry_13 : decode cX4_carry 13 = .ok (.iload_n 1, 1) := by decide +kernel
theorem dX4_carry_14 : decode cX4_carry 14 = .ok (.iaload, 1) := by decide +kernel
theorem dX4_carry_15 : decode cX4_carry 15 = .ok (.lookupswitch 101 #[(100, 63), (108, 69), (111, 57), (114, 81), (119, 87), (120, 75)], 57) := by decide +kernel
theorem dX4_carry_72 : decode cX4_carry 72 = .ok (.aload_n 0, 1) := by decide +kernel
theorem dX4_carry_73 : decode cX4_carry 73 = .ok (.iload_n 2, 1) := by decide +kernel
theorem dX4_carry_74 : decode cX4_carry 74 = .ok (.invokevirtual 184, 3) := by decide +kernel
theorem dX4_carry_77 : decode cX4_carry 77 = .ok (.ireturn, 1) := by decide +kernel
theorem dX4_carry_78 : decode cX4_carry 78 = .ok (.aload_n 0, 1) := by decide +kernel
theorem dX4_carry_79 : decode cX4_carry 79 = .ok (.iload_n 2, 1) := by decide +kernel
theorem dX4_carry_80 : decode cX4_carry 80 = .ok (.invokevirtual 187, 3) := by decide +kernel
theorem dX4_carry_83 : decode cX4_carry 83 = .ok (.ireturn, 1) := by decide +kernel
theorem dX4_carry_84 : decode cX4_carry 84 = .ok (.aload_n 0, 1) := by decide +kernel
theorem dX4_carry_85 : decode cX4_carry 85 = .ok (.iload_n 2, 1) := by decide +kernel
theorem dX4_carry_86 : decode cX4_carry 86 = .ok (.invokevirtual 190, 3) := by decide +kernel
theorem dX4_carry_89 : decode cX4_carry 89 = .ok (.ireturn, 1) := by decide +kernel
theorem dX4_carry_90 : decode cX4_carry 90 = .ok (.aload_n 0, 1) := by decide +kernel
theorem dX4_carry_91 : decode cX4_carry 91 = .ok (.iload_n 2, 1) := by decide +kernel
theorem dX4_carry_92 : decode cX4_carry 92 = .ok (.invokevirtual 193, 3) := by decide +kernel
theorem dX4_carry_95 : decode cX4_carry 95 = .ok (.ireturn, 1) := by decide +kernel
theorem dX4_carry_96 : decode cX4_carry 96 = .ok (.aload_n 0, 1) := by decide +kernel
theorem dX4_carry_97 : decode cX4_carry 97 = .ok (.iload_n 2, 1) := by decide +kernel
theorem dX4_carry_98 : decode cX4_carry 98 = .ok (.invokevirtual 196, 3) := by decide +kernel
theorem dX4_carry_101 : decode cX4_carry 101 = .ok (.ireturn, 1) := by decide +kernel
theorem dX4_carry_102 : decode cX4_carry 102 = .ok (.aload_n 0, 1) := by decide +kernel
theorem dX4_carry_103 : decode cX4_carry 103 = .ok (.iload_n 2, 1) := by decide +kernel
theorem dX4_carry_104 : decode cX4_carry 104 = .ok (.aload_n 0, 1) := by decide +kernel
theorem dX4_carry_105 : decode cX4_carry 105 = .ok (.getfield 29, 3) := by decide +kernel
theorem dX4_carry_108 : decode cX4_carry 108 = .ok (.iload_n 1, 1) := by decide +kernel
theorem dX4_carry_109 : decode cX4_carry 109 = .ok (.iconst 2, 1) := by decide +kernel
theorem dX4_carry_110 : decode cX4_carry 110 = .ok (.iadd, 1) := by decide +kernel
theorem dX4_carry_111 : decode cX4_carry 111 = .ok (.iaload, 1) := by decide +kernel
theorem dX4_carry_112 : decode cX4_carry 112 = .ok (.invokevirtual 199, 3) := by decide +kernel
theorem dX4_carry_115 : decode cX4_carry 115 = .ok (.ireturn, 1) := by decide +kernel
theorem dX4_carry_116 : decode cX4_carry 116 = .ok (.aload_n 0, 1) := by decide +kernel
theorem dX4_carry_117 : decode cX4_carry 117 = .ok (.iload_n 2, 1) := by decide +kernel
theorem dX4_carry_118 : decode cX4_carry 118 = .ok (.invokevirtual 202, 3) := by decide +kernel
theorem dX4_carry_121 : decode cX4_carry 121 = .ok (.ireturn, 1) := by decide +kernel
theorem dX4_carryOut_0 : decode cX4_carryOut 0 = .ok (.aload_n 0, 1) := by decide +kernel
theorem dX4_carryOut_1 : decode cX4_carryOut 1 = .ok (.invokevirtual 181, 3) := by decide +kernel
theorem dX4_carryOut_4 : decode cX4_carryOut 4 = .ok (.bipush (-6), 2) := by decide +kernel
theorem dX4_carryOut_6 : decode cX4_carryOut 6 = .ok (.if_icmp .eq 6, 3) := by decide +kernel
theorem dX4_carryOut_9 : decode cX4_carryOut 9 = .ok (.bipush (-3), 2) := by decide +kernel
theorem dX4_carryOut_11 : decode cX4_carryOut 11 = .ok (.ireturn, 1) := by decide +kernel
theorem dX4_carryOut_12 : decode cX4_carryOut 12 = .ok (.aload_n 0, 1) := by decide +kernel
theorem dX4_carryOut_13 : decode cX4_carryOut 13 = .ok (.invokevirtual 99, 3) := by decide +kernel
theorem dX4_carryOut_16 : decode cX4_carryOut 16 = .ok (.aload_n 0, 1) := by decide +kernel
theorem dX4_carryOut_17 : decode cX4_carryOut 17 = .ok (.iconst 1, 1) := by decide +kernel
theorem dX4_carryOut_18 : decode cX4_carryOut 18 = .ok (.putfield 32, 3) := by decide +kernel
theorem dX4_carryOut_21 : decode cX4_carryOut 21 = .ok (.iconst 0, 1) := by decide +kernel
theorem dX4_carryOut_22 : decode cX4_carryOut 22 = .ok (.istore_n 1, 1) := by decide +kernel
theorem dX4_carryOut_23 : decode cX4_carryOut 23 = .ok (.iload_n 1, 1) := by decide +kernel
theorem dX4_carryOut_24 : decode cX4_carryOut 24 = .ok (.aload_n 0, 1) := by decide +kernel
theorem dX4_carryOut_25 : decode cX4_carryOut 25 = .ok (.getfield 164, 3) := by decide +kernel
theorem dX4_carryOut_28 : decode cX4_carryOut 28 = .ok (.if_icmp .ge 19, 3) := by decide +kernel
theorem dX4_carryOut_31 : decode cX4_carryOut 31 = .ok (.aload_n 0, 1) := by decide +kernel
theorem dX4_carryOut_32 : decode cX4_carryOut 32 = .ok (.iconst 3, 1) := by decide +kernel
theorem dX4_carryOut_33 : decode cX4_carryOut 33 = .ok (.iload_n 1, 1) := by decide +kernel
theorem dX4_carryOut_34 : decode cX4_carryOut 34 = .ok (.imul, 1) := by decide +kernel
theorem dX4_carryOut_35 : decode cX4_carryOut 35 = .ok (.invokevirtual 205, 3) := by decide +kernel
theorem dX4_carryOut_38 : decode cX4_carryOut 38 = .ok (.ifCond .lt 9, 3) := by decide +kernel
theorem dX4_carryOut_41 : decode cX4_carryOut 41 = .ok (.iinc 1 1, 3) := by decide +kernel
theorem dX4_carryOut_44 : decode cX4_carryOut 44 = .ok (.goto (-21), 3) := by decide +kernel
theorem dX4_carryOut_47 : decode cX4_carryOut 47 = .ok (.aload_n 0, 1) := by decide +kernel
theorem dX4_carryOut_48 : decode cX4_carryOut 48 = .ok (.iconst 0, 1) := by decide +kernel
theorem dX4_carryOut_49 : decode cX4_carryOut 49 = .ok (.putfield 32, 3) := by decide +kernel
theorem dX4_carryOut_52 : decode cX4_carryOut 52 = .ok (.aload_n 0, 1) := by decide +kernel
theorem dX4_carryOut_53 : decode cX4_carryOut 53 = .ok (.iconst 0, 1) := by decide +kernel
theorem dX4_carryOut_54 : decode cX4_carryOut 54 = .ok (.putfield 131, 3) := by decide +kernel
theorem dX4_carryOut_57 : decode cX4_carryOut 57 = .ok (.iload_n 1, 1) := by decide +kernel
theorem dX4_carryOut_58 : decode cX4_carryOut 58 = .ok (.ireturn, 1) := by decide +kernel
theorem dX4_undo_0 : decode cX4_undo 0 = .ok (.aload_n 0, 1) := by decide +kernel
theorem dX4_undo_1 : decode cX4_undo 1 = .ok (.getfield 36, 3) := by decide +kernel
theorem dX4_undo_4 : decode cX4_undo 4 = .ok (.ifCond .ne 6, 3) := by decide +kernel
theorem dX4_undo_7 : decode cX4_undo 7 = .ok (.bipush (-5), 2) := by decide +kernel
theorem dX4_undo_9 : decode cX4_undo 9 = .ok (.ireturn, 1) := by decide +kernel
theorem dX4_undo_10 : decode cX4_undo 10 = .ok (.aload_n 0, 1) := by decide +kernel
theorem dX4_undo_11 : decode cX4_undo 11 = .ok (.dup, 1) := by decide +kernel
theorem dX4_undo_12 : decode cX4_undo 12 = .ok (.getfield 36, 3) := by decide +kernel
theorem dX4_undo_15 : decode cX4_undo 15 = .ok (.iconst 1, 1) := by decide +kernel
theorem dX4_undo_16 : decode cX4_undo 16 = .ok (.isub, 1) := by decide +kernel
theorem dX4_undo_17 : decode cX4_undo 17 = .ok (.putfield 36, 3) := by decide +kernel
theorem dX4_undo_20 : decode cX4_undo 20 = .ok (.iconst 0, 1) := by decide +kernel
theorem dX4_undo_21 : decode cX4_undo 21 = .ok (.istore_n 1, 1) := by decide +kernel
theorem dX4_undo_22 : decode cX4_undo 22 = .ok (.iload_n 1, 1) := by decide +kernel
theorem dX4_undo_23 : decode cX4_undo 23 = .ok (.sipush 390, 3) := by decide +kernel
theorem dX4_undo_26 : decode cX4_undo 26 = .ok (.if_icmp .ge 30, 3) := by decide +kernel
theorem dX4_undo_29 : decode cX4_undo 29 = .ok (.aload_n 0, 1) := by decide +kernel
theorem dX4_undo_30 : decode cX4_undo 30 = .ok (.getfield 7, 3) := by decide +kernel
theorem dX4_undo_33 : decode cX4_undo 33 = .ok (.iload_n 1, 1) := by decide +kernel
theorem dX4_undo_34 : decode cX4_undo 34 = .ok (.aload_n 0, 1) := by decide +kernel
theorem dX4_undo_35 : decode cX4_undo 35 = .ok (.getfield 16, 3) := by decide +kernel
theorem dX4_undo_38 : decode cX4_undo 38 = .ok (.aload_n 0, 1) := by decide +kernel
theorem dX4_undo_39 : decode cX4_undo 39 = .ok (.getfield 36, 3) := by decide +kernel
theorem dX4_undo_42 : decode cX4_undo 42 = .ok (.sipush 390, 3) := by decide +kernel
theorem dX4_undo_45 : decode cX4_undo 45 = .ok (.imul, 1) := by decide +kernel
theorem dX4_undo_46 : decode cX4_undo 46 = .ok (.iload_n 1, 1) := by decide +kernel
theorem dX4_undo_47 : decode cX4_undo 47 = .ok (.iadd, 1) := by decide +kernel
theorem dX4_undo_48 : decode cX4_undo 48 = .ok (.iaload, 1) := by decide +kernel
theorem dX4_undo_49 : decode cX4_undo 49 = .ok (.iastore, 1) := by decide +kernel
theorem dX4_undo_50 : decode cX4_undo 50 = .ok (.iinc 1 1, 3) := by decide +kernel
theorem dX4_undo_53 : decode cX4_undo 53 = .ok (.goto (-31), 3) := by decide +kernel
theorem dX4_undo_56 : decode cX4_undo 56 = .ok (.aload_n 0, 1) := by decide +kernel
theorem dX4_undo_57 : decode cX4_undo 57 = .ok (.getfield 36, 3) := by decide +kernel
theorem dX4_undo_60 : decode cX4_undo 60 = .ok (.ireturn, 1) := by decide +kernel
theorem dX4_save_0 : decode cX4_save 0 = .ok (.iload_n 1, 1) := by decide +kernel
theorem dX4_save_1 : decode cX4_save 1 = .ok (.iconst 0, 1) := by decide +kernel
theorem dX4_save_2 : decode cX4_save 2 = .ok (.iconst 1, 1) := by decide +kernel
theorem dX4_save_3 : decode cX4_save 3 = .ok (.invokestatic 95, 3) := by decide +kernel
theorem dX4_save_6 : decode cX4_save 6 = .ok (.ifCond .ne 6, 3) := by decide +kernel
theorem dX4_save_9 : decode cX4_save 9 = .ok (.bipush (-2), 2) := by decide +kernel
theorem dX4_save_11 : decode cX4_save 11 = .ok (.ireturn, 1) := by decide +kernel
theorem dX4_save_12 : decode cX4_save 12 = .ok (.iconst 0, 1) := by decide +kernel
theorem dX4_save_13 : decode cX4_save 13 = .ok (.istore_n 2, 1) := by decide +kernel
theorem dX4_save_14 : decode cX4_save 14 = .ok (.iload_n 2, 1) := by decide +kernel
theorem dX4_save_15 : decode cX4_save 15 = .ok (.sipush 390, 3) := by decide +kernel
theorem dX4_save_18 : decode cX4_save 18 = .ok (.if_icmp .ge 27, 3) := by decide +kernel
theorem dX4_save_21 : decode cX4_save 21 = .ok (.aload_n 0, 1) := by decide +kernel
theorem dX4_save_22 : decode cX4_save 22 = .ok (.getfield 19, 3) := by decide +kernel
theorem dX4_save_25 : decode cX4_save 25 = .ok (.iload_n 1, 1) := by decide +kernel
theorem dX4_save_26 : decode cX4_save 26 = .ok (.sipush 390, 3) := by decide +kernel
theorem dX4_save_29 : decode cX4_save 29 = .ok (.imul, 1) := by decide +kernel
theorem dX4_save_30 : decode cX4_save 30 = .ok (.iload_n 2, 1) := by decide +kernel
theorem dX4_save_31 : decode cX4_save 31 = .ok (.iadd, 1) := by decide +kernel
theorem dX4_save_32 : decode cX4_save 32 = .ok (.aload_n 0, 1) := by decide +kernel
theorem dX4_save_33 : decode cX4_save 33 = .ok (.getfield 7, 3) := by decide +kernel
theorem dX4_save_36 : decode cX4_save 36 = .ok (.iload_n 2, 1) := by decide +kernel
theorem dX4_save_37 : decode cX4_save 37 = .ok (.iaload, 1) := by decide +kernel
theorem dX4_save_38 : decode cX4_save 38 = .ok (.iastore, 1) := by decide +kernel
theorem dX4_save_39 : decode cX4_save 39 = .ok (.iinc 2 1, 3) := by decide +kernel
theorem dX4_save_42 : decode cX4_save 42 = .ok (.goto (-28), 3) := by decide +kernel
theorem dX4_save_45 : decode cX4_save 45 = .ok (.aload_n 0, 1) := by decide +kernel
theorem dX4_save_46 : decode cX4_save 46 = .ok (.getfield 22, 3) := by decide +kernel
theorem dX4_save_49 : decode cX4_save 49 = .ok (.iload_n 1, 1) := by decide +kernel
theorem dX4_save_50 : decode cX4_save 50 = .ok (.iconst 1, 1) := by decide +kernel
theorem dX4_save_51 : decode cX4_save 51 = .ok (.bastore, 1) := by decide +kernel
theorem dX4_save_52 : decode cX4_save 52 = .ok (.aload_n 0, 1) := by decide +kernel
theorem dX4_save_53 : decode cX4_save 53 = .ok (.getfield 7, 3) := by decide +kernel
theorem dX4_save_56 : decode cX4_save 56 = .ok (.iconst 4, 1) := by decide +kernel
theorem dX4_save_57 : decode cX4_save 57 = .ok (.iaload, 1) := by decide +kernel
theorem dX4_save_58 : decode cX4_save 58 = .ok (.ireturn, 1) := by decide +kernel
theorem dX4_restore_0 : decode cX4_restore 0 = .ok (.iload_n 1, 1) := by decide +kernel
theorem dX4_restore_1 : decode cX4_restore 1 = .ok (.iconst 0, 1) := by decide +kernel
theorem dX4_restore_2 : decode cX4_restore 2 = .ok (.iconst 1, 1) := by decide +kernel
theorem dX4_restore_3 : decode cX4_restore 3 = .ok (.invokestatic 95, 3) := by decide +kernel
theorem dX4_restore_6 : decode cX4_restore 6 = .ok (.ifCond .ne 6, 3) := by decide +kernel
theorem dX4_restore_9 : decode cX4_restore 9 = .ok (.bipush (-2), 2) := by decide +kernel
theorem dX4_restore_11 : decode cX4_restore 11 = .ok (.ireturn, 1) := by decide +kernel
theorem dX4_restore_12 : decode cX4_restore 12 = .ok (.aload_n 0, 1) := by decide +kernel
theorem dX4_restore_13 : decode cX4_restore 13 = .ok (.getfield 22, 3) := by decide +kernel
theorem dX4_restore_16 : decode cX4_restore 16 = .ok (.iload_n 1, 1) := by decide +kernel
theorem dX4_restore_17 : decode cX4_restore 17 = .ok (.baload, 1) := by decide +kernel
theorem dX4_restore_18 : decode cX4_restore 18 = .ok (.ifCond .ne 6, 3) := by decide +kernel
theorem dX4_restore_21 : decode cX4_restore 21 = .ok (.bipush (-5), 2) := by decide +kernel
theorem dX4_restore_23 : decode cX4_restore 23 = .ok (.ireturn, 1) := by decide +kernel
theorem dX4_restore_24 : decode cX4_restore 24 = .ok (.aload_n 0, 1) := by decide +kernel
theorem dX4_restore_25 : decode cX4_restore 25 = .ok (.invokevirtual 99, 3) := by decide +kernel
theorem dX4_restore_28 : decode cX4_restore 28 = .ok (.iconst 0, 1) := by decide +kernel
theorem dX4_restore_29 : decode cX4_restore 29 = .ok (.istore_n 2, 1) := by decide +kernel
theorem dX4_restore_30 : decode cX4_restore 30 = .ok (.iload_n 2, 1) := by decide +kernel
theorem dX4_restore_31 : decode cX4_restore 31 = .ok (.sipush 390, 3) := by decide +kernel
theorem dX4_restore_34 : decode cX4_restore 34 = .ok (.if_icmp .ge 27, 3) := by decide +kernel
theorem dX4_restore_37 : decode cX4_restore 37 = .ok (.aload_n 0, 1) := by decide +kernel
theorem dX4_restore_38 : decode cX4_restore 38 = .ok (.getfield 7, 3) := by decide +kernel
theorem dX4_restore_41 : decode cX4_restore 41 = .ok (.iload_n 2, 1) := by decide +kernel
theorem dX4_restore_42 : decode cX4_restore 42 = .ok (.aload_n 0, 1) := by decide +kernel
theorem dX4_restore_43 : decode cX4_restore 43 = .ok (.getfield 19, 3) := by decide +kernel
theorem dX4_restore_46 : decode cX4_restore 46 = .ok (.iload_n 1, 1) := by decide +kernel
theorem dX4_restore_47 : decode cX4_restore 47 = .ok (.sipush 390, 3) := by decide +kernel
theorem dX4_restore_50 : decode cX4_restore 50 = .ok (.imul, 1) := by decide +kernel
theorem dX4_restore_51 : decode cX4_restore 51 = .ok (.iload_n 2, 1) := by decide +kernel
theorem dX4_restore_52 : decode cX4_restore 52 = .ok (.iadd, 1) := by decide +kernel
theorem dX4_restore_53 : decode cX4_restore 53 = .ok (.iaload, 1) := by decide +kernel
theorem dX4_restore_54 : decode cX4_restore 54 = .ok (.iastore, 1) := by decide +kernel
theorem dX4_restore_55 : decode cX4_restore 55 = .ok (.iinc 2 1, 3) := by decide +kernel
theorem dX4_restore_58 : decode cX4_restore 58 = .ok (.goto (-28), 3) := by decide +kernel
theorem dX4_restore_61 : decode cX4_restore 61 = .ok (.aload_n 0, 1) := by decide +kernel
theorem dX4_restore_62 : decode cX4_restore 62 = .ok (.getfield 7, 3) := by decide +kernel
theorem dX4_restore_65 : decode cX4_restore 65 = .ok (.iconst 4, 1) := by decide +kernel
theorem dX4_restore_66 : decode cX4_restore 66 = .ok (.iaload, 1) := by decide +kernel
theorem dX4_restore_67 : decode cX4_restore 67 = .ok (.ireturn, 1) := by decide +kernel
