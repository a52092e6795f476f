theorem dJ6_bitCount_0f7a4_0 : decode cJ6_bitCount_0f7a4 0 = .ok (.iload_n 0, 1) := by decide +kernel
theorem dJ6_bitCount_0f7a4_1 : decode cJ6_bitCount_0f7a4 1 = .ok (.iload_n 0, 1) := by decide +kernel
theorem dJ6_bitCount_0f7a4_2 : decode cJ6_bitCount_0f7a4 2 = .ok (.iconst 1, 1) := by decide +kernel
theorem dJ6_bitCount_0f7a4_3 : decode cJ6_bitCount_0f7a4 3 = .ok (.iushr, 1) := by decide +kernel
theorem dJ6_bitCount_0f7a4_4 : decode cJ6_bitCount_0f7a4 4 = .ok (.ldc_w 265, 3) := by decide +kernel
theorem dJ6_bitCount_0f7a4_7 : decode cJ6_bitCount_0f7a4 7 = .ok (.iand, 1) := by decide +kernel
theorem dJ6_bitCount_0f7a4_8 : decode cJ6_bitCount_0f7a4 8 = .ok (.isub, 1) := by decide +kernel
theorem dJ6_bitCount_0f7a4_9 : decode cJ6_bitCount_0f7a4 9 = .ok (.istore_n 0, 1) := by decide +kernel
theorem dJ6_bitCount_0f7a4_10 : decode cJ6_bitCount_0f7a4 10 = .ok (.iload_n 0, 1) := by decide +kernel
theorem dJ6_bitCount_0f7a4_11 : decode cJ6_bitCount_0f7a4 11 = .ok (.ldc_w 266, 3) := by decide +kernel
theorem dJ6_bitCount_0f7a4_14 : decode cJ6_bitCount_0f7a4 14 = .ok (.iand, 1) := by decide +kernel
theorem dJ6_bitCount_0f7a4_15 : decode cJ6_bitCount_0f7a4 15 = .ok (.iload_n 0, 1) := by decide +kernel
theorem dJ6_bitCount_0f7a4_16 : decode cJ6_bitCount_0f7a4 16 = .ok (.iconst 2, 1) := by decide +kernel
theorem dJ6_bitCount_0f7a4_17 : decode cJ6_bitCount_0f7a4 17 = .ok (.iushr, 1) := by decide +kernel
theorem dJ6_bitCount_0f7a4_18 : decode cJ6_bitCount_0f7a4 18 = .ok (.ldc_w 266, 3) := by decide +kernel
theorem dJ6_bitCount_0f7a4_21 : decode cJ6_bitCount_0f7a4 21 = .ok (.iand, 1) := by decide +kernel
theorem dJ6_bitCount_0f7a4_22 : decode cJ6_bitCount_0f7a4 22 = .ok (.iadd, 1) := by decide +kernel
theorem dJ6_bitCount_0f7a4_23 : decode cJ6_bitCount_0f7a4 23 = .ok (.istore_n 0, 1) := by decide +kernel
theorem dJ6_bitCount_0f7a4_24 : decode cJ6_bitCount_0f7a4 24 = .ok (.iload_n 0, 1) := by decide +kernel
theorem dJ6_bitCount_0f7a4_25 : decode cJ6_bitCount_0f7a4 25 = .ok (.iload_n 0, 1) := by decide +kernel
theorem dJ6_bitCount_0f7a4_26 : decode cJ6_bitCount_0f7a4 26 = .ok (.iconst 4, 1) := by decide +kernel
theorem dJ6_bitCount_0f7a4_27 : decode cJ6_bitCount_0f7a4 27 = .ok (.iushr, 1) := by decide +kernel
theorem dJ6_bitCount_0f7a4_28 : decode cJ6_bitCount_0f7a4 28 = .ok (.iadd, 1) := by decide +kernel
theorem dJ6_bitCount_0f7a4_29 : decode cJ6_bitCount_0f7a4 29 = .ok (.ldc_w 267, 3) := by decide +kernel
theorem dJ6_bitCount_0f7a4_32 : decode cJ6_bitCount_0f7a4 32 = .ok (.iand, 1) := by decide +kernel
theorem dJ6_bitCount_0f7a4_33 : decode cJ6_bitCount_0f7a4 33 = .ok (.istore_n 0, 1) := by decide +kernel
theorem dJ6_bitCount_0f7a4_34 : decode cJ6_bitCount_0f7a4 34 = .ok (.iload_n 0, 1) := by decide +kernel
theorem dJ6_bitCount_0f7a4_35 : decode cJ6_bitCount_0f7a4 35 = .ok (.iload_n 0, 1) := by decide +kernel
theorem dJ6_bitCount_0f7a4_36 : decode cJ6_bitCount_0f7a4 36 = .ok (.bipush 8, 2) := by decide +kernel
theorem dJ6_bitCount_0f7a4_38 : decode cJ6_bitCount_0f7a4 38 = .ok (.iushr, 1) := by decide +kernel
theorem dJ6_bitCount_0f7a4_39 : decode cJ6_bitCount_0f7a4 39 = .ok (.iadd, 1) := by decide +kernel
theorem dJ6_bitCount_0f7a4_40 : decode cJ6_bitCount_0f7a4 40 = .ok (.istore_n 0, 1) := by decide +kernel
theorem dJ6_bitCount_0f7a4_41 : decode cJ6_bitCount_0f7a4 41 = .ok (.iload_n 0, 1) := by decide +kernel
theorem dJ6_bitCount_0f7a4_42 : decode cJ6_bitCount_0f7a4 42 = .ok (.iload_n 0, 1) := by decide +kernel
theorem dJ6_bitCount_0f7a4_43 : decode cJ6_bitCount_0f7a4 43 = .ok (.bipush 16, 2) := by decide +kernel
theorem dJ6_bitCount_0f7a4_45 : decode cJ6_bitCount_0f7a4 45 = .ok (.iushr, 1) := by decide +kernel
theorem dJ6_bitCount_0f7a4_46 : decode cJ6_bitCount_0f7a4 46 = .ok (.iadd, 1) := by decide +kernel
theorem dJ6_bitCount_0f7a4_47 : decode cJ6_bitCount_0f7a4 47 = .ok (.istore_n 0, 1) := by decide +kernel
theorem dJ6_bitCount_0f7a4_48 : decode cJ6_bitCount_0f7a4 48 = .ok (.iload_n 0, 1) := by decide +kernel
theorem dJ6_bitCount_0f7a4_49 : decode cJ6_bitCount_0f7a4 49 = .ok (.bipush 63, 2) := by decide +kernel
theorem dJ6_bitCount_0f7a4_51 : decode cJ6_bitCount_0f7a4 51 = .ok (.iand, 1) := by decide +kernel
theorem dJ6_bitCount_0f7a4_52 : decode cJ6_bitCount_0f7a4 52 = .ok (.ireturn, 1) := by decide +kernel
theorem dJ9_min_7cf53_0 : decode cJ9_min_7cf53 0 = .ok (.iload_n 0, 1) := by decide +kernel
theorem dJ9_min_7cf53_1 : decode cJ9_min_7cf53 1 = .ok (.iload_n 1, 1) := by decide +kernel
theorem dJ9_min_7cf53_2 : decode cJ9_min_7cf53 2 = .ok (.if_icmp .gt 7, 3) := by decide +kernel
theorem dJ9_min_7cf53_5 : decode cJ9_min_7cf53 5 = .ok (.iload_n 0, 1) := by decide +kernel
theorem dJ9_min_7cf53_6 : decode cJ9_min_7cf53 6 = .ok (.goto 4, 3) := by decide +kernel
theorem dJ9_min_7cf53_9 : decode cJ9_min_7cf53 9 = .ok (.iload_n 1, 1) := by decide +kernel
theorem dJ9_min_7cf53_10 : decode cJ9_min_7cf53 10 = .ok (.ireturn, 1) := by decide +kernel
theorem dX0_init_0 : decode cX0_init 0 = .ok (.aload_n 0, 1) := by decide +kernel
theorem dX0_init_1 : decode cX0_init 1 = .ok (.invokespecial 3, 3) := by decide +kernel
theorem dX0_init_4 : decode cX0_init 4 = .ok (.return_, 1) := by decide +kernel
theorem dX1_init_0 : decode cX1_init 0 = .ok (.aload_n 0, 1) := by decide +kernel
theorem dX1_init_1 : decode cX1_init 1 = .ok (.invokespecial 3, 3) := by decide +kernel
theorem dX1_init_4 : decode cX1_init 4 = .ok (.aload_n 0, 1) := by decide +kernel
theorem dX1_init_5 : decode cX1_init 5 = .ok (.sipush 240, 3) := by decide +kernel
theorem dX1_init_8 : decode cX1_init 8 = .ok (.newarray .int, 2) := by decide +kernel
theorem dX1_init_10 : decode cX1_init 10 = .ok (.putfield 9, 3) := by decide +kernel
theorem dX1_init_13 : decode cX1_init 13 = .ok (.aload_n 0, 1) := by decide +kernel
theorem dX1_init_14 : decode cX1_init 14 = .ok (.iconst 5, 1) := by decide +kernel
theorem dX1_init_15 : decode cX1_init 15 = .ok (.newarray .int, 2) := by decide +kernel
theorem dX1_init_17 : decode cX1_init 17 = .ok (.putfield 15, 3) := by decide +kernel
theorem dX1_init_20 : decode cX1_init 20 = .ok (.aload_n 0, 1) := by decide +kernel
theorem dX1_init_21 : decode cX1_init 21 = .ok (.iconst 5, 1) := by decide +kernel
theorem dX1_init_22 : decode cX1_init 22 = .ok (.newarray .int, 2) := by decide +kernel
theorem dX1_init_24 : decode cX1_init 24 = .ok (.putfield 18, 3) := by decide +kernel
theorem dX1_init_27 : decode cX1_init 27 = .ok (.return_, 1) := by decide +kernel
theorem dX1_copyFrom_0 : decode cX1_copyFrom 0 = .ok (.aload_n 0, 1) := by decide +kernel
theorem dX1_copyFrom_1 : decode cX1_copyFrom 1 = .ok (.aload_n 1, 1) := by decide +kernel
theorem dX1_copyFrom_2 : decode cX1_copyFrom 2 = .ok (.getfield 21, 3) := by decide +kernel
theorem dX1_copyFrom_5 : decode cX1_copyFrom 5 = .ok (.putfield 21, 3) := by decide +kernel
theorem dX1_copyFrom_8 : decode cX1_copyFrom 8 = .ok (.aload_n 0, 1) := by decide +kernel
theorem dX1_copyFrom_9 : decode cX1_copyFrom 9 = .ok (.aload_n 1, 1) := by decide +kernel
theorem dX1_copyFrom_10 : decode cX1_copyFrom 10 = .ok (.getfield 25, 3) := by decide +kernel
theorem dX1_copyFrom_13 : decode cX1_copyFrom 13 = .ok (.putfield 25, 3) := by decide +kernel
theorem dX1_copyFrom_16 : decode cX1_copyFrom 16 = .ok (.aload_n 1, 1) := by decide +kernel
theorem dX1_copyFrom_17 : decode cX1_copyFrom 17 = .ok (.getfield 9, 3) := by decide +kernel
theorem dX1_copyFrom_20 : decode cX1_copyFrom 20 = .ok (.iconst 0, 1) := by decide +kernel
theorem dX1_copyFrom_21 : decode cX1_copyFrom 21 = .ok (.aload_n 0, 1) := by decide +kernel
theorem dX1_copyFrom_22 : decode cX1_copyFrom 22 = .ok (.getfield 9, 3) := by decide +kernel
theorem dX1_copyFrom_25 : decode cX1_copyFrom 25 = .ok (.iconst 0, 1) := by decide +kernel
theorem dX1_copyFrom_26 : decode cX1_copyFrom 26 = .ok (.aload_n 0, 1) := by decide +kernel
theorem dX1_copyFrom_27 : decode cX1_copyFrom 27 = .ok (.getfield 9, 3) := by decide +kernel
theorem dX1_copyFrom_30 : decode cX1_copyFrom 30 = .ok (.arraylength, 1) := by decide +kernel
theorem dX1_copyFrom_31 : decode cX1_copyFrom 31 = .ok (.invokestatic 28, 3) := by decide +kernel
theorem dX1_copyFrom_34 : decode cX1_copyFrom 34 = .ok (.aload_n 1, 1) := by decide +kernel
theorem dX1_copyFrom_35 : decode cX1_copyFrom 35 = .ok (.getfield 15, 3) := by decide +kernel
theorem dX1_copyFrom_38 : decode cX1_copyFrom 38 = .ok (.iconst 0, 1) := by decide +kernel
theorem dX1_copyFrom_39 : decode cX1_copyFrom 39 = .ok (.aload_n 0, 1) := by decide +kernel
theorem dX1_copyFrom_40 : decode cX1_copyFrom 40 = .ok (.getfield 15, 3) := by decide +kernel
theorem dX1_copyFrom_43 : decode cX1_copyFrom 43 = .ok (.iconst 0, 1) := by decide +kernel
theorem dX1_copyFrom_44 : decode cX1_copyFrom 44 = .ok (.iconst 5, 1) := by decide +kernel
theorem dX1_copyFrom_45 : decode cX1_copyFrom 45 = .ok (.invokestatic 28, 3) := by decide +kernel
theorem dX1_copyFrom_48 : decode cX1_copyFrom 48 = .ok (.aload_n 1, 1) := by decide +kernel
theorem dX1_copyFrom_49 : decode cX1_copyFrom 49 = .ok (.getfield 18, 3) := by decide +kernel
theorem dX1_copyFrom_52 : decode cX1_copyFrom 52 = .ok (.iconst 0, 1) := by decide +kernel
theorem dX1_copyFrom_53 : decode cX1_copyFrom 53 = .ok (.aload_n 0, 1) := by decide +kernel
theorem dX1_copyFrom_54 : decode cX1_copyFrom 54 = .ok (.getfield 18, 3) := by decide +kernel
theorem dX1_copyFrom_57 : decode cX1_copyFrom 57 = .ok (.iconst 0, 1) := by decide +kernel
theorem dX1_copyFrom_58 : decode cX1_copyFrom 58 = .ok (.iconst 5, 1) := by decide +kernel
theorem dX1_copyFrom_59 : decode cX1_copyFrom 59 = .ok (.invokestatic 28, 3) := by decide +kernel
theorem dX1_copyFrom_62 : decode cX1_copyFrom 62 = .ok (.return_, 1) := by decide +kernel
theorem dX1_has_0 : decode cX1_has 0 = .ok (.iload_n 1, 1) := by decide +kernel
theorem dX1_has_1 : decode cX1_has 1 = .ok (.ifCond .lt 15, 3) := by decide +kernel
theorem dX1_has_4 : decode cX1_has 4 = .ok (.iload_n 1, 1) := by decide +kernel
theorem dX1_has_5 : decode cX1_has 5 = .ok (.aload_n 0, 1) := by decide +kernel
theorem dX1_has_6 : decode cX1_has 6 = .ok (.getfield 21, 3) := by decide +kernel
theorem dX1_has_9 : decode cX1_has 9 = .ok (.if_icmp .ge 7, 3) := by decide +kernel
theorem dX1_has_12 : decode cX1_has 12 = .ok (.iconst 1, 1) := by decide +kernel
theorem dX1_has_13 : decode cX1_has 13 = .ok (.goto 4, 3) := by decide +kernel
theorem dX1_has_16 : decode cX1_has 16 = .ok (.iconst 0, 1) := by decide +kernel
theorem dX1_has_17 : decode cX1_has 17 = .ok (.ireturn, 1) := by decide +kernel
theorem dX1_part_0 : decode cX1_part 0 = .ok (.aload_n 0, 1) := by decide +kernel
theorem dX1_part_1 : decode cX1_part 1 = .ok (.getfield 9, 3) := by decide +kernel
theorem dX1_part_4 : decode cX1_part 4 = .ok (.iload_n 1, 1) := by decide +kernel
theorem dX1_part_5 : decode cX1_part 5 = .ok (.iconst 4, 1) := by decide +kernel
theorem dX1_part_6 : decode cX1_part 6 = .ok (.imul, 1) := by decide +kernel
theorem dX1_part_7 : decode cX1_part 7 = .ok (.iload_n 2, 1) := by decide +kernel
theorem dX1_part_8 : decode cX1_part 8 = .ok (.iadd, 1) := by decide +kernel
theorem dX1_part_9 : decode cX1_part 9 = .ok (.iaload, 1) := by decide +kernel
theorem dX1_part_10 : decode cX1_part 10 = .ok (.ireturn, 1) := by decide +kernel
theorem dX1_numberOfMessage_0 : decode cX1_numberOfMessage 0 = .ok (.aload_n 0, 1) := by decide +kernel
theorem dX1_numberOfMessage_1 : decode cX1_numberOfMessage 1 = .ok (.iload_n 1, 1) := by decide +kernel
theorem dX1_numberOfMessage_2 : decode cX1_numberOfMessage 2 = .ok (.invokevirtual 34, 3) := by decide +kernel
theorem dX1_numberOfMessage_5 : decode cX1_numberOfMessage 5 = .ok (.ifCond .ne 5, 3) := by decide +kernel
theorem dX1_numberOfMessage_8 : decode cX1_numberOfMessage 8 = .ok (.iconst (-1), 1) := by decide +kernel
theorem dX1_numberOfMessage_9 : decode cX1_numberOfMessage 9 = .ok (.ireturn, 1) := by decide +kernel
theorem dX1_numberOfMessage_10 : decode cX1_numberOfMessage 10 = .ok (.iload_n 2, 1) := by decide +kernel
theorem dX1_numberOfMessage_11 : decode cX1_numberOfMessage 11 = .ok (.ifCond .lt 8, 3) := by decide +kernel
theorem dX1_numberOfMessage_14 : decode cX1_numberOfMessage 14 = .ok (.iload_n 2, 1) := by decide +kernel
theorem dX1_numberOfMessage_15 : decode cX1_numberOfMessage 15 = .ok (.iconst 4, 1) := by decide +kernel
theorem dX1_numberOfMessage_16 : decode cX1_numberOfMessage 16 = .ok (.if_icmp .lt 6, 3) := by decide +kernel
theorem dX1_numberOfMessage_19 : decode cX1_numberOfMessage 19 = .ok (.bipush (-2), 2) := by decide +kernel
theorem dX1_numberOfMessage_21 : decode cX1_numberOfMessage 21 = .ok (.ireturn, 1) := by decide +kernel
theorem dX1_numberOfMessage_22 : decode cX1_numberOfMessage 22 = .ok (.aload_n 0, 1) := by decide +kernel
theorem dX1_numberOfMessage_23 : decode cX1_numberOfMessage 23 = .ok (.iload_n 1, 1) := by decide +kernel
theorem dX1_numberOfMessage_24 : decode cX1_numberOfMessage 24 = .ok (.iload_n 2, 1) := by decide +kernel
theorem dX1_numberOfMessage_25 : decode cX1_numberOfMessage 25 = .ok (.invokevirtual 38, 3) := by decide +kernel
theorem dX1_numberOfMessage_28 : decode cX1_numberOfMessage 28 = .ok (.ireturn, 1) := by decide +kernel
theorem dX1_onTheirWayTo_0 : decode cX1_onTheirWayTo 0 = .ok (.iconst 0, 1) := by decide +kernel
theorem dX1_onTheirWayTo_1 : decode cX1_onTheirWayTo 1 = .ok (.istore_n 2, 1) := by decide +kernel
theorem dX1_onTheirWayTo_2 : decode cX1_onTheirWayTo 2 = .ok (.iconst 0, 1) := by decide +kernel
theorem dX1_onTheirWayTo_3 : decode cX1_onTheirWayTo 3 = .ok (.istore_n 3, 1) := by decide +kernel
theorem dX1_onTheirWayTo_4 : decode cX1_onTheirWayTo 4 = .ok (.iload_n 3, 1) := by decide +kernel
theorem dX1_onTheirWayTo_5 : decode cX1_onTheirWayTo 5 = .ok (.aload_n 0, 1) := by decide +kernel
theorem dX1_onTheirWayTo_6 : decode cX1_onTheirWayTo 6 = .ok (.getfield 21, 3) := by decide +kernel
theorem dX1_onTheirWayTo_9 : decode cX1_onTheirWayTo 9 = .ok (.if_icmp .ge 22, 3) := by decide +kernel
theorem dX1_onTheirWayTo_12 : decode cX1_onTheirWayTo 12 = .ok (.aload_n 0, 1) := by decide +kernel
theorem dX1_onTheirWayTo_13 : decode cX1_onTheirWayTo 13 = .ok (.iload_n 3, 1) := by decide +kernel
theorem dX1_onTheirWayTo_14 : decode cX1_onTheirWayTo 14 = .ok (.iconst 3, 1) := by decide +kernel
theorem dX1_onTheirWayTo_15 : decode cX1_onTheirWayTo 15 = .ok (.invokevirtual 38, 3) := by decide +kernel
theorem dX1_onTheirWayTo_18 : decode cX1_onTheirWayTo 18 = .ok (.iload_n 1, 1) := by decide +kernel
theorem dX1_onTheirWayTo_19 : decode cX1_onTheirWayTo 19 = .ok (.if_icmp .ne 6, 3) := by decide +kernel
theorem dX1_onTheirWayTo_22 : decode cX1_onTheirWayTo 22 = .ok (.iinc 2 1, 3) := by decide +kernel
theorem dX1_onTheirWayTo_25 : decode cX1_onTheirWayTo 25 = .ok (.iinc 3 1, 3) := by decide +kernel
theorem dX1_onTheirWayTo_28 : decode cX1_onTheirWayTo 28 = .ok (.goto (-24), 3) := by decide +kernel
theorem dX1_onTheirWayTo_31 : decode cX1_onTheirWayTo 31 = .ok (.iload_n 2, 1) := by decide +kernel
theorem dX1_onTheirWayTo_32 : decode cX1_onTheirWayTo 32 = .ok (.ireturn, 1) := by decide +kernel
theorem dX1_delivered_0 : decode cX1_delivered 0 = .ok (.iconst 0, 1) := by decide +kernel
theorem dX1_delivered_1 : decode cX1_delivered 1 = .ok (.istore_n 1, 1) := by decide +kernel
theorem dX1_delivered_2 : decode cX1_delivered 2 = .ok (.iconst 0, 1) := by decide +kernel
theorem dX1_delivered_3 : decode cX1_delivered 3 = .ok (.istore_n 2, 1) := by decide +kernel
theorem dX1_delivered_4 : decode cX1_delivered 4 = .ok (.iload_n 2, 1) := by decide +kernel
theorem dX1_delivered_5 : decode cX1_delivered 5 = .ok (.iconst 5, 1) := by decide +kernel
theorem dX1_delivered_6 : decode cX1_delivered 6 = .ok (.if_icmp .ge 18, 3) := by decide +kernel
theorem dX1_delivered_9 : decode cX1_delivered 9 = .ok (.iload_n 1, 1) := by decide +kernel
theorem dX1_delivered_10 : decode cX1_delivered 10 = .ok (.aload_n 0, 1) := by decide +kernel
theorem dX1_delivered_11 : decode cX1_delivered 11 = .ok (.getfield 15, 3) := by decide +kernel
theorem dX1_delivered_14 : decode cX1_delivered 14 = .ok (.iload_n 2, 1) := by decide +kernel
theorem dX1_delivered_15 : decode cX1_delivered 15 = .ok (.iaload, 1) := by decide +kernel
theorem dX1_delivered_16 : decode cX1_delivered 16 = .ok (.iadd, 1) := by decide +kernel
theorem dX1_delivered_17 : decode cX1_delivered 17 = .ok (.istore_n 1, 1) := by decide +kernel
theorem dX1_delivered_18 : decode cX1_delivered 18 = .ok (.iinc 2 1, 3) := by decide +kernel
theorem dX1_delivered_21 : decode cX1_delivered 21 = .ok (.goto (-17), 3) := by decide +kernel
theorem dX1_delivered_24 : decode cX1_delivered 24 = .ok (.iload_n 1, 1) := by decide +kernel
theorem dX1_delivered_25 : decode cX1_delivered 25 = .ok (.ireturn, 1) := by decide +kernel
theorem dX1_send_0 : decode cX1_send 0 = .ok (.aload_n 0, 1) := by decide +kernel
theorem dX1_send_1 : decode cX1_send 1 = .ok (.getfield 18, 3) := by decide +kernel
theorem dX1_send_4 : decode cX1_send 4 = .ok (.iload_n 3, 1) := by decide +kernel
theorem dX1_send_5 : decode cX1_send 5 = .ok (.dup2, 1) := by decide +kernel
theorem dX1_send_6 : decode cX1_send 6 = .ok (.iaload, 1) := by decide +kernel
theorem dX1_send_7 : decode cX1_send 7 = .ok (.iconst 1, 1) := by decide +kernel
theorem dX1_send_8 : decode cX1_send 8 = .ok (.iadd, 1) := by decide +kernel
theorem dX1_send_9 : decode cX1_send 9 = .ok (.iastore, 1) := by decide +kernel
theorem dX1_send_10 : decode cX1_send 10 = .ok (.aload_n 0, 1) := by decide +kernel
theorem dX1_send_11 : decode cX1_send 11 = .ok (.getfield 21, 3) := by decide +kernel
theorem dX1_send_14 : decode cX1_send 14 = .ok (.bipush 60, 2) := by decide +kernel
theorem dX1_send_16 : decode cX1_send 16 = .ok (.if_icmp .lt 14, 3) := by decide +kernel
theorem dX1_send_19 : decode cX1_send 19 = .ok (.aload_n 0, 1) := by decide +kernel
theorem dX1_send_20 : decode cX1_send 20 = .ok (.dup, 1) := by decide +kernel
theorem dX1_send_21 : decode cX1_send 21 = .ok (.getfield 25, 3) := by decide +kernel
theorem dX1_send_24 : decode cX1_send 24 = .ok (.iconst 1, 1) := by decide +kernel
theorem dX1_send_25 : decode cX1_send 25 = .ok (.iadd, 1) := by decide +kernel
theorem dX1_send_26 : decode cX1_send 26 = .ok (.putfield 25, 3) := by decide +kernel
theorem dX1_send_29 : decode cX1_send 29 = .ok (.return_, 1) := by decide +kernel
theorem dX1_send_30 : decode cX1_send 30 = .ok (.aload_n 0, 1) := by decide +kernel
theorem dX1_send_31 : decode cX1_send 31 = .ok (.getfield 21, 3) := by decide +kernel
theorem dX1_send_34 : decode cX1_send 34 = .ok (.iconst 4, 1) := by decide +kernel
theorem dX1_send_35 : decode cX1_send 35 = .ok (.imul, 1) := by decide +kernel
theorem dX1_send_36 : decode cX1_send 36 = .ok (.istore 5, 2) := by decide +kernel
theorem dX1_send_38 : decode cX1_send 38 = .ok (.aload_n 0, 1) := by decide +kernel
theorem dX1_send_39 : decode cX1_send 39 = .ok (.getfield 9, 3) := by decide +kernel
theorem dX1_send_42 : decode cX1_send 42 = .ok (.iload 5, 2) := by decide +kernel
theorem dX1_send_44 : decode cX1_send 44 = .ok (.iconst 0, 1) := by decide +kernel
theorem dX1_send_45 : decode cX1_send 45 = .ok (.iadd, 1) := by decide +kernel
theorem dX1_send_46 : decode cX1_send 46 = .ok (.iload_n 1, 1) := by decide +kernel
theorem dX1_send_47 : decode cX1_send 47 = .ok (.iastore, 1) := by decide +kernel
theorem dX1_send_48 : decode cX1_send 48 = .ok (.aload_n 0, 1) := by decide +kernel
theorem dX1_send_49 : decode cX1_send 49 = .ok (.getfield 9, 3) := by decide +kernel
theorem dX1_send_52 : decode cX1_send 52 = .ok (.iload 5, 2) := by decide +kernel
theorem dX1_send_54 : decode cX1_send 54 = .ok (.iconst 1, 1) := by decide +kernel
theorem dX1_send_55 : decode cX1_send 55 = .ok (.iadd, 1) := by decide +kernel
theorem dX1_send_56 : decode cX1_send 56 = .ok (.iload_n 2, 1) := by decide +kernel
theorem dX1_send_57 : decode cX1_send 57 = .ok (.iastore, 1) := by decide +kernel
theorem dX1_send_58 : decode cX1_send 58 = .ok (.aload_n 0, 1) := by decide +kernel
theorem dX1_send_59 : decode cX1_send 59 = .ok (.getfield 9, 3) := by decide +kernel
theorem dX1_send_62 : decode cX1_send 62 = .ok (.iload 5, 2) := by decide +kernel
theorem dX1_send_64 : decode cX1_send 64 = .ok (.iconst 2, 1) := by decide +kernel
theorem dX1_send_65 : decode cX1_send 65 = .ok (.iadd, 1) := by decide +kernel
theorem dX1_send_66 : decode cX1_send 66 = .ok (.iload_n 3, 1) := by decide +kernel
theorem dX1_send_67 : decode cX1_send 67 = .ok (.iastore, 1) := by decide +kernel
theorem dX1_send_68 : decode cX1_send 68 = .ok (.aload_n 0, 1) := by decide +kernel
theorem dX1_send_69 : decode cX1_send 69 = .ok (.getfield 9, 3) := by decide +kernel
theorem dX1_send_72 : decode cX1_send 72 = .ok (.iload 5, 2) := by decide +kernel
theorem dX1_send_74 : decode cX1_send 74 = .ok (.iconst 3, 1) := by decide +kernel
theorem dX1_send_75 : decode cX1_send 75 = .ok (.iadd, 1) := by decide +kernel
theorem dX1_send_76 : decode cX1_send 76 = .ok (.iload 4, 2) := by decide +kernel
theorem dX1_send_78 : decode cX1_send 78 = .ok (.iastore, 1) := by decide +kernel
theorem dX1_send_79 : decode cX1_send 79 = .ok (.aload_n 0, 1) := by decide +kernel
theorem dX1_send_80 : decode cX1_send 80 = .ok (.dup, 1) := by decide +kernel
theorem dX1_send_81 : decode cX1_send 81 = .ok (.getfield 21, 3) := by decide +kernel
theorem dX1_send_84 : decode cX1_send 84 = .ok (.iconst 1, 1) := by decide +kernel
theorem dX1_send_85 : decode cX1_send 85 = .ok (.iadd, 1) := by decide +kernel
theorem dX1_send_86 : decode cX1_send 86 = .ok (.putfield 21, 3) := by decide +kernel
theorem dX1_send_89 : decode cX1_send 89 = .ok (.return_, 1) := by decide +kernel
theorem dX1_repeat_0 : decode cX1_repeat 0 = .ok (.aload_n 0, 1) := by decide +kernel
theorem dX1_repeat_1 : decode cX1_repeat 1 = .ok (.getfield 9, 3) := by decide +kernel
theorem dX1_repeat_4 : decode cX1_repeat 4 = .ok (.iload_n 1, 1) := by decide +kernel
theorem dX1_repeat_5 : decode cX1_repeat 5 = .ok (.iconst 4, 1) := by decide +kernel
theorem dX1_repeat_6 : decode cX1_repeat 6 = .ok (.imul, 1) := by decide +kernel
theorem dX1_repeat_7 : decode cX1_repeat 7 = .ok (.aload_n 0, 1) := by decide +kernel
theorem dX1_repeat_8 : decode cX1_repeat 8 = .ok (.getfield 9, 3) := by decide +kernel
theorem dX1_repeat_11 : decode cX1_repeat 11 = .ok (.aload_n 0, 1) := by decide +kernel
theorem dX1_repeat_12 : decode cX1_repeat 12 = .ok (.getfield 21, 3) := by decide +kernel
theorem dX1_repeat_15 : decode cX1_repeat 15 = .ok (.iconst 4, 1) := by decide +kernel
theorem dX1_repeat_16 : decode cX1_repeat 16 = .ok (.imul, 1) := by decide +kernel
theorem dX1_repeat_17 : decode cX1_repeat 17 = .ok (.iconst 4, 1) := by decide +kernel
theorem dX1_repeat_18 : decode cX1_repeat 18 = .ok (.invokestatic 28, 3) := by decide +kernel
theorem dX1_repeat_21 : decode cX1_repeat 21 = .ok (.aload_n 0, 1) := by decide +kernel
theorem dX1_repeat_22 : decode cX1_repeat 22 = .ok (.dup, 1) := by decide +kernel
theorem dX1_repeat_23 : decode cX1_repeat 23 = .ok (.getfield 21, 3) := by decide +kernel
theorem dX1_repeat_26 : decode cX1_repeat 26 = .ok (.iconst 1, 1) := by decide +kernel
theorem dX1_repeat_27 : decode cX1_repeat 27 = .ok (.iadd, 1) := by decide +kernel
theorem dX1_repeat_28 : decode cX1_repeat 28 = .ok (.putfield 21, 3) := by decide +kernel
theorem dX1_repeat_31 : decode cX1_repeat 31 = .ok (.return_, 1) := by decide +kernel
theorem dX1_remove_0 : decode cX1_remove 0 = .ok (.iload_n 1, 1) := by decide +kernel
theorem dX1_remove_1 : decode cX1_remove 1 = .ok (.iconst 1, 1) := by decide +kernel
theorem dX1_remove_2 : decode cX1_remove 2 = .ok (.iadd, 1) := by decide +kernel
theorem dX1_remove_3 : decode cX1_remove 3 = .ok (.istore_n 2, 1) := by decide +kernel
theorem dX1_remove_4 : decode cX1_remove 4 = .ok (.aload_n 0, 1) := by decide +kernel
theorem dX1_remove_5 : decode cX1_remove 5 = .ok (.getfield 9, 3) := by decide +kernel
theorem dX1_remove_8 : decode cX1_remove 8 = .ok (.iload_n 2, 1) := by decide +kernel
theorem dX1_remove_9 : decode cX1_remove 9 = .ok (.iconst 4, 1) := by decide +kernel
theorem dX1_remove_10 : decode cX1_remove 10 = .ok (.imul, 1) := by decide +kernel
theorem dX1_remove_11 : decode cX1_remove 11 = .ok (.aload_n 0, 1) := by decide +kernel
theorem dX1_remove_12 : decode cX1_remove 12 = .ok (.getfield 9, 3) := by decide +kernel
theorem dX1_remove_15 : decode cX1_remove 15 = .ok (.iload_n 1, 1) := by decide +kernel
theorem dX1_remove_16 : decode cX1_remove 16 = .ok (.iconst 4, 1) := by decide +kernel
theorem dX1_remove_17 : decode cX1_remove 17 = .ok (.imul, 1) := by decide +kernel
theorem dX1_remove_18 : decode cX1_remove 18 = .ok (.aload_n 0, 1) := by decide +kernel
theorem dX1_remove_19 : decode cX1_remove 19 = .ok (.getfield 21, 3) := by decide +kernel
theorem dX1_remove_22 : decode cX1_remove 22 = .ok (.iload_n 2, 1) := by decide +kernel
theorem dX1_remove_23 : decode cX1_remove 23 = .ok (.isub, 1) := by decide +kernel
theorem dX1_remove_24 : decode cX1_remove 24 = .ok (.iconst 4, 1) := by decide +kernel
theorem dX1_remove_25 : decode cX1_remove 25 = .ok (.imul, 1) := by decide +kernel
theorem dX1_remove_26 : decode cX1_remove 26 = .ok (.invokestatic 28, 3) := by decide +kernel
theorem dX1_remove_29 : decode cX1_remove 29 = .ok (.aload_n 0, 1) := by decide +kernel
theorem dX1_remove_30 : decode cX1_remove 30 = .ok (.dup, 1) := by decide +kernel
theorem dX1_remove_31 : decode cX1_remove 31 = .ok (.getfield 21, 3) := by decide +kernel
theorem dX1_remove_34 : decode cX1_remove 34 = .ok (.iconst 1, 1) := by decide +kernel
theorem dX1_remove_35 : decode cX1_remove 35 = .ok (.isub, 1) := by decide +kernel
theorem dX1_remove_36 : decode cX1_remove 36 = .ok (.putfield 21, 3) := by decide +kernel
theorem dX1_remove_39 : decode cX1_remove 39 = .ok (.return_, 1) := by decide +kernel
theorem dX2_init_0 : decode cX2_init 0 = .ok (.aload_n 0, 1) := by decide +kernel
theorem dX2_init_1 : decode cX2_init 1 = .ok (.invokespecial 3, 3) := by decide +kernel
theorem dX2_init_4 : decode cX2_init 4 = .ok (.aload_n 0, 1) := by decide +kernel
theorem dX2_init_5 : decode cX2_init 5 = .ok (.iconst 4, 1) := by decide +kernel
theorem dX2_init_6 : decode cX2_init 6 = .ok (.newarray .int, 2) := by decide +kernel
theorem dX2_init_8 : decode cX2_init 8 = .ok (.dup, 1) := by decide +kernel
theorem dX2_init_9 : decode cX2_init 9 = .ok (.iconst 0, 1) := by decide +kernel
theorem dX2_init_10 : decode cX2_init 10 = .ok (.bipush 6, 2) := by decide +kernel
theorem dX2_init_12 : decode cX2_init 12 = .ok (.iastore, 1) := by decide +kernel
theorem dX2_init_13 : decode cX2_init 13 = .ok (.dup, 1) := by decide +kernel
theorem dX2_init_14 : decode cX2_init 14 = .ok (.iconst 1, 1) := by decide +kernel
theorem dX2_init_15 : decode cX2_init 15 = .ok (.iconst 4, 1) := by decide +kernel
theorem dX2_init_16 : decode cX2_init 16 = .ok (.iastore, 1) := by decide +kernel
theorem dX2_init_17 : decode cX2_init 17 = .ok (.dup, 1) := by decide +kernel
theorem dX2_init_18 : decode cX2_init 18 = .ok (.iconst 2, 1) := by decide +kernel
theorem dX2_init_19 : decode cX2_init 19 = .ok (.iconst 5, 1) := by decide +kernel
theorem dX2_init_20 : decode cX2_init 20 = .ok (.iastore, 1) := by decide +kernel
theorem dX2_init_21 : decode cX2_init 21 = .ok (.dup, 1) := by decide +kernel
theorem dX2_init_22 : decode cX2_init 22 = .ok (.iconst 3, 1) := by decide +kernel
theorem dX2_init_23 : decode cX2_init 23 = .ok (.iconst 0, 1) := by decide +kernel
theorem dX2_init_24 : decode cX2_init 24 = .ok (.iastore, 1) := by decide +kernel
theorem dX2_init_25 : decode cX2_init 25 = .ok (.putfield 9, 3) := by decide +kernel
theorem dX2_init_28 : decode cX2_init 28 = .ok (.aload_n 0, 1) := by decide +kernel
theorem dX2_init_29 : decode cX2_init 29 = .ok (.new 15, 3) := by decide +kernel
theorem dX2_init_32 : decode cX2_init 32 = .ok (.dup, 1) := by decide +kernel
theorem dX2_init_33 : decode cX2_init 33 = .ok (.invokespecial 17, 3) := by decide +kernel
theorem dX2_init_36 : decode cX2_init 36 = .ok (.putfield 18, 3) := by decide +kernel
theorem dX2_init_39 : decode cX2_init 39 = .ok (.aload_n 0, 1) := by decide +kernel
theorem dX2_init_40 : decode cX2_init 40 = .ok (.bipush 8, 2) := by decide +kernel
theorem dX2_init_42 : decode cX2_init 42 = .ok (.newarray .int, 2) := by decide +kernel
theorem dX2_init_44 : decode cX2_init 44 = .ok (.putfield 22, 3) := by decide +kernel
theorem dX2_init_47 : decode cX2_init 47 = .ok (.aload_n 0, 1) := by decide +kernel
theorem dX2_init_48 : decode cX2_init 48 = .ok (.bipush 8, 2) := by decide +kernel
theorem dX2_init_50 : decode cX2_init 50 = .ok (.newarray .int, 2) := by decide +kernel
theorem dX2_init_52 : decode cX2_init 52 = .ok (.putfield 25, 3) := by decide +kernel
theorem dX2_init_55 : decode cX2_init 55 = .ok (.aload_n 0, 1) := by decide +kernel
theorem dX2_init_56 : decode cX2_init 56 = .ok (.bipush 8, 2) := by decide +kernel
theorem dX2_init_58 : decode cX2_init 58 = .ok (.newarray .int, 2) := by decide +kernel
theorem dX2_init_60 : decode cX2_init 60 = .ok (.putfield 28, 3) := by decide +kernel
theorem dX2_init_63 : decode cX2_init 63 = .ok (.aload_n 0, 1) := by decide +kernel
theorem dX2_init_64 : decode cX2_init 64 = .ok (.bipush 8, 2) := by decide +kernel
theorem dX2_init_66 : decode cX2_init 66 = .ok (.newarray .int, 2) := by decide +kernel
theorem dX2_init_68 : decode cX2_init 68 = .ok (.putfield 31, 3) := by decide +kernel
theorem dX2_init_71 : decode cX2_init 71 = .ok (.aload_n 0, 1) := by decide +kernel
theorem dX2_init_72 : decode cX2_init 72 = .ok (.bipush 8, 2) := by decide +kernel
theorem dX2_init_74 : decode cX2_init 74 = .ok (.newarray .int, 2) := by decide +kernel
theorem dX2_init_76 : decode cX2_init 76 = .ok (.putfield 34, 3) := by decide +kernel
theorem dX2_init_79 : decode cX2_init 79 = .ok (.aload_n 0, 1) := by decide +kernel
theorem dX2_init_80 : decode cX2_init 80 = .ok (.bipush 8, 2) := by decide +kernel
theorem dX2_init_82 : decode cX2_init 82 = .ok (.newarray .int, 2) := by decide +kernel
theorem dX2_init_84 : decode cX2_init 84 = .ok (.putfield 37, 3) := by decide +kernel
theorem dX2_init_87 : decode cX2_init 87 = .ok (.aload_n 0, 1) := by decide +kernel
theorem dX2_init_88 : decode cX2_init 88 = .ok (.bipush 32, 2) := by decide +kernel
theorem dX2_init_90 : decode cX2_init 90 = .ok (.newarray .int, 2) := by decide +kernel
theorem dX2_init_92 : decode cX2_init 92 = .ok (.putfield 40, 3) := by decide +kernel
theorem dX2_init_95 : decode cX2_init 95 = .ok (.aload_n 0, 1) := by decide +kernel
theorem dX2_init_96 : decode cX2_init 96 = .ok (.bipush 32, 2) := by decide +kernel
theorem dX2_init_98 : decode cX2_init 98 = .ok (.newarray .int, 2) := by decide +kernel
theorem dX2_init_100 : decode cX2_init 100 = .ok (.putfield 43, 3) := by decide +kernel
theorem dX2_init_103 : decode cX2_init 103 = .ok (.return_, 1) := by decide +kernel
theorem dX2_copyFrom_0 : decode cX2_copyFrom 0 = .ok (.aload_n 0, 1) := by decide +kernel
theorem dX2_copyFrom_1 : decode cX2_copyFrom 1 = .ok (.aload_n 1, 1) := by decide +kernel
theorem dX2_copyFrom_2 : decode cX2_copyFrom 2 = .ok (.getfield 46, 3) := by decide +kernel
theorem dX2_copyFrom_5 : decode cX2_copyFrom 5 = .ok (.putfield 46, 3) := by decide +kernel
theorem dX2_copyFrom_8 : decode cX2_copyFrom 8 = .ok (.aload_n 0, 1) := by decide +kernel
theorem dX2_copyFrom_9 : decode cX2_copyFrom 9 = .ok (.aload_n 1, 1) := by decide +kernel
theorem dX2_copyFrom_10 : decode cX2_copyFrom 10 = .ok (.getfield 50, 3) := by decide +kernel
theorem dX2_copyFrom_13 : decode cX2_copyFrom 13 = .ok (.putfield 50, 3) := by decide +kernel
theorem dX2_copyFrom_16 : decode cX2_copyFrom 16 = .ok (.aload_n 0, 1) := by decide +kernel
theorem dX2_copyFrom_17 : decode cX2_copyFrom 17 = .ok (.aload_n 1, 1) := by decide +kernel
theorem dX2_copyFrom_18 : decode cX2_copyFrom 18 = .ok (.getfield 53, 3) := by decide +kernel
theorem dX2_copyFrom_21 : decode cX2_copyFrom 21 = .ok (.putfield 53, 3) := by decide +kernel
theorem dX2_copyFrom_24 : decode cX2_copyFrom 24 = .ok (.aload_n 0, 1) := by decide +kernel
theorem dX2_copyFrom_25 : decode cX2_copyFrom 25 = .ok (.aload_n 1, 1) := by decide +kernel
theorem dX2_copyFrom_26 : decode cX2_copyFrom 26 = .ok (.getfield 56, 3) := by decide +kernel
theorem dX2_copyFrom_29 : decode cX2_copyFrom 29 = .ok (.putfield 56, 3) := by decide +kernel
theorem dX2_copyFrom_32 : decode cX2_copyFrom 32 = .ok (.aload_n 1, 1) := by decide +kernel
theorem dX2_copyFrom_33 : decode cX2_copyFrom 33 = .ok (.getfield 9, 3) := by decide +kernel
theorem dX2_copyFrom_36 : decode cX2_copyFrom 36 = .ok (.iconst 0, 1) := by decide +kernel
theorem dX2_copyFrom_37 : decode cX2_copyFrom 37 = .ok (.aload_n 0, 1) := by decide +kernel
theorem dX2_copyFrom_38 : decode cX2_copyFrom 38 = .ok (.getfield 9, 3) := by decide +kernel
theorem dX2_copyFrom_41 : decode cX2_copyFrom 41 = .ok (.iconst 0, 1) := by decide +kernel
theorem dX2_copyFrom_42 : decode cX2_copyFrom 42 = .ok (.iconst 4, 1) := by decide +kernel
theorem dX2_copyFrom_43 : decode cX2_copyFrom 43 = .ok (.invokestatic 59, 3) := by decide +kernel
theorem dX2_copyFrom_46 : decode cX2_copyFrom 46 = .ok (.aload_n 0, 1) := by decide +kernel
theorem dX2_copyFrom_47 : decode cX2_copyFrom 47 = .ok (.getfield 18, 3) := by decide +kernel
theorem dX2_copyFrom_50 : decode cX2_copyFrom 50 = .ok (.aload_n 1, 1) := by decide +kernel
theorem dX2_copyFrom_51 : decode cX2_copyFrom 51 = .ok (.getfield 18, 3) := by decide +kernel
theorem dX2_copyFrom_54 : decode cX2_copyFrom 54 = .ok (.invokevirtual 65, 3) := by decide +kernel
theorem dX2_copyFrom_57 : decode cX2_copyFrom 57 = .ok (.aload_n 1, 1) := by decide +kernel
theorem dX2_copyFrom_58 : decode cX2_copyFrom 58 = .ok (.getfield 22, 3) := by decide +kernel
theorem dX2_copyFrom_61 : decode cX2_copyFrom 61 = .ok (.iconst 0, 1) := by decide +kernel
theorem dX2_copyFrom_62 : decode cX2_copyFrom 62 = .ok (.aload_n 0, 1) := by decide +kernel
theorem dX2_copyFrom_63 : decode cX2_copyFrom 63 = .ok (.getfield 22, 3) := by decide +kernel
theorem dX2_copyFrom_66 : decode cX2_copyFrom 66 = .ok (.iconst 0, 1) := by decide +kernel
theorem dX2_copyFrom_67 : decode cX2_copyFrom 67 = .ok (.bipush 8, 2) := by decide +kernel
theorem dX2_copyFrom_69 : decode cX2_copyFrom 69 = .ok (.invokestatic 59, 3) := by decide +kernel
theorem dX2_copyFrom_72 : decode cX2_copyFrom 72 = .ok (.aload_n 1, 1) := by decide +kernel
theorem dX2_copyFrom_73 : decode cX2_copyFrom 73 = .ok (.getfield 25, 3) := by decide +kernel
theorem dX2_copyFrom_76 : decode cX2_copyFrom 76 = .ok (.iconst 0, 1) := by decide +kernel
theorem dX2_copyFrom_77 : decode cX2_copyFrom 77 = .ok (.aload_n 0, 1) := by decide +kernel
theorem dX2_copyFrom_78 : decode cX2_copyFrom 78 = .ok (.getfield 25, 3) := by decide +kernel
theorem dX2_copyFrom_81 : decode cX2_copyFrom 81 = .ok (.iconst 0, 1) := by decide +kernel
theorem dX2_copyFrom_82 : decode cX2_copyFrom 82 = .ok (.bipush 8, 2) := by decide +kernel
theorem dX2_copyFrom_84 : decode cX2_copyFrom 84 = .ok (.invokestatic 59, 3) := by decide +kernel
theorem dX2_copyFrom_87 : decode cX2_copyFrom 87 = .ok (.aload_n 1, 1) := by decide +kernel
theorem dX2_copyFrom_88 : decode cX2_copyFrom 88 = .ok (.getfield 28, 3) := by decide +kernel
theorem dX2_copyFrom_91 : decode cX2_copyFrom 91 = .ok (.iconst 0, 1) := by decide +kernel
theorem dX2_copyFrom_92 : decode cX2_copyFrom 92 = .ok (.aload_n 0, 1) := by decide +kernel
theorem dX2_copyFrom_93 : decode cX2_copyFrom 93 = .ok (.getfield 28, 3) := by decide +kernel
theorem dX2_copyFrom_96 : decode cX2_copyFrom 96 = .ok (.iconst 0, 1) := by decide +kernel
theorem dX2_copyFrom_97 : decode cX2_copyFrom 97 = .ok (.bipush 8, 2) := by decide +kernel
theorem dX2_copyFrom_99 : decode cX2_copyFrom 99 = .ok (.invokestatic 59, 3) := by decide +kernel
theorem dX2_copyFrom_102 : decode cX2_copyFrom 102 = .ok (.aload_n 1, 1) := by decide +kernel
theorem dX2_copyFrom_103 : decode cX2_copyFrom 103 = .ok (.getfield 31, 3) := by decide +kernel
theorem dX2_copyFrom_106 : decode cX2_copyFrom 106 = .ok (.iconst 0, 1) := by decide +kernel
theorem dX2_copyFrom_107 : decode cX2_copyFrom 107 = .ok (.aload_n 0, 1) := by decide +kernel
theorem dX2_copyFrom_108 : decode cX2_copyFrom 108 = .ok (.getfield 31, 3) := by decide +kernel
theorem dX2_copyFrom_111 : decode cX2_copyFrom 111 = .ok (.iconst 0, 1) := by decide +kernel
theorem dX2_copyFrom_112 : decode cX2_copyFrom 112 = .ok (.bipush 8, 2) := by decide +kernel
theorem dX2_copyFrom_114 : decode cX2_copyFrom 114 = .ok (.invokestatic 59, 3) := by decide +kernel
theorem dX2_copyFrom_117 : decode cX2_copyFrom 117 = .ok (.aload_n 1, 1) := by decide +kernel
theorem dX2_copyFrom_118 : decode cX2_copyFrom 118 = .ok (.getfield 34, 3) := by decide +kernel
theorem dX2_copyFrom_121 : decode cX2_copyFrom 121 = .ok (.iconst 0, 1) := by decide +kernel
theorem dX2_copyFrom_122 : decode cX2_copyFrom 122 = .ok (.aload_n 0, 1) := by decide +kernel
theorem dX2_copyFrom_123 : decode cX2_copyFrom 123 = .ok (.getfield 34, 3) := by decide +kernel
theorem dX2_copyFrom_126 : decode cX2_copyFrom 126 = .ok (.iconst 0, 1) := by decide +kernel
theorem dX2_copyFrom_127 : decode cX2_copyFrom 127 = .ok (.bipush 8, 2) := by decide +kernel
theorem dX2_copyFrom_129 : decode cX2_copyFrom 129 = .ok (.invokestatic 59, 3) := by decide +kernel
theorem dX2_copyFrom_132 : decode cX2_copyFrom 132 = .ok (.aload_n 1, 1) := by decide +kernel
theorem dX2_copyFrom_133 : decode cX2_copyFrom 133 = .ok (.getfield 37, 3) := by decide +kernel
theorem dX2_copyFrom_136 : decode cX2_copyFrom 136 = .ok (.iconst 0, 1) := by decide +kernel
theorem dX2_copyFrom_137 : decode cX2_copyFrom 137 = .ok (.aload_n 0, 1) := by decide +kernel
theorem dX2_copyFrom_138 : decode cX2_copyFrom 138 = .ok (.getfield 37, 3) := by decide +kernel
theorem dX2_copyFrom_141 : decode cX2_copyFrom 141 = .ok (.iconst 0, 1) := by decide +kernel
theorem dX2_copyFrom_142 : decode cX2_copyFrom 142 = .ok (.bipush 8, 2) := by decide +kernel
theorem dX2_copyFrom_144 : decode cX2_copyFrom 144 = .ok (.invokestatic 59, 3) := by decide +kernel
theorem dX2_copyFrom_147 : decode cX2_copyFrom 147 = .ok (.aload_n 1, 1) := by decide +kernel
theorem dX2_copyFrom_148 : decode cX2_copyFrom 148 = .ok (.getfield 40, 3) := by decide +kernel
theorem dX2_copyFrom_151 : decode cX2_copyFrom 151 = .ok (.iconst 0, 1) := by decide +kernel
theorem dX2_copyFrom_152 : decode cX2_copyFrom 152 = .ok (.aload_n 0, 1) := by decide +kernel
theorem dX2_copyFrom_153 : decode cX2_copyFrom 153 = .ok (.getfield 40, 3) := by decide +kernel
theorem dX2_copyFrom_156 : decode cX2_copyFrom 156 = .ok (.iconst 0, 1) := by decide +kernel
theorem dX2_copyFrom_157 : decode cX2_copyFrom 157 = .ok (.bipush 32, 2) := by decide +kernel
theorem dX2_copyFrom_159 : decode cX2_copyFrom 159 = .ok (.invokestatic 59, 3) := by decide +kernel
theorem dX2_copyFrom_162 : decode cX2_copyFrom 162 = .ok (.aload_n 1, 1) := by decide +kernel
theorem dX2_copyFrom_163 : decode cX2_copyFrom 163 = .ok (.getfield 43, 3) := by decide +kernel
theorem dX2_copyFrom_166 : decode cX2_copyFrom 166 = .ok (.iconst 0, 1) := by decide +kernel
theorem dX2_copyFrom_167 : decode cX2_copyFrom 167 = .ok (.aload_n 0, 1) := by decide +kernel
theorem dX2_copyFrom_168 : decode cX2_copyFrom 168 = .ok (.getfield 43, 3) := by decide +kernel
theorem dX2_copyFrom_171 : decode cX2_copyFrom 171 = .ok (.iconst 0, 1) := by decide +kernel
theorem dX2_copyFrom_172 : decode cX2_copyFrom 172 = .ok (.bipush 32, 2) := by decide +kernel
theorem dX2_copyFrom_174 : decode cX2_copyFrom 174 = .ok (.invokestatic 59, 3) := by decide +kernel
theorem dX2_copyFrom_177 : decode cX2_copyFrom 177 = .ok (.return_, 1) := by decide +kernel
theorem dX2_isDeal_0 : decode cX2_isDeal 0 = .ok (.iload_n 1, 1) := by decide +kernel
theorem dX2_isDeal_1 : decode cX2_isDeal 1 = .ok (.ifCond .lt 15, 3) := by decide +kernel
theorem dX2_isDeal_4 : decode cX2_isDeal 4 = .ok (.iload_n 1, 1) := by decide +kernel
theorem dX2_isDeal_5 : decode cX2_isDeal 5 = .ok (.aload_n 0, 1) := by decide +kernel
theorem dX2_isDeal_6 : decode cX2_isDeal 6 = .ok (.getfield 56, 3) := by decide +kernel
theorem dX2_isDeal_9 : decode cX2_isDeal 9 = .ok (.if_icmp .ge 7, 3) := by decide +kernel
theorem dX2_isDeal_12 : decode cX2_isDeal 12 = .ok (.iconst 1, 1) := by decide +kernel
theorem dX2_isDeal_13 : decode cX2_isDeal 13 = .ok (.goto 4, 3) := by decide +kernel
theorem dX2_isDeal_16 : decode cX2_isDeal 16 = .ok (.iconst 0, 1) := by decide +kernel
theorem dX2_isDeal_17 : decode cX2_isDeal 17 = .ok (.ireturn, 1) := by decide +kernel
theorem dX2_isClerk_0 : decode cX2_isClerk 0 = .ok (.iload_n 0, 1) := by decide +kernel
theorem dX2_isClerk_1 : decode cX2_isClerk 1 = .ok (.ifCond .lt 12, 3) := by decide +kernel
theorem dX2_isClerk_4 : decode cX2_isClerk 4 = .ok (.iload_n 0, 1) := by decide +kernel
theorem dX2_isClerk_5 : decode cX2_isClerk 5 = .ok (.iconst 4, 1) := by decide +kernel
theorem dX2_isClerk_6 : decode cX2_isClerk 6 = .ok (.if_icmp .ge 7, 3) := by decide +kernel
theorem dX2_isClerk_9 : decode cX2_isClerk 9 = .ok (.iconst 1, 1) := by decide +kernel
theorem dX2_isClerk_10 : decode cX2_isClerk 10 = .ok (.goto 4, 3) := by decide +kernel
theorem dX2_isClerk_13 : decode cX2_isClerk 13 = .ok (.iconst 0, 1) := by decide +kernel
theorem dX2_isClerk_14 : decode cX2_isClerk 14 = .ok (.ireturn, 1) := by decide +kernel
theorem dX2_isSomebody_0 : decode cX2_isSomebody 0 = .ok (.iload_n 0, 1) := by decide +kernel
theorem dX2_isSomebody_1 : decode cX2_isSomebody 1 = .ok (.ifCond .lt 12, 3) := by decide +kernel
theorem dX2_isSomebody_4 : decode cX2_isSomebody 4 = .ok (.iload_n 0, 1) := by decide +kernel
theorem dX2_isSomebody_5 : decode cX2_isSomebody 5 = .ok (.iconst 5, 1) := by decide +kernel
theorem dX2_isSomebody_6 : decode cX2_isSomebody 6 = .ok (.if_icmp .ge 7, 3) := by decide +kernel
theorem dX2_isSomebody_9 : decode cX2_isSomebody 9 = .ok (.iconst 1, 1) := by decide +kernel
theorem dX2_isSomebody_10 : decode cX2_isSomebody 10 = .ok (.goto 4, 3) := by decide +kernel
theorem dX2_isSomebody_13 : decode cX2_isSomebody 13 = .ok (.iconst 0, 1) := by decide +kernel
theorem dX2_isSomebody_14 : decode cX2_isSomebody 14 = .ok (.ireturn, 1) := by decide +kernel
theorem dX2_isIll_0 : decode cX2_isIll 0 = .ok (.aload_n 0, 1) := by decide +kernel
theorem dX2_isIll_1 : decode cX2_isIll 1 = .ok (.getfield 50, 3) := by decide +kernel
theorem dX2_isIll_4 : decode cX2_isIll 4 = .ok (.iload_n 1, 1) := by decide +kernel
theorem dX2_isIll_5 : decode cX2_isIll 5 = .ok (.invokestatic 69, 3) := by decide +kernel
theorem dX2_isIll_8 : decode cX2_isIll 8 = .ok (.ireturn, 1) := by decide +kernel
theorem dX2_whoStand_0 : decode cX2_whoStand 0 = .ok (.aload_n 0, 1) := by decide +kernel
theorem dX2_whoStand_1 : decode cX2_whoStand 1 = .ok (.getfield 40, 3) := by decide +kernel
theorem dX2_whoStand_4 : decode cX2_whoStand 4 = .ok (.iload_n 1, 1) := by decide +kernel
theorem dX2_whoStand_5 : decode cX2_whoStand 5 = .ok (.iconst 4, 1) := by decide +kernel
theorem dX2_whoStand_6 : decode cX2_whoStand 6 = .ok (.imul, 1) := by decide +kernel
theorem dX2_whoStand_7 : decode cX2_whoStand 7 = .ok (.iload_n 2, 1) := by decide +kernel
theorem dX2_whoStand_8 : decode cX2_whoStand 8 = .ok (.iadd, 1) := by decide +kernel
theorem dX2_whoStand_9 : decode cX2_whoStand 9 = .ok (.iaload, 1) := by decide +kernel
theorem dX2_whoStand_10 : decode cX2_whoStand 10 = .ok (.ireturn, 1) := by decide +kernel
theorem dX2_stands_0 : decode cX2_stands 0 = .ok (.aload_n 0, 1) := by decide +kernel
theorem dX2_stands_1 : decode cX2_stands 1 = .ok (.iload_n 1, 1) := by decide +kernel
theorem dX2_stands_2 : decode cX2_stands 2 = .ok (.iload_n 3, 1) := by decide +kernel
theorem dX2_stands_3 : decode cX2_stands 3 = .ok (.invokevirtual 73, 3) := by decide +kernel
theorem dX2_stands_6 : decode cX2_stands 6 = .ok (.iload_n 2, 1) := by decide +kernel
theorem dX2_stands_7 : decode cX2_stands 7 = .ok (.invokestatic 69, 3) := by decide +kernel
theorem dX2_stands_10 : decode cX2_stands 10 = .ok (.ireturn, 1) := by decide +kernel
theorem dX2_move_0 : decode cX2_move 0 = .ok (.aload_n 0, 1) := by decide +kernel
theorem dX2_move_1 : decode cX2_move 1 = .ok (.getfield 40, 3) := by decide +kernel
theorem dX2_move_4 : decode cX2_move 4 = .ok (.iload_n 1, 1) := by decide +kernel
theorem dX2_move_5 : decode cX2_move 5 = .ok (.iconst 4, 1) := by decide +kernel
theorem dX2_move_6 : decode cX2_move 6 = .ok (.imul, 1) := by decide +kernel
theorem dX2_move_7 : decode cX2_move 7 = .ok (.iload_n 3, 1) := by decide +kernel
theorem dX2_move_8 : decode cX2_move 8 = .ok (.iadd, 1) := by decide +kernel
theorem dX2_move_9 : decode cX2_move 9 = .ok (.dup2, 1) := by decide +kernel
theorem dX2_move_10 : decode cX2_move 10 = .ok (.iaload, 1) := by decide +kernel
theorem dX2_move_11 : decode cX2_move 11 = .ok (.iconst 1, 1) := by decide +kernel
theorem dX2_move_12 : decode cX2_move 12 = .ok (.iload_n 2, 1) := by decide +kernel
theorem dX2_move_13 : decode cX2_move 13 = .ok (.ishl, 1) := by decide +kernel
theorem dX2_move_14 : decode cX2_move 14 = .ok (.iconst (-1), 1) := by decide +kernel
theorem dX2_move_15 : decode cX2_move 15 = .ok (.ixor, 1) := by decide +kernel
theorem dX2_move_16 : decode cX2_move 16 = .ok (.iand, 1) := by decide +kernel
theorem dX2_move_17 : decode cX2_move 17 = .ok (.iastore, 1) := by decide +kernel
theorem dX2_move_18 : decode cX2_move 18 = .ok (.aload_n 0, 1) := by decide +kernel
theorem dX2_move_19 : decode cX2_move 19 = .ok (.getfield 40, 3) := by decide +kernel
theorem dX2_move_22 : decode cX2_move 22 = .ok (.iload_n 1, 1) := by decide +kernel
theorem dX2_move_23 : decode cX2_move 23 = .ok (.iconst 4, 1) := by decide +kernel
theorem dX2_move_24 : decode cX2_move 24 = .ok (.imul, 1) := by decide +kernel
theorem dX2_move_25 : decode cX2_move 25 = .ok (.iload 4, 2) := by decide +kernel
theorem dX2_move_27 : decode cX2_move 27 = .ok (.iadd, 1) := by decide +kernel
theorem dX2_move_28 : decode cX2_move 28 = .ok (.dup2, 1) := by decide +kernel
theorem dX2_move_29 : decode cX2_move 29 = .ok (.iaload, 1) := by decide +kernel
theorem dX2_move_30 : decode cX2_move 30 = .ok (.iconst 1, 1) := by decide +kernel
theorem dX2_move_31 : decode cX2_move 31 = .ok (.iload_n 2, 1) := by decide +kernel
theorem dX2_move_32 : decode cX2_move 32 = .ok (.ishl, 1) := by decide +kernel
theorem dX2_move_33 : decode cX2_move 33 = .ok (.ior, 1) := by decide +kernel
theorem dX2_move_34 : decode cX2_move 34 = .ok (.iastore, 1) := by decide +kernel
theorem dX2_move_35 : decode cX2_move 35 = .ok (.return_, 1) := by decide +kernel
theorem dX2_changeSetting_0 : decode cX2_changeSetting 0 = .ok (.iload_n 1, 1) := by decide +kernel
theorem dX2_changeSetting_1 : decode cX2_changeSetting 1 = .ok (.ifCond .lt 26, 3) := by decide +kernel
theorem dX2_changeSetting_4 : decode cX2_changeSetting 4 = .ok (.iload_n 1, 1) := by decide +kernel
theorem dX2_changeSetting_5 : decode cX2_changeSetting 5 = .ok (.iconst 4, 1) := by decide +kernel
theorem dX2_changeSetting_6 : decode cX2_changeSetting 6 = .ok (.if_icmp .ge 21, 3) := by decide +kernel
theorem dX2_changeSetting_9 : decode cX2_changeSetting 9 = .ok (.iload_n 2, 1) := by decide +kernel
theorem dX2_changeSetting_10 : decode cX2_changeSetting 10 = .ok (.getstatic 77, 3) := by decide +kernel
theorem dX2_changeSetting_13 : decode cX2_changeSetting 13 = .ok (.iload_n 1, 1) := by decide +kernel
theorem dX2_changeSetting_14 : decode cX2_changeSetting 14 = .ok (.iaload, 1) := by decide +kernel
theorem dX2_changeSetting_15 : decode cX2_changeSetting 15 = .ok (.if_icmp .lt 12, 3) := by decide +kernel
theorem dX2_changeSetting_18 : decode cX2_changeSetting 18 = .ok (.iload_n 2, 1) := by decide +kernel
theorem dX2_changeSetting_19 : decode cX2_changeSetting 19 = .ok (.getstatic 80, 3) := by decide +kernel
theorem dX2_changeSetting_22 : decode cX2_changeSetting 22 = .ok (.iload_n 1, 1) := by decide +kernel
theorem dX2_changeSetting_23 : decode cX2_changeSetting 23 = .ok (.iaload, 1) := by decide +kernel
theorem dX2_changeSetting_24 : decode cX2_changeSetting 24 = .ok (.if_icmp .le 6, 3) := by decide +kernel
theorem dX2_changeSetting_27 : decode cX2_changeSetting 27 = .ok (.bipush (-2), 2) := by decide +kernel
theorem dX2_changeSetting_29 : decode cX2_changeSetting 29 = .ok (.ireturn, 1) := by decide +kernel
theorem dX2_changeSetting_30 : decode cX2_changeSetting 30 = .ok (.aload_n 0, 1) := by decide +kernel
theorem dX2_changeSetting_31 : decode cX2_changeSetting 31 = .ok (.getfield 9, 3) := by decide +kernel
theorem dX2_changeSetting_34 : decode cX2_changeSetting 34 = .ok (.iload_n 1, 1) := by decide +kernel
theorem dX2_changeSetting_35 : decode cX2_changeSetting 35 = .ok (.iaload, 1) := by decide +kernel
theorem dX2_changeSetting_36 : decode cX2_changeSetting 36 = .ok (.istore_n 3, 1) := by decide +kernel
theorem dX2_changeSetting_37 : decode cX2_changeSetting 37 = .ok (.aload_n 0, 1) := by decide +kernel
theorem dX2_changeSetting_38 : decode cX2_changeSetting 38 = .ok (.getfield 9, 3) := by decide +kernel
theorem dX2_changeSetting_41 : decode cX2_changeSetting 41 = .ok (.iload_n 1, 1) := by decide +kernel
theorem dX2_changeSetting_42 : decode cX2_changeSetting 42 = .ok (.iload_n 2, 1) := by decide +kernel
theorem dX2_changeSetting_43 : decode cX2_changeSetting 43 = .ok (.iastore, 1) := by decide +kernel
theorem dX2_changeSetting_44 : decode cX2_changeSetting 44 = .ok (.iload_n 3, 1) := by decide +kernel
theorem dX2_changeSetting_45 : decode cX2_changeSetting 45 = .ok (.ireturn, 1) := by decide +kernel
theorem dX2_makeWilling_0 : decode cX2_makeWilling 0 = .ok (.iload_n 1, 1) := by decide +kernel
theorem dX2_makeWilling_1 : decode cX2_makeWilling 1 = .ok (.invokestatic 83, 3) := by decide +kernel
theorem dX2_makeWilling_4 : decode cX2_makeWilling 4 = .ok (.ifCond .ne 5, 3) := by decide +kernel
theorem dX2_makeWilling_7 : decode cX2_makeWilling 7 = .ok (.iconst (-1), 1) := by decide +kernel
theorem dX2_makeWilling_8 : decode cX2_makeWilling 8 = .ok (.ireturn, 1) := by decide +kernel
theorem dX2_makeWilling_9 : decode cX2_makeWilling 9 = .ok (.iload_n 2, 1) := by decide +kernel
theorem dX2_makeWilling_10 : decode cX2_makeWilling 10 = .ok (.ifCond .eq 11, 3) := by decide +kernel
theorem dX2_makeWilling_13 : decode cX2_makeWilling 13 = .ok (.iload_n 2, 1) := by decide +kernel
theorem dX2_makeWilling_14 : decode cX2_makeWilling 14 = .ok (.iconst 1, 1) := by decide +kernel
theorem dX2_makeWilling_15 : decode cX2_makeWilling 15 = .ok (.if_icmp .eq 6, 3) := by decide +kernel
theorem dX2_makeWilling_18 : decode cX2_makeWilling 18 = .ok (.bipush (-2), 2) := by decide +kernel
theorem dX2_makeWilling_20 : decode cX2_makeWilling 20 = .ok (.ireturn, 1) := by decide +kernel
theorem dX2_makeWilling_21 : decode cX2_makeWilling 21 = .ok (.aload_n 0, 1) := by decide +kernel
theorem dX2_makeWilling_22 : decode cX2_makeWilling 22 = .ok (.getfield 53, 3) := by decide +kernel
theorem dX2_makeWilling_25 : decode cX2_makeWilling 25 = .ok (.iload_n 1, 1) := by decide +kernel
theorem dX2_makeWilling_26 : decode cX2_makeWilling 26 = .ok (.invokestatic 69, 3) := by decide +kernel
theorem dX2_makeWilling_29 : decode cX2_makeWilling 29 = .ok (.ifCond .eq 7, 3) := by decide +kernel
theorem dX2_makeWilling_32 : decode cX2_makeWilling 32 = .ok (.iconst 0, 1) := by decide +kernel
theorem dX2_makeWilling_33 : decode cX2_makeWilling 33 = .ok (.goto 4, 3) := by decide +kernel
theorem dX2_makeWilling_36 : decode cX2_makeWilling 36 = .ok (.iconst 1, 1) := by decide +kernel
theorem dX2_makeWilling_37 : decode cX2_makeWilling 37 = .ok (.istore_n 3, 1) := by decide +kernel
theorem dX2_makeWilling_38 : decode cX2_makeWilling 38 = .ok (.iload_n 2, 1) := by decide +kernel
theorem dX2_makeWilling_39 : decode cX2_makeWilling 39 = .ok (.iconst 1, 1) := by decide +kernel
theorem dX2_makeWilling_40 : decode cX2_makeWilling 40 = .ok (.if_icmp .ne 20, 3) := by decide +kernel
theorem dX2_makeWilling_43 : decode cX2_makeWilling 43 = .ok (.aload_n 0, 1) := by decide +kernel
theorem dX2_makeWilling_44 : decode cX2_makeWilling 44 = .ok (.dup, 1) := by decide +kernel
theorem dX2_makeWilling_45 : decode cX2_makeWilling 45 = .ok (.getfield 53, 3) := by decide +kernel
theorem dX2_makeWilling_48 : decode cX2_makeWilling 48 = .ok (.iconst 1, 1) := by decide +kernel
theorem dX2_makeWilling_49 : decode cX2_makeWilling 49 = .ok (.iload_n 1, 1) := by decide +kernel
theorem dX2_makeWilling_50 : decode cX2_makeWilling 50 = .ok (.ishl, 1) := by decide +kernel
theorem dX2_makeWilling_51 : decode cX2_makeWilling 51 = .ok (.iconst (-1), 1) := by decide +kernel
theorem dX2_makeWilling_52 : decode cX2_makeWilling 52 = .ok (.ixor, 1) := by decide +kernel
theorem dX2_makeWilling_53 : decode cX2_makeWilling 53 = .ok (.iand, 1) := by decide +kernel
theorem dX2_makeWilling_54 : decode cX2_makeWilling 54 = .ok (.putfield 53, 3) := by decide +kernel
theorem dX2_makeWilling_57 : decode cX2_makeWilling 57 = .ok (.goto 15, 3) := by decide +kernel
theorem dX2_makeWilling_60 : decode cX2_makeWilling 60 = .ok (.aload_n 0, 1) := by decide +kernel
theorem dX2_makeWilling_61 : decode cX2_makeWilling 61 = .ok (.dup, 1) := by decide +kernel
theorem dX2_makeWilling_62 : decode cX2_makeWilling 62 = .ok (.getfield 53, 3) := by decide +kernel
theorem dX2_makeWilling_65 : decode cX2_makeWilling 65 = .ok (.iconst 1, 1) := by decide +kernel
theorem dX2_makeWilling_66 : decode cX2_makeWilling 66 = .ok (.iload_n 1, 1) := by decide +kernel
theorem dX2_makeWilling_67 : decode cX2_makeWilling 67 = .ok (.ishl, 1) := by decide +kernel
theorem dX2_makeWilling_68 : decode cX2_makeWilling 68 = .ok (.ior, 1) := by decide +kernel
theorem dX2_makeWilling_69 : decode cX2_makeWilling 69 = .ok (.putfield 53, 3) := by decide +kernel
theorem dX2_makeWilling_72 : decode cX2_makeWilling 72 = .ok (.iload_n 3, 1) := by decide +kernel
theorem dX2_makeWilling_73 : decode cX2_makeWilling 73 = .ok (.ireturn, 1) := by decide +kernel
theorem dX2_openDeal_0 : decode cX2_openDeal 0 = .ok (.iload_n 1, 1) := by decide +kernel
theorem dX2_openDeal_1 : decode cX2_openDeal 1 = .ok (.iconst 1, 1) := by decide +kernel
theorem dX2_openDeal_2 : decode cX2_openDeal 2 = .ok (.if_icmp .lt 9, 3) := by decide +kernel
theorem dX2_openDeal_5 : decode cX2_openDeal 5 = .ok (.iload_n 1, 1) := by decide +kernel
theorem dX2_openDeal_6 : decode cX2_openDeal 6 = .ok (.bipush 15, 2) := by decide +kernel
theorem dX2_openDeal_8 : decode cX2_openDeal 8 = .ok (.if_icmp .le 6, 3) := by decide +kernel
theorem dX2_openDeal_11 : decode cX2_openDeal 11 = .ok (.bipush (-2), 2) := by decide +kernel
theorem dX2_openDeal_13 : decode cX2_openDeal 13 = .ok (.ireturn, 1) := by decide +kernel
theorem dX2_openDeal_14 : decode cX2_openDeal 14 = .ok (.aload_n 0, 1) := by decide +kernel
theorem dX2_openDeal_15 : decode cX2_openDeal 15 = .ok (.getfield 56, 3) := by decide +kernel
theorem dX2_openDeal_18 : decode cX2_openDeal 18 = .ok (.bipush 8, 2) := by decide +kernel
theorem dX2_openDeal_20 : decode cX2_openDeal 20 = .ok (.if_icmp .lt 6, 3) := by decide +kernel
theorem dX2_openDeal_23 : decode cX2_openDeal 23 = .ok (.bipush (-4), 2) := by decide +kernel
theorem dX2_openDeal_25 : decode cX2_openDeal 25 = .ok (.ireturn, 1) := by decide +kernel
theorem dX2_openDeal_26 : decode cX2_openDeal 26 = .ok (.aload_n 0, 1) := by decide +kernel
theorem dX2_openDeal_27 : decode cX2_openDeal 27 = .ok (.iconst 4, 1) := by decide +kernel
theorem dX2_openDeal_28 : decode cX2_openDeal 28 = .ok (.invokevirtual 87, 3) := by decide +kernel
theorem dX2_openDeal_31 : decode cX2_openDeal 31 = .ok (.ifCond .eq 6, 3) := by decide +kernel
theorem dX2_openDeal_34 : decode cX2_openDeal 34 = .ok (.bipush (-5), 2) := by decide +kernel
theorem dX2_openDeal_36 : decode cX2_openDeal 36 = .ok (.ireturn, 1) := by decide +kernel
theorem dX2_openDeal_37 : decode cX2_openDeal 37 = .ok (.aload_n 0, 1) := by decide +kernel
theorem dX2_openDeal_38 : decode cX2_openDeal 38 = .ok (.getfield 56, 3) := by decide +kernel
theorem dX2_openDeal_41 : decode cX2_openDeal 41 = .ok (.istore_n 2, 1) := by decide +kernel
theorem dX2_openDeal_42 : decode cX2_openDeal 42 = .ok (.aload_n 0, 1) := by decide +kernel
theorem dX2_openDeal_43 : decode cX2_openDeal 43 = .ok (.dup, 1) := by decide +kernel
theorem dX2_openDeal_44 : decode cX2_openDeal 44 = .ok (.getfield 56, 3) := by decide +kernel
theorem dX2_openDeal_47 : decode cX2_openDeal 47 = .ok (.iconst 1, 1) := by decide +kernel
theorem dX2_openDeal_48 : decode cX2_openDeal 48 = .ok (.iadd, 1) := by decide +kernel
theorem dX2_openDeal_49 : decode cX2_openDeal 49 = .ok (.putfield 56, 3) := by decide +kernel
theorem dX2_openDeal_52 : decode cX2_openDeal 52 = .ok (.aload_n 0, 1) := by decide +kernel
theorem dX2_openDeal_53 : decode cX2_openDeal 53 = .ok (.getfield 22, 3) := by decide +kernel
theorem dX2_openDeal_56 : decode cX2_openDeal 56 = .ok (.iload_n 2, 1) := by decide +kernel
theorem dX2_openDeal_57 : decode cX2_openDeal 57 = .ok (.iload_n 1, 1) := by decide +kernel
theorem dX2_openDeal_58 : decode cX2_openDeal 58 = .ok (.iastore, 1) := by decide +kernel
theorem dX2_openDeal_59 : decode cX2_openDeal 59 = .ok (.aload_n 0, 1) := by decide +kernel
theorem dX2_openDeal_60 : decode cX2_openDeal 60 = .ok (.getfield 28, 3) := by decide +kernel
theorem dX2_openDeal_63 : decode cX2_openDeal 63 = .ok (.iload_n 2, 1) := by decide +kernel
theorem dX2_openDeal_64 : decode cX2_openDeal 64 = .ok (.aload_n 0, 1) := by decide +kernel
theorem dX2_openDeal_65 : decode cX2_openDeal 65 = .ok (.getfield 46, 3) := by decide +kernel
theorem dX2_openDeal_68 : decode cX2_openDeal 68 = .ok (.iastore, 1) := by decide +kernel
theorem dX2_openDeal_69 : decode cX2_openDeal 69 = .ok (.aload_n 0, 1) := by decide +kernel
theorem dX2_openDeal_70 : decode cX2_openDeal 70 = .ok (.getfield 40, 3) := by decide +kernel
theorem dX2_openDeal_73 : decode cX2_openDeal 73 = .ok (.iload_n 2, 1) := by decide +kernel
theorem dX2_openDeal_74 : decode cX2_openDeal 74 = .ok (.iconst 4, 1) := by decide +kernel
theorem dX2_openDeal_75 : decode cX2_openDeal 75 = .ok (.imul, 1) := by decide +kernel
theorem dX2_openDeal_76 : decode cX2_openDeal 76 = .ok (.iconst 0, 1) := by decide +kernel
theorem dX2_openDeal_77 : decode cX2_openDeal 77 = .ok (.iadd, 1) := by decide +kernel
theorem dX2_openDeal_78 : decode cX2_openDeal 78 = .ok (.iload_n 1, 1) := by decide +kernel
theorem dX2_openDeal_79 : decode cX2_openDeal 79 = .ok (.iastore, 1) := by decide +kernel
theorem dX2_openDeal_80 : decode cX2_openDeal 80 = .ok (.aload_n 0, 1) := by decide +kernel
theorem dX2_openDeal_81 : decode cX2_openDeal 81 = .ok (.iconst 0, 1) := by decide +kernel
theorem dX2_openDeal_82 : decode cX2_openDeal 82 = .ok (.iload_n 2, 1) := by decide +kernel
theorem dX2_openDeal_83 : decode cX2_openDeal 83 = .ok (.iconst 4, 1) := by decide +kernel
theorem dX2_openDeal_84 : decode cX2_openDeal 84 = .ok (.iload_n 1, 1) := by decide +kernel
theorem dX2_openDeal_85 : decode cX2_openDeal 85 = .ok (.invokevirtual 90, 3) := by decide +kernel
theorem dX2_openDeal_88 : decode cX2_openDeal 88 = .ok (.iload_n 2, 1) := by decide +kernel
theorem dX2_openDeal_89 : decode cX2_openDeal 89 = .ok (.ireturn, 1) := by decide +kernel
theorem dX2_dropMessage_0 : decode cX2_dropMessage 0 = .ok (.aload_n 0, 1) := by decide +kernel
theorem dX2_dropMessage_1 : decode cX2_dropMessage 1 = .ok (.getfield 18, 3) := by decide +kernel
theorem dX2_dropMessage_4 : decode cX2_dropMessage 4 = .ok (.iload_n 1, 1) := by decide +kernel
theorem dX2_dropMessage_5 : decode cX2_dropMessage 5 = .ok (.invokevirtual 94, 3) := by decide +kernel
theorem dX2_dropMessage_8 : decode cX2_dropMessage 8 = .ok (.ifCond .ne 5, 3) := by decide +kernel
theorem dX2_dropMessage_11 : decode cX2_dropMessage 11 = .ok (.iconst (-1), 1) := by decide +kernel
theorem dX2_dropMessage_12 : decode cX2_dropMessage 12 = .ok (.ireturn, 1) := by decide +kernel
theorem dX2_dropMessage_13 : decode cX2_dropMessage 13 = .ok (.aload_n 0, 1) := by decide +kernel
theorem dX2_dropMessage_14 : decode cX2_dropMessage 14 = .ok (.getfield 18, 3) := by decide +kernel
theorem dX2_dropMessage_17 : decode cX2_dropMessage 17 = .ok (.iload_n 1, 1) := by decide +kernel
theorem dX2_dropMessage_18 : decode cX2_dropMessage 18 = .ok (.invokevirtual 97, 3) := by decide +kernel
theorem dX2_dropMessage_21 : decode cX2_dropMessage 21 = .ok (.aload_n 0, 1) := by decide +kernel
theorem dX2_dropMessage_22 : decode cX2_dropMessage 22 = .ok (.getfield 18, 3) := by decide +kernel
theorem dX2_dropMessage_25 : decode cX2_dropMessage 25 = .ok (.dup, 1) := by decide +kernel
theorem dX2_dropMessage_26 : decode cX2_dropMessage 26 = .ok (.getfield 101, 3) := by decide +kernel
theorem dX2_dropMessage_29 : decode cX2_dropMessage 29 = .ok (.iconst 1, 1) := by decide +kernel
theorem dX2_dropMessage_30 : decode cX2_dropMessage 30 = .ok (.iadd, 1) := by decide +kernel
theorem dX2_dropMessage_31 : decode cX2_dropMessage 31 = .ok (.putfield 101, 3) := by decide +kernel
theorem dX2_dropMessage_34 : decode cX2_dropMessage 34 = .ok (.aload_n 0, 1) := by decide +kernel
theorem dX2_dropMessage_35 : decode cX2_dropMessage 35 = .ok (.getfield 18, 3) := by decide +kernel
theorem dX2_dropMessage_38 : decode cX2_dropMessage 38 = .ok (.getfield 104, 3) := by decide +kernel
theorem dX2_dropMessage_41 : decode cX2_dropMessage 41 = .ok (.ireturn, 1) := by decide +kernel
theorem dX2_repeatMessage_0 : decode cX2_repeatMessage 0 = .ok (.aload_n 0, 1) := by decide +kernel
theorem dX2_repeatMessage_1 : decode cX2_repeatMessage 1 = .ok (.getfield 18, 3) := by decide +kernel
theorem dX2_repeatMessage_4 : decode cX2_repeatMessage 4 = .ok (.iload_n 1, 1) := by decide +kernel
theorem dX2_repeatMessage_5 : decode cX2_repeatMessage 5 = .ok (.invokevirtual 94, 3) := by decide +kernel
theorem dX2_repeatMessage_8 : decode cX2_repeatMessage 8 = .ok (.ifCond .ne 5, 3) := by decide +kernel
theorem dX2_repeatMessage_11 : decode cX2_repeatMessage 11 = .ok (.iconst (-1), 1) := by decide +kernel
theorem dX2_repeatMessage_12 : decode cX2_repeatMessage 12 = .ok (.ireturn, 1) := by decide +kernel
theorem dX2_repeatMessage_13 : decode cX2_repeatMessage 13 = .ok (.aload_n 0, 1) := by decide +kernel
theorem dX2_repeatMessage_14 : decode cX2_repeatMessage 14 = .ok (.getfield 18, 3) := by decide +kernel
theorem dX2_repeatMessage_17 : decode cX2_repeatMessage 17 = .ok (.getfield 104, 3) := by decide +kernel
theorem dX2_repeatMessage_20 : decode cX2_repeatMessage 20 = .ok (.bipush 60, 2) := by decide +kernel
theorem dX2_repeatMessage_22 : decode cX2_repeatMessage 22 = .ok (.if_icmp .lt 6, 3) := by decide +kernel
theorem dX2_repeatMessage_25 : decode cX2_repeatMessage 25 = .ok (.bipush (-4), 2) := by decide +kernel
theorem dX2_repeatMessage_27 : decode cX2_repeatMessage 27 = .ok (.ireturn, 1) := by decide +kernel
theorem dX2_repeatMessage_28 : decode cX2_repeatMessage 28 = .ok (.aload_n 0, 1) := by decide +kernel
theorem dX2_repeatMessage_29 : decode cX2_repeatMessage 29 = .ok (.getfield 18, 3) := by decide +kernel
theorem dX2_repeatMessage_32 : decode cX2_repeatMessage 32 = .ok (.iload_n 1, 1) := by decide +kernel
theorem dX2_repeatMessage_33 : decode cX2_repeatMessage 33 = .ok (.invokevirtual 107, 3) := by decide +kernel
theorem dX2_repeatMessage_36 : decode cX2_repeatMessage 36 = .ok (.aload_n 0, 1) := by decide +kernel
theorem dX2_repeatMessage_37 : decode cX2_repeatMessage 37 = .ok (.getfield 18, 3) := by decide +kernel
theorem dX2_repeatMessage_40 : decode cX2_repeatMessage 40 = .ok (.getfield 104, 3) := by decide +kernel
theorem dX2_repeatMessage_43 : decode cX2_repeatMessage 43 = .ok (.ireturn, 1) := by decide +kernel
theorem dX2_fallIll_0 : decode cX2_fallIll 0 = .ok (.iload_n 1, 1) := by decide +kernel
theorem dX2_fallIll_1 : decode cX2_fallIll 1 = .ok (.invokestatic 110, 3) := by decide +kernel
theorem dX2_fallIll_4 : decode cX2_fallIll 4 = .ok (.ifCond .ne 5, 3) := by decide +kernel
theorem dX2_fallIll_7 : decode cX2_fallIll 7 = .ok (.iconst (-1), 1) := by decide +kernel
theorem dX2_fallIll_8 : decode cX2_fallIll 8 = .ok (.ireturn, 1) := by decide +kernel
theorem dX2_fallIll_9 : decode cX2_fallIll 9 = .ok (.aload_n 0, 1) := by decide +kernel
theorem dX2_fallIll_10 : decode cX2_fallIll 10 = .ok (.iload_n 1, 1) := by decide +kernel
theorem dX2_fallIll_11 : decode cX2_fallIll 11 = .ok (.invokevirtual 87, 3) := by decide +kernel
theorem dX2_fallIll_14 : decode cX2_fallIll 14 = .ok (.ifCond .eq 6, 3) := by decide +kernel
theorem dX2_fallIll_17 : decode cX2_fallIll 17 = .ok (.bipush (-5), 2) := by decide +kernel
theorem dX2_fallIll_19 : decode cX2_fallIll 19 = .ok (.ireturn, 1) := by decide +kernel
theorem dX2_fallIll_20 : decode cX2_fallIll 20 = .ok (.aload_n 0, 1) := by decide +kernel
theorem dX2_fallIll_21 : decode cX2_fallIll 21 = .ok (.dup, 1) := by decide +kernel
theorem dX2_fallIll_22 : decode cX2_fallIll 22 = .ok (.getfield 50, 3) := by decide +kernel
theorem dX2_fallIll_25 : decode cX2_fallIll 25 = .ok (.iconst 1, 1) := by decide +kernel
theorem dX2_fallIll_26 : decode cX2_fallIll 26 = .ok (.iload_n 1, 1) := by decide +kernel
theorem dX2_fallIll_27 : decode cX2_fallIll 27 = .ok (.ishl, 1) := by decide +kernel
theorem dX2_fallIll_28 : decode cX2_fallIll 28 = .ok (.ior, 1) := by decide +kernel
theorem dX2_fallIll_29 : decode cX2_fallIll 29 = .ok (.putfield 50, 3) := by decide +kernel
theorem dX2_fallIll_32 : decode cX2_fallIll 32 = .ok (.iconst 0, 1) := by decide +kernel
theorem dX2_fallIll_33 : decode cX2_fallIll 33 = .ok (.istore_n 2, 1) := by decide +kernel
theorem dX2_fallIll_34 : decode cX2_fallIll 34 = .ok (.iload_n 2, 1) := by decide +kernel
theorem dX2_fallIll_35 : decode cX2_fallIll 35 = .ok (.aload_n 0, 1) := by decide +kernel
theorem dX2_fallIll_36 : decode cX2_fallIll 36 = .ok (.getfield 56, 3) := by decide +kernel
theorem dX2_fallIll_39 : decode cX2_fallIll 39 = .ok (.if_icmp .ge 15, 3) := by decide +kernel
theorem dX2_fallIll_42 : decode cX2_fallIll 42 = .ok (.aload_n 0, 1) := by decide +kernel
theorem dX2_fallIll_43 : decode cX2_fallIll 43 = .ok (.iload_n 2, 1) := by decide +kernel
theorem dX2_fallIll_44 : decode cX2_fallIll 44 = .ok (.iload_n 1, 1) := by decide +kernel
theorem dX2_fallIll_45 : decode cX2_fallIll 45 = .ok (.invokevirtual 113, 3) := by decide +kernel
theorem dX2_fallIll_48 : decode cX2_fallIll 48 = .ok (.iinc 2 1, 3) := by decide +kernel
theorem dX2_fallIll_51 : decode cX2_fallIll 51 = .ok (.goto (-17), 3) := by decide +kernel
theorem dX2_fallIll_54 : decode cX2_fallIll 54 = .ok (.aload_n 0, 1) := by decide +kernel
theorem dX2_fallIll_55 : decode cX2_fallIll 55 = .ok (.getfield 50, 3) := by decide +kernel
theorem dX2_fallIll_58 : decode cX2_fallIll 58 = .ok (.invokestatic 117, 3) := by decide +kernel
theorem dX2_fallIll_61 : decode cX2_fallIll 61 = .ok (.ireturn, 1) := by decide +kernel
theorem dX2_forget_0 : decode cX2_forget 0 = .ok (.iload_n 2, 1) := by decide +kernel
theorem dX2_forget_1 : decode cX2_forget 1 = .ok (.iconst 4, 1) := by decide +kernel
theorem dX2_forget_2 : decode cX2_forget 2 = .ok (.if_icmp .eq 24, 3) := by decide +kernel
theorem dX2_forget_5 : decode cX2_forget 5 = .ok (.aload_n 0, 1) := by decide +kernel
theorem dX2_forget_6 : decode cX2_forget 6 = .ok (.iload_n 1, 1) := by decide +kernel
theorem dX2_forget_7 : decode cX2_forget 7 = .ok (.iload_n 2, 1) := by decide +kernel
theorem dX2_forget_8 : decode cX2_forget 8 = .ok (.iconst 0, 1) := by decide +kernel
theorem dX2_forget_9 : decode cX2_forget 9 = .ok (.invokevirtual 123, 3) := by decide +kernel
theorem dX2_forget_12 : decode cX2_forget 12 = .ok (.ifCond .eq 50, 3) := by decide +kernel
theorem dX2_forget_15 : decode cX2_forget 15 = .ok (.aload_n 0, 1) := by decide +kernel
theorem dX2_forget_16 : decode cX2_forget 16 = .ok (.iload_n 1, 1) := by decide +kernel
theorem dX2_forget_17 : decode cX2_forget 17 = .ok (.iload_n 2, 1) := by decide +kernel
theorem dX2_forget_18 : decode cX2_forget 18 = .ok (.iconst 0, 1) := by decide +kernel
theorem dX2_forget_19 : decode cX2_forget 19 = .ok (.iconst 3, 1) := by decide +kernel
theorem dX2_forget_20 : decode cX2_forget 20 = .ok (.invokevirtual 127, 3) := by decide +kernel
theorem dX2_forget_23 : decode cX2_forget 23 = .ok (.goto 39, 3) := by decide +kernel
theorem dX2_forget_26 : decode cX2_forget 26 = .ok (.aload_n 0, 1) := by decide +kernel
theorem dX2_forget_27 : decode cX2_forget 27 = .ok (.getfield 25, 3) := by decide +kernel
theorem dX2_forget_30 : decode cX2_forget 30 = .ok (.iload_n 1, 1) := by decide +kernel
theorem dX2_forget_31 : decode cX2_forget 31 = .ok (.iaload, 1) := by decide +kernel
theorem dX2_forget_32 : decode cX2_forget 32 = .ok (.ifCond .ne 13, 3) := by decide +kernel
theorem dX2_forget_35 : decode cX2_forget 35 = .ok (.aload_n 0, 1) := by decide +kernel
theorem dX2_forget_36 : decode cX2_forget 36 = .ok (.getfield 25, 3) := by decide +kernel
theorem dX2_forget_39 : decode cX2_forget 39 = .ok (.iload_n 1, 1) := by decide +kernel
theorem dX2_forget_40 : decode cX2_forget 40 = .ok (.iconst 2, 1) := by decide +kernel
theorem dX2_forget_41 : decode cX2_forget 41 = .ok (.iastore, 1) := by decide +kernel
theorem dX2_forget_42 : decode cX2_forget 42 = .ok (.goto 20, 3) := by decide +kernel
theorem dX2_forget_45 : decode cX2_forget 45 = .ok (.aload_n 0, 1) := by decide +kernel
theorem dX2_forget_46 : decode cX2_forget 46 = .ok (.getfield 25, 3) := by decide +kernel
theorem dX2_forget_49 : decode cX2_forget 49 = .ok (.iload_n 1, 1) := by decide +kernel
theorem dX2_forget_50 : decode cX2_forget 50 = .ok (.iaload, 1) := by decide +kernel
theorem dX2_forget_51 : decode cX2_forget 51 = .ok (.iconst 1, 1) := by decide +kernel
theorem dX2_forget_52 : decode cX2_forget 52 = .ok (.if_icmp .ne 10, 3) := by decide +kernel
theorem dX2_forget_55 : decode cX2_forget 55 = .ok (.aload_n 0, 1) := by decide +kernel
theorem dX2_forget_56 : decode cX2_forget 56 = .ok (.getfield 37, 3) := by decide +kernel
theorem dX2_forget_59 : decode cX2_forget 59 = .ok (.iload_n 1, 1) := by decide +kernel
theorem dX2_forget_60 : decode cX2_forget 60 = .ok (.iconst 0, 1) := by decide +kernel
theorem dX2_forget_61 : decode cX2_forget 61 = .ok (.iastore, 1) := by decide +kernel
theorem dX2_forget_62 : decode cX2_forget 62 = .ok (.return_, 1) := by decide +kernel
theorem dX2_getWell_0 : decode cX2_getWell 0 = .ok (.iload_n 1, 1) := by decide +kernel
theorem dX2_getWell_1 : decode cX2_getWell 1 = .ok (.invokestatic 110, 3) := by decide +kernel
theorem dX2_getWell_4 : decode cX2_getWell 4 = .ok (.ifCond .ne 5, 3) := by decide +kernel
theorem dX2_getWell_7 : decode cX2_getWell 7 = .ok (.iconst (-1), 1) := by decide +kernel
theorem dX2_getWell_8 : decode cX2_getWell 8 = .ok (.ireturn, 1) := by decide +kernel
theorem dX2_getWell_9 : decode cX2_getWell 9 = .ok (.aload_n 0, 1) := by decide +kernel
theorem dX2_getWell_10 : decode cX2_getWell 10 = .ok (.iload_n 1, 1) := by decide +kernel
theorem dX2_getWell_11 : decode cX2_getWell 11 = .ok (.invokevirtual 87, 3) := by decide +kernel
theorem dX2_getWell_14 : decode cX2_getWell 14 = .ok (.ifCond .ne 6, 3) := by decide +kernel
theorem dX2_getWell_17 : decode cX2_getWell 17 = .ok (.bipush (-5), 2) := by decide +kernel
theorem dX2_getWell_19 : decode cX2_getWell 19 = .ok (.ireturn, 1) := by decide +kernel
theorem dX2_getWell_20 : decode cX2_getWell 20 = .ok (.aload_n 0, 1) := by decide +kernel
theorem dX2_getWell_21 : decode cX2_getWell 21 = .ok (.dup, 1) := by decide +kernel
theorem dX2_getWell_22 : decode cX2_getWell 22 = .ok (.getfield 50, 3) := by decide +kernel
theorem dX2_getWell_25 : decode cX2_getWell 25 = .ok (.iconst 1, 1) := by decide +kernel
theorem dX2_getWell_26 : decode cX2_getWell 26 = .ok (.iload_n 1, 1) := by decide +kernel
theorem dX2_getWell_27 : decode cX2_getWell 27 = .ok (.ishl, 1) := by decide +kernel
theorem dX2_getWell_28 : decode cX2_getWell 28 = .ok (.iconst (-1), 1) := by decide +kernel
theorem dX2_getWell_29 : decode cX2_getWell 29 = .ok (.ixor, 1) := by decide +kernel
theorem dX2_getWell_30 : decode cX2_getWell 30 = .ok (.iand, 1) := by decide +kernel
theorem dX2_getWell_31 : decode cX2_getWell 31 = .ok (.putfield 50, 3) := by decide +kernel
theorem dX2_getWell_34 : decode cX2_getWell 34 = .ok (.aload_n 0, 1) := by decide +kernel
theorem dX2_getWell_35 : decode cX2_getWell 35 = .ok (.getfield 50, 3) := by decide +kernel
theorem dX2_getWell_38 : decode cX2_getWell 38 = .ok (.invokestatic 117, 3) := by decide +kernel
theorem dX2_getWell_41 : decode cX2_getWell 41 = .ok (.ireturn, 1) := by decide +kernel
theorem dX2_sendToClerks_0 : decode cX2_sendToClerks 0 = .ok (.iconst 0, 1) := by decide +kernel
theorem dX2_sendToClerks_1 : decode cX2_sendToClerks 1 = .ok (.istore 5, 2) := by decide +kernel
theorem dX2_sendToClerks_3 : decode cX2_sendToClerks 3 = .ok (.iload 5, 2) := by decide +kernel
theorem dX2_sendToClerks_5 : decode cX2_sendToClerks 5 = .ok (.iconst 4, 1) := by decide +kernel
theorem dX2_sendToClerks_6 : decode cX2_sendToClerks 6 = .ok (.if_icmp .ge 31, 3) := by decide +kernel
theorem dX2_sendToClerks_9 : decode cX2_sendToClerks 9 = .ok (.iload 4, 2) := by decide +kernel
theorem dX2_sendToClerks_11 : decode cX2_sendToClerks 11 = .ok (.iload 5, 2) := by decide +kernel
theorem dX2_sendToClerks_13 : decode cX2_sendToClerks 13 = .ok (.invokestatic 69, 3) := by decide +kernel
theorem dX2_sendToClerks_16 : decode cX2_sendToClerks 16 = .ok (.ifCond .eq 15, 3) := by decide +kernel
theorem dX2_sendToClerks_19 : decode cX2_sendToClerks 19 = .ok (.aload_n 0, 1) := by decide +kernel
theorem dX2_sendToClerks_20 : decode cX2_sendToClerks 20 = .ok (.getfield 18, 3) := by decide +kernel
theorem dX2_sendToClerks_23 : decode cX2_sendToClerks 23 = .ok (.iload_n 1, 1) := by decide +kernel
theorem dX2_sendToClerks_24 : decode cX2_sendToClerks 24 = .ok (.iload_n 2, 1) := by decide +kernel
theorem dX2_sendToClerks_25 : decode cX2_sendToClerks 25 = .ok (.iload_n 3, 1) := by decide +kernel
theorem dX2_sendToClerks_26 : decode cX2_sendToClerks 26 = .ok (.iload 5, 2) := by decide +kernel
theorem dX2_sendToClerks_28 : decode cX2_sendToClerks 28 = .ok (.invokevirtual 130, 3) := by decide +kernel
theorem dX2_sendToClerks_31 : decode cX2_sendToClerks 31 = .ok (.iinc 5 1, 3) := by decide +kernel
theorem dX2_sendToClerks_34 : decode cX2_sendToClerks 34 = .ok (.goto (-31), 3) := by decide +kernel
theorem dX2_sendToClerks_37 : decode cX2_sendToClerks 37 = .ok (.return_, 1) := by decide +kernel
theorem dX2_handOver_0 : decode cX2_handOver 0 = .ok (.aload_n 0, 1) := by decide +kernel
theorem dX2_handOver_1 : decode cX2_handOver 1 = .ok (.getfield 18, 3) := by decide +kernel
theorem dX2_handOver_4 : decode cX2_handOver 4 = .ok (.iload_n 1, 1) := by decide +kernel
theorem dX2_handOver_5 : decode cX2_handOver 5 = .ok (.invokevirtual 94, 3) := by decide +kernel
theorem dX2_handOver_8 : decode cX2_handOver 8 = .ok (.ifCond .ne 5, 3) := by decide +kernel
theorem dX2_handOver_11 : decode cX2_handOver 11 = .ok (.iconst (-1), 1) := by decide +kernel
theorem dX2_handOver_12 : decode cX2_handOver 12 = .ok (.ireturn, 1) := by decide +kernel
theorem dX2_handOver_13 : decode cX2_handOver 13 = .ok (.aload_n 0, 1) := by decide +kernel
theorem dX2_handOver_14 : decode cX2_handOver 14 = .ok (.getfield 18, 3) := by decide +kernel
theorem dX2_handOver_17 : decode cX2_handOver 17 = .ok (.iload_n 1, 1) := by decide +kernel
theorem dX2_handOver_18 : decode cX2_handOver 18 = .ok (.iconst 0, 1) := by decide +kernel
theorem dX2_handOver_19 : decode cX2_handOver 19 = .ok (.invokevirtual 133, 3) := by decide +kernel
theorem dX2_handOver_22 : decode cX2_handOver 22 = .ok (.istore_n 2, 1) := by decide +kernel
theorem dX2_handOver_23 : decode cX2_handOver 23 = .ok (.aload_n 0, 1) := by decide +kernel
theorem dX2_handOver_24 : decode cX2_handOver 24 = .ok (.getfield 18, 3) := by decide +kernel
theorem dX2_handOver_27 : decode cX2_handOver 27 = .ok (.iload_n 1, 1) := by decide +kernel
theorem dX2_handOver_28 : decode cX2_handOver 28 = .ok (.iconst 1, 1) := by decide +kernel
theorem dX2_handOver_29 : decode cX2_handOver 29 = .ok (.invokevirtual 133, 3) := by decide +kernel
theorem dX2_handOver_32 : decode cX2_handOver 32 = .ok (.istore_n 3, 1) := by decide +kernel
theorem dX2_handOver_33 : decode cX2_handOver 33 = .ok (.aload_n 0, 1) := by decide +kernel
theorem dX2_handOver_34 : decode cX2_handOver 34 = .ok (.getfield 18, 3) := by decide +kernel
theorem dX2_handOver_37 : decode cX2_handOver 37 = .ok (.iload_n 1, 1) := by decide +kernel
theorem dX2_handOver_38 : decode cX2_handOver 38 = .ok (.iconst 2, 1) := by decide +kernel
theorem dX2_handOver_39 : decode cX2_handOver 39 = .ok (.invokevirtual 133, 3) := by decide +kernel
theorem dX2_handOver_42 : decode cX2_handOver 42 = .ok (.istore 4, 2) := by decide +kernel
theorem dX2_handOver_44 : decode cX2_handOver 44 = .ok (.aload_n 0, 1) := by decide +kernel
theorem dX2_handOver_45 : decode cX2_handOver 45 = .ok (.getfield 18, 3) := by decide +kernel
theorem dX2_handOver_48 : decode cX2_handOver 48 = .ok (.iload_n 1, 1) := by decide +kernel
theorem dX2_handOver_49 : decode cX2_handOver 49 = .ok (.iconst 3, 1) := by decide +kernel
theorem dX2_handOver_50 : decode cX2_handOver 50 = .ok (.invokevirtual 133, 3) := by decide +kernel
theorem dX2_handOver_53 : decode cX2_handOver 53 = .ok (.istore 5, 2) := by decide +kernel
theorem dX2_handOver_55 : decode cX2_handOver 55 = .ok (.aload_n 0, 1) := by decide +kernel
theorem dX2_handOver_56 : decode cX2_handOver 56 = .ok (.getfield 18, 3) := by decide +kernel
theorem dX2_handOver_59 : decode cX2_handOver 59 = .ok (.iload_n 1, 1) := by decide +kernel
theorem dX2_handOver_60 : decode cX2_handOver 60 = .ok (.invokevirtual 97, 3) := by decide +kernel
theorem dX2_handOver_63 : decode cX2_handOver 63 = .ok (.aload_n 0, 1) := by decide +kernel
theorem dX2_handOver_64 : decode cX2_handOver 64 = .ok (.iload 5, 2) := by decide +kernel
theorem dX2_handOver_66 : decode cX2_handOver 66 = .ok (.invokevirtual 87, 3) := by decide +kernel
theorem dX2_handOver_69 : decode cX2_handOver 69 = .ok (.ifCond .eq 24, 3) := by decide +kernel
theorem dX2_handOver_72 : decode cX2_handOver 72 = .ok (.aload_n 0, 1) := by decide +kernel
theorem dX2_handOver_73 : decode cX2_handOver 73 = .ok (.getfield 18, 3) := by decide +kernel
theorem dX2_handOver_76 : decode cX2_handOver 76 = .ok (.dup, 1) := by decide +kernel
theorem dX2_handOver_77 : decode cX2_handOver 77 = .ok (.getfield 101, 3) := by decide +kernel
theorem dX2_handOver_80 : decode cX2_handOver 80 = .ok (.iconst 1, 1) := by decide +kernel
theorem dX2_handOver_81 : decode cX2_handOver 81 = .ok (.iadd, 1) := by decide +kernel
theorem dX2_handOver_82 : decode cX2_handOver 82 = .ok (.putfield 101, 3) := by decide +kernel
theorem dX2_handOver_85 : decode cX2_handOver 85 = .ok (.aload_n 0, 1) := by decide +kernel
theorem dX2_handOver_86 : decode cX2_handOver 86 = .ok (.getfield 18, 3) := by decide +kernel
theorem dX2_handOver_89 : decode cX2_handOver 89 = .ok (.getfield 104, 3) := by decide +kernel
theorem dX2_handOver_92 : decode cX2_handOver 92 = .ok (.ireturn, 1) := by decide +kernel
theorem dX2_handOver_93 : decode cX2_handOver 93 = .ok (.aload_n 0, 1) := by decide +kernel
theorem dX2_handOver_94 : decode cX2_handOver 94 = .ok (.getfield 18, 3) := by decide +kernel
theorem dX2_handOver_97 : decode cX2_handOver 97 = .ok (.getfield 136, 3) := by decide +kernel
theorem dX2_handOver_100 : decode cX2_handOver 100 = .ok (.iload 5, 2) := by decide +kernel
theorem dX2_handOver_102 : decode cX2_handOver 102 = .ok (.dup2, 1) := by decide +kernel
theorem dX2_handOver_103 : decode cX2_handOver 103 = .ok (.iaload, 1) := by decide +kernel
theorem dX2_handOver_104 : decode cX2_handOver 104 = .ok (.iconst 1, 1) := by decide +kernel
theorem dX2_handOver_105 : decode cX2_handOver 105 = .ok (.iadd, 1) := by decide +kernel
theorem dX2_handOver_106 : decode cX2_handOver 106 = .ok (.iastore, 1) := by decide +kernel
theorem dX2_handOver_107 : decode cX2_handOver 107 = .ok (.iload_n 2, 1) := by decide +kernel
theorem dX2_handOver_108 : decode cX2_handOver 108 = .ok (.tableswitch 100 0 5 #[40, 50, 60, 70, 80, 90], 40) := by decide +kernel
theorem dX2_handOver_148 : decode cX2_handOver 148 = .ok (.aload_n 0, 1) := by decide +kernel
theorem dX2_handOver_149 : decode cX2_handOver 149 = .ok (.iload_n 3, 1) := by decide +kernel
theorem dX2_handOver_150 : decode cX2_handOver 150 = .ok (.iload 5, 2) := by decide +kernel
theorem dX2_handOver_152 : decode cX2_handOver 152 = .ok (.invokevirtual 139, 3) := by decide +kernel
theorem dX2_handOver_155 : decode cX2_handOver 155 = .ok (.goto 78, 3) := by decide +kernel
theorem dX2_handOver_158 : decode cX2_handOver 158 = .ok (.aload_n 0, 1) := by decide +kernel
theorem dX2_handOver_159 : decode cX2_handOver 159 = .ok (.iload_n 3, 1) := by decide +kernel
theorem dX2_handOver_160 : decode cX2_handOver 160 = .ok (.iload 4, 2) := by decide +kernel
theorem dX2_handOver_162 : decode cX2_handOver 162 = .ok (.invokevirtual 142, 3) := by decide +kernel
theorem dX2_handOver_165 : decode cX2_handOver 165 = .ok (.goto 68, 3) := by decide +kernel
theorem dX2_handOver_168 : decode cX2_handOver 168 = .ok (.aload_n 0, 1) := by decide +kernel
theorem dX2_handOver_169 : decode cX2_handOver 169 = .ok (.iload_n 3, 1) := by decide +kernel
theorem dX2_handOver_170 : decode cX2_handOver 170 = .ok (.iload 4, 2) := by decide +kernel
theorem dX2_handOver_172 : decode cX2_handOver 172 = .ok (.invokevirtual 145, 3) := by decide +kernel
theorem dX2_handOver_175 : decode cX2_handOver 175 = .ok (.goto 58, 3) := by decide +kernel
theorem dX2_handOver_178 : decode cX2_handOver 178 = .ok (.aload_n 0, 1) := by decide +kernel
theorem dX2_handOver_179 : decode cX2_handOver 179 = .ok (.iload_n 3, 1) := by decide +kernel
theorem dX2_handOver_180 : decode cX2_handOver 180 = .ok (.iload 5, 2) := by decide +kernel
theorem dX2_handOver_182 : decode cX2_handOver 182 = .ok (.invokevirtual 148, 3) := by decide +kernel
theorem dX2_handOver_185 : decode cX2_handOver 185 = .ok (.goto 48, 3) := by decide +kernel
theorem dX2_handOver_188 : decode cX2_handOver 188 = .ok (.aload_n 0, 1) := by decide +kernel
theorem dX2_handOver_189 : decode cX2_handOver 189 = .ok (.iload_n 3, 1) := by decide +kernel
theorem dX2_handOver_190 : decode cX2_handOver 190 = .ok (.iload 5, 2) := by decide +kernel
theorem dX2_handOver_192 : decode cX2_handOver 192 = .ok (.invokevirtual 151, 3) := by decide +kernel
theorem dX2_handOver_195 : decode cX2_handOver 195 = .ok (.goto 38, 3) := by decide +kernel
theorem dX2_handOver_198 : decode cX2_handOver 198 = .ok (.aload_n 0, 1) := by decide +kernel
theorem dX2_handOver_199 : decode cX2_handOver 199 = .ok (.iload_n 3, 1) := by decide +kernel
theorem dX2_handOver_200 : decode cX2_handOver 200 = .ok (.iload 4, 2) := by decide +kernel
theorem dX2_handOver_202 : decode cX2_handOver 202 = .ok (.invokevirtual 154, 3) := by decide +kernel
theorem dX2_handOver_205 : decode cX2_handOver 205 = .ok (.goto 28, 3) := by decide +kernel
theorem dX2_handOver_208 : decode cX2_handOver 208 = .ok (.iload 5, 2) := by decide +kernel
theorem dX2_handOver_210 : decode cX2_handOver 210 = .ok (.iconst 4, 1) := by decide +kernel
theorem dX2_handOver_211 : decode cX2_handOver 211 = .ok (.if_icmp .ne 13, 3) := by decide +kernel
theorem dX2_handOver_214 : decode cX2_handOver 214 = .ok (.aload_n 0, 1) := by decide +kernel
theorem dX2_handOver_215 : decode cX2_handOver 215 = .ok (.iload_n 3, 1) := by decide +kernel
theorem dX2_handOver_216 : decode cX2_handOver 216 = .ok (.iload 4, 2) := by decide +kernel
theorem dX2_handOver_218 : decode cX2_handOver 218 = .ok (.invokevirtual 157, 3) := by decide +kernel
theorem dX2_handOver_221 : decode cX2_handOver 221 = .ok (.goto 12, 3) := by decide +kernel
theorem dX2_handOver_224 : decode cX2_handOver 224 = .ok (.aload_n 0, 1) := by decide +kernel
theorem dX2_handOver_225 : decode cX2_handOver 225 = .ok (.iload_n 3, 1) := by decide +kernel
theorem dX2_handOver_226 : decode cX2_handOver 226 = .ok (.iload 5, 2) := by decide +kernel
theorem dX2_handOver_228 : decode cX2_handOver 228 = .ok (.iload 4, 2) := by decide +kernel
theorem dX2_handOver_230 : decode cX2_handOver 230 = .ok (.invokevirtual 160, 3) := by decide +kernel
theorem dX2_handOver_233 : decode cX2_handOver 233 = .ok (.aload_n 0, 1) := by decide +kernel
theorem dX2_handOver_234 : decode cX2_handOver 234 = .ok (.getfield 18, 3) := by decide +kernel
theorem dX2_handOver_237 : decode cX2_handOver 237 = .ok (.getfield 104, 3) := by decide +kernel
theorem dX2_handOver_240 : decode cX2_handOver 240 = .ok (.ireturn, 1) := by decide +kernel
theorem dX2_vote_0 : decode cX2_vote 0 = .ok (.aload_n 0, 1) := by decide +kernel
theorem dX2_vote_1 : decode cX2_vote 1 = .ok (.iload_n 1, 1) := by decide +kernel
theorem dX2_vote_2 : decode cX2_vote 2 = .ok (.iload_n 2, 1) := by decide +kernel
theorem dX2_vote_3 : decode cX2_vote 3 = .ok (.iconst 0, 1) := by decide +kernel
theorem dX2_vote_4 : decode cX2_vote 4 = .ok (.invokevirtual 123, 3) := by decide +kernel
theorem dX2_vote_7 : decode cX2_vote 7 = .ok (.ifCond .eq 47, 3) := by decide +kernel
theorem dX2_vote_10 : decode cX2_vote 10 = .ok (.aload_n 0, 1) := by decide +kernel
theorem dX2_vote_11 : decode cX2_vote 11 = .ok (.getfield 53, 3) := by decide +kernel
theorem dX2_vote_14 : decode cX2_vote 14 = .ok (.iload_n 2, 1) := by decide +kernel
theorem dX2_vote_15 : decode cX2_vote 15 = .ok (.invokestatic 69, 3) := by decide +kernel
theorem dX2_vote_18 : decode cX2_vote 18 = .ok (.ifCond .eq 14, 3) := by decide +kernel
theorem dX2_vote_21 : decode cX2_vote 21 = .ok (.aload_n 0, 1) := by decide +kernel
theorem dX2_vote_22 : decode cX2_vote 22 = .ok (.iload_n 1, 1) := by decide +kernel
theorem dX2_vote_23 : decode cX2_vote 23 = .ok (.iload_n 2, 1) := by decide +kernel
theorem dX2_vote_24 : decode cX2_vote 24 = .ok (.iconst 0, 1) := by decide +kernel
theorem dX2_vote_25 : decode cX2_vote 25 = .ok (.iconst 3, 1) := by decide +kernel
theorem dX2_vote_26 : decode cX2_vote 26 = .ok (.invokevirtual 127, 3) := by decide +kernel
theorem dX2_vote_29 : decode cX2_vote 29 = .ok (.goto 25, 3) := by decide +kernel
theorem dX2_vote_32 : decode cX2_vote 32 = .ok (.aload_n 0, 1) := by decide +kernel
theorem dX2_vote_33 : decode cX2_vote 33 = .ok (.iload_n 1, 1) := by decide +kernel
theorem dX2_vote_34 : decode cX2_vote 34 = .ok (.iload_n 2, 1) := by decide +kernel
theorem dX2_vote_35 : decode cX2_vote 35 = .ok (.iconst 0, 1) := by decide +kernel
theorem dX2_vote_36 : decode cX2_vote 36 = .ok (.iconst 1, 1) := by decide +kernel
theorem dX2_vote_37 : decode cX2_vote 37 = .ok (.invokevirtual 127, 3) := by decide +kernel
theorem dX2_vote_40 : decode cX2_vote 40 = .ok (.aload_n 0, 1) := by decide +kernel
theorem dX2_vote_41 : decode cX2_vote 41 = .ok (.getfield 43, 3) := by decide +kernel
theorem dX2_vote_44 : decode cX2_vote 44 = .ok (.iload_n 1, 1) := by decide +kernel
theorem dX2_vote_45 : decode cX2_vote 45 = .ok (.iconst 4, 1) := by decide +kernel
theorem dX2_vote_46 : decode cX2_vote 46 = .ok (.imul, 1) := by decide +kernel
theorem dX2_vote_47 : decode cX2_vote 47 = .ok (.iload_n 2, 1) := by decide +kernel
theorem dX2_vote_48 : decode cX2_vote 48 = .ok (.iadd, 1) := by decide +kernel
theorem dX2_vote_49 : decode cX2_vote 49 = .ok (.aload_n 0, 1) := by decide +kernel
theorem dX2_vote_50 : decode cX2_vote 50 = .ok (.getfield 46, 3) := by decide +kernel
theorem dX2_vote_53 : decode cX2_vote 53 = .ok (.iastore, 1) := by decide +kernel
theorem dX2_vote_54 : decode cX2_vote 54 = .ok (.aload_n 0, 1) := by decide +kernel
theorem dX2_vote_55 : decode cX2_vote 55 = .ok (.iload_n 1, 1) := by decide +kernel
theorem dX2_vote_56 : decode cX2_vote 56 = .ok (.iload_n 2, 1) := by decide +kernel
theorem dX2_vote_57 : decode cX2_vote 57 = .ok (.iconst 1, 1) := by decide +kernel
theorem dX2_vote_58 : decode cX2_vote 58 = .ok (.invokevirtual 123, 3) := by decide +kernel
theorem dX2_vote_61 : decode cX2_vote 61 = .ok (.ifCond .eq 17, 3) := by decide +kernel
theorem dX2_vote_64 : decode cX2_vote 64 = .ok (.aload_n 0, 1) := by decide +kernel
theorem dX2_vote_65 : decode cX2_vote 65 = .ok (.getfield 18, 3) := by decide +kernel
theorem dX2_vote_68 : decode cX2_vote 68 = .ok (.iconst 1, 1) := by decide +kernel
theorem dX2_vote_69 : decode cX2_vote 69 = .ok (.iload_n 1, 1) := by decide +kernel
theorem dX2_vote_70 : decode cX2_vote 70 = .ok (.iload_n 2, 1) := by decide +kernel
theorem dX2_vote_71 : decode cX2_vote 71 = .ok (.iconst 4, 1) := by decide +kernel
theorem dX2_vote_72 : decode cX2_vote 72 = .ok (.invokevirtual 130, 3) := by decide +kernel
theorem dX2_vote_75 : decode cX2_vote 75 = .ok (.goto 24, 3) := by decide +kernel
theorem dX2_vote_78 : decode cX2_vote 78 = .ok (.aload_n 0, 1) := by decide +kernel
theorem dX2_vote_79 : decode cX2_vote 79 = .ok (.iload_n 1, 1) := by decide +kernel
theorem dX2_vote_80 : decode cX2_vote 80 = .ok (.iload_n 2, 1) := by decide +kernel
theorem dX2_vote_81 : decode cX2_vote 81 = .ok (.iconst 3, 1) := by decide +kernel
theorem dX2_vote_82 : decode cX2_vote 82 = .ok (.invokevirtual 123, 3) := by decide +kernel
theorem dX2_vote_85 : decode cX2_vote 85 = .ok (.ifCond .eq 14, 3) := by decide +kernel
theorem dX2_vote_88 : decode cX2_vote 88 = .ok (.aload_n 0, 1) := by decide +kernel
theorem dX2_vote_89 : decode cX2_vote 89 = .ok (.getfield 18, 3) := by decide +kernel
theorem dX2_vote_92 : decode cX2_vote 92 = .ok (.iconst 2, 1) := by decide +kernel
theorem dX2_vote_93 : decode cX2_vote 93 = .ok (.iload_n 1, 1) := by decide +kernel
theorem dX2_vote_94 : decode cX2_vote 94 = .ok (.iload_n 2, 1) := by decide +kernel
theorem dX2_vote_95 : decode cX2_vote 95 = .ok (.iconst 4, 1) := by decide +kernel
theorem dX2_vote_96 : decode cX2_vote 96 = .ok (.invokevirtual 130, 3) := by decide +kernel
theorem dX2_vote_99 : decode cX2_vote 99 = .ok (.return_, 1) := by decide +kernel
theorem dX2_postFor_0 : decode cX2_postFor 0 = .ok (.aload_n 0, 1) := by decide +kernel
theorem dX2_postFor_1 : decode cX2_postFor 1 = .ok (.iload_n 1, 1) := by decide +kernel
theorem dX2_postFor_2 : decode cX2_postFor 2 = .ok (.iload_n 2, 1) := by decide +kernel
theorem dX2_postFor_3 : decode cX2_postFor 3 = .ok (.iconst 1, 1) := by decide +kernel
theorem dX2_postFor_4 : decode cX2_postFor 4 = .ok (.invokevirtual 123, 3) := by decide +kernel
theorem dX2_postFor_7 : decode cX2_postFor 7 = .ok (.ifCond .eq 11, 3) := by decide +kernel
theorem dX2_postFor_10 : decode cX2_postFor 10 = .ok (.aload_n 0, 1) := by decide +kernel
theorem dX2_postFor_11 : decode cX2_postFor 11 = .ok (.iload_n 1, 1) := by decide +kernel
theorem dX2_postFor_12 : decode cX2_postFor 12 = .ok (.iload_n 2, 1) := by decide +kernel
theorem dX2_postFor_13 : decode cX2_postFor 13 = .ok (.iconst 1, 1) := by decide +kernel
theorem dX2_postFor_14 : decode cX2_postFor 14 = .ok (.iconst 2, 1) := by decide +kernel
theorem dX2_postFor_15 : decode cX2_postFor 15 = .ok (.invokevirtual 127, 3) := by decide +kernel
theorem dX2_postFor_18 : decode cX2_postFor 18 = .ok (.aload_n 0, 1) := by decide +kernel
theorem dX2_postFor_19 : decode cX2_postFor 19 = .ok (.iload_n 1, 1) := by decide +kernel
theorem dX2_postFor_20 : decode cX2_postFor 20 = .ok (.iload_n 2, 1) := by decide +kernel
theorem dX2_postFor_21 : decode cX2_postFor 21 = .ok (.iconst 2, 1) := by decide +kernel
theorem dX2_postFor_22 : decode cX2_postFor 22 = .ok (.invokevirtual 123, 3) := by decide +kernel
theorem dX2_postFor_25 : decode cX2_postFor 25 = .ok (.ifCond .eq 14, 3) := by decide +kernel
theorem dX2_postFor_28 : decode cX2_postFor 28 = .ok (.aload_n 0, 1) := by decide +kernel
theorem dX2_postFor_29 : decode cX2_postFor 29 = .ok (.getfield 18, 3) := by decide +kernel
theorem dX2_postFor_32 : decode cX2_postFor 32 = .ok (.iconst 5, 1) := by decide +kernel
theorem dX2_postFor_33 : decode cX2_postFor 33 = .ok (.iload_n 1, 1) := by decide +kernel
theorem dX2_postFor_34 : decode cX2_postFor 34 = .ok (.iload_n 2, 1) := by decide +kernel
theorem dX2_postFor_35 : decode cX2_postFor 35 = .ok (.iconst 4, 1) := by decide +kernel
theorem dX2_postFor_36 : decode cX2_postFor 36 = .ok (.invokevirtual 130, 3) := by decide +kernel
theorem dX2_postFor_39 : decode cX2_postFor 39 = .ok (.return_, 1) := by decide +kernel
theorem dX2_tearFor_0 : decode cX2_tearFor 0 = .ok (.aload_n 0, 1) := by decide +kernel
theorem dX2_tearFor_1 : decode cX2_tearFor 1 = .ok (.iload_n 1, 1) := by decide +kernel
theorem dX2_tearFor_2 : decode cX2_tearFor 2 = .ok (.iload_n 2, 1) := by decide +kernel
theorem dX2_tearFor_3 : decode cX2_tearFor 3 = .ok (.iconst 0, 1) := by decide +kernel
theorem dX2_tearFor_4 : decode cX2_tearFor 4 = .ok (.invokevirtual 123, 3) := by decide +kernel
theorem dX2_tearFor_7 : decode cX2_tearFor 7 = .ok (.ifCond .eq 14, 3) := by decide +kernel
theorem dX2_tearFor_10 : decode cX2_tearFor 10 = .ok (.aload_n 0, 1) := by decide +kernel
theorem dX2_tearFor_11 : decode cX2_tearFor 11 = .ok (.iload_n 1, 1) := by decide +kernel
theorem dX2_tearFor_12 : decode cX2_tearFor 12 = .ok (.iload_n 2, 1) := by decide +kernel
theorem dX2_tearFor_13 : decode cX2_tearFor 13 = .ok (.iconst 0, 1) := by decide +kernel
theorem dX2_tearFor_14 : decode cX2_tearFor 14 = .ok (.iconst 3, 1) := by decide +kernel
theorem dX2_tearFor_15 : decode cX2_tearFor 15 = .ok (.invokevirtual 127, 3) := by decide +kernel
theorem dX2_tearFor_18 : decode cX2_tearFor 18 = .ok (.goto 21, 3) := by decide +kernel
theorem dX2_tearFor_21 : decode cX2_tearFor 21 = .ok (.aload_n 0, 1) := by decide +kernel
theorem dX2_tearFor_22 : decode cX2_tearFor 22 = .ok (.iload_n 1, 1) := by decide +kernel
theorem dX2_tearFor_23 : decode cX2_tearFor 23 = .ok (.iload_n 2, 1) := by decide +kernel
theorem dX2_tearFor_24 : decode cX2_tearFor 24 = .ok (.iconst 1, 1) := by decide +kernel
theorem dX2_tearFor_25 : decode cX2_tearFor 25 = .ok (.invokevirtual 123, 3) := by decide +kernel
theorem dX2_tearFor_28 : decode cX2_tearFor 28 = .ok (.ifCond .eq 11, 3) := by decide +kernel
theorem dX2_tearFor_31 : decode cX2_tearFor 31 = .ok (.aload_n 0, 1) := by decide +kernel
theorem dX2_tearFor_32 : decode cX2_tearFor 32 = .ok (.iload_n 1, 1) := by decide +kernel
theorem dX2_tearFor_33 : decode cX2_tearFor 33 = .ok (.iload_n 2, 1) := by decide +kernel
theorem dX2_tearFor_34 : decode cX2_tearFor 34 = .ok (.iconst 1, 1) := by decide +kernel
theorem dX2_tearFor_35 : decode cX2_tearFor 35 = .ok (.iconst 3, 1) := by decide +kernel
theorem dX2_tearFor_36 : decode cX2_tearFor 36 = .ok (.invokevirtual 127, 3) := by decide +kernel
theorem dX2_tearFor_39 : decode cX2_tearFor 39 = .ok (.return_, 1) := by decide +kernel
theorem dX2_answerAsElder_0 : decode cX2_answerAsElder 0 = .ok (.aload_n 0, 1) := by decide +kernel
theorem dX2_answerAsElder_1 : decode cX2_answerAsElder 1 = .ok (.iload_n 1, 1) := by decide +kernel
theorem dX2_answerAsElder_2 : decode cX2_answerAsElder 2 = .ok (.iload_n 2, 1) := by decide +kernel
theorem dX2_answerAsElder_3 : decode cX2_answerAsElder 3 = .ok (.iconst 0, 1) := by decide +kernel
theorem dX2_answerAsElder_4 : decode cX2_answerAsElder 4 = .ok (.invokevirtual 123, 3) := by decide +kernel
theorem dX2_answerAsElder_7 : decode cX2_answerAsElder 7 = .ok (.ifCond .eq 11, 3) := by decide +kernel
theorem dX2_answerAsElder_10 : decode cX2_answerAsElder 10 = .ok (.aload_n 0, 1) := by decide +kernel
theorem dX2_answerAsElder_11 : decode cX2_answerAsElder 11 = .ok (.iload_n 1, 1) := by decide +kernel
theorem dX2_answerAsElder_12 : decode cX2_answerAsElder 12 = .ok (.iload_n 2, 1) := by decide +kernel
theorem dX2_answerAsElder_13 : decode cX2_answerAsElder 13 = .ok (.iconst 0, 1) := by decide +kernel
theorem dX2_answerAsElder_14 : decode cX2_answerAsElder 14 = .ok (.iconst 3, 1) := by decide +kernel
theorem dX2_answerAsElder_15 : decode cX2_answerAsElder 15 = .ok (.invokevirtual 127, 3) := by decide +kernel
theorem dX2_answerAsElder_18 : decode cX2_answerAsElder 18 = .ok (.aload_n 0, 1) := by decide +kernel
theorem dX2_answerAsElder_19 : decode cX2_answerAsElder 19 = .ok (.iload_n 1, 1) := by decide +kernel
theorem dX2_answerAsElder_20 : decode cX2_answerAsElder 20 = .ok (.iload_n 2, 1) := by decide +kernel
theorem dX2_answerAsElder_21 : decode cX2_answerAsElder 21 = .ok (.iconst 2, 1) := by decide +kernel
theorem dX2_answerAsElder_22 : decode cX2_answerAsElder 22 = .ok (.invokevirtual 123, 3) := by decide +kernel
theorem dX2_answerAsElder_25 : decode cX2_answerAsElder 25 = .ok (.ifCond .eq 17, 3) := by decide +kernel
theorem dX2_answerAsElder_28 : decode cX2_answerAsElder 28 = .ok (.aload_n 0, 1) := by decide +kernel
theorem dX2_answerAsElder_29 : decode cX2_answerAsElder 29 = .ok (.getfield 18, 3) := by decide +kernel
theorem dX2_answerAsElder_32 : decode cX2_answerAsElder 32 = .ok (.iconst 3, 1) := by decide +kernel
theorem dX2_answerAsElder_33 : decode cX2_answerAsElder 33 = .ok (.iload_n 1, 1) := by decide +kernel
theorem dX2_answerAsElder_34 : decode cX2_answerAsElder 34 = .ok (.iload_n 2, 1) := by decide +kernel
theorem dX2_answerAsElder_35 : decode cX2_answerAsElder 35 = .ok (.iload_n 3, 1) := by decide +kernel
theorem dX2_answerAsElder_36 : decode cX2_answerAsElder 36 = .ok (.invokevirtual 130, 3) := by decide +kernel
theorem dX2_answerAsElder_39 : decode cX2_answerAsElder 39 = .ok (.goto 24, 3) := by decide +kernel
theorem dX2_answerAsElder_42 : decode cX2_answerAsElder 42 = .ok (.aload_n 0, 1) := by decide +kernel
theorem dX2_answerAsElder_43 : decode cX2_answerAsElder 43 = .ok (.iload_n 1, 1) := by decide +kernel
theorem dX2_answerAsElder_44 : decode cX2_answerAsElder 44 = .ok (.iload_n 2, 1) := by decide +kernel
theorem dX2_answerAsElder_45 : decode cX2_answerAsElder 45 = .ok (.iconst 3, 1) := by decide +kernel
theorem dX2_answerAsElder_46 : decode cX2_answerAsElder 46 = .ok (.invokevirtual 123, 3) := by decide +kernel
theorem dX2_answerAsElder_49 : decode cX2_answerAsElder 49 = .ok (.ifCond .eq 14, 3) := by decide +kernel
theorem dX2_answerAsElder_52 : decode cX2_answerAsElder 52 = .ok (.aload_n 0, 1) := by decide +kernel
theorem dX2_answerAsElder_53 : decode cX2_answerAsElder 53 = .ok (.getfield 18, 3) := by decide +kernel
theorem dX2_answerAsElder_56 : decode cX2_answerAsElder 56 = .ok (.iconst 4, 1) := by decide +kernel
theorem dX2_answerAsElder_57 : decode cX2_answerAsElder 57 = .ok (.iload_n 1, 1) := by decide +kernel
theorem dX2_answerAsElder_58 : decode cX2_answerAsElder 58 = .ok (.iload_n 2, 1) := by decide +kernel
theorem dX2_answerAsElder_59 : decode cX2_answerAsElder 59 = .ok (.iload_n 3, 1) := by decide +kernel
theorem dX2_answerAsElder_60 : decode cX2_answerAsElder 60 = .ok (.invokevirtual 130, 3) := by decide +kernel
theorem dX2_answerAsElder_63 : decode cX2_answerAsElder 63 = .ok (.return_, 1) := by decide +kernel
theorem dX2_takeYes_0 : decode cX2_takeYes 0 = .ok (.aload_n 0, 1) := by decide +kernel
theorem dX2_takeYes_1 : decode cX2_takeYes 1 = .ok (.getfield 25, 3) := by decide +kernel
theorem dX2_takeYes_4 : decode cX2_takeYes 4 = .ok (.iload_n 1, 1) := by decide +kernel
theorem dX2_takeYes_5 : decode cX2_takeYes 5 = .ok (.iaload, 1) := by decide +kernel
theorem dX2_takeYes_6 : decode cX2_takeYes 6 = .ok (.ifCond .eq 10, 3) := by decide +kernel
theorem dX2_takeYes_9 : decode cX2_takeYes 9 = .ok (.aload_n 0, 1) := by decide +kernel
theorem dX2_takeYes_10 : decode cX2_takeYes 10 = .ok (.iload_n 1, 1) := by decide +kernel
theorem dX2_takeYes_11 : decode cX2_takeYes 11 = .ok (.iload_n 2, 1) := by decide +kernel
theorem dX2_takeYes_12 : decode cX2_takeYes 12 = .ok (.invokevirtual 157, 3) := by decide +kernel
theorem dX2_takeYes_15 : decode cX2_takeYes 15 = .ok (.return_, 1) := by decide +kernel
theorem dX2_takeYes_16 : decode cX2_takeYes 16 = .ok (.aload_n 0, 1) := by decide +kernel
theorem dX2_takeYes_17 : decode cX2_takeYes 17 = .ok (.getfield 34, 3) := by decide +kernel
theorem dX2_takeYes_20 : decode cX2_takeYes 20 = .ok (.iload_n 1, 1) := by decide +kernel
theorem dX2_takeYes_21 : decode cX2_takeYes 21 = .ok (.dup2, 1) := by decide +kernel
theorem dX2_takeYes_22 : decode cX2_takeYes 22 = .ok (.iaload, 1) := by decide +kernel
theorem dX2_takeYes_23 : decode cX2_takeYes 23 = .ok (.iconst 1, 1) := by decide +kernel
theorem dX2_takeYes_24 : decode cX2_takeYes 24 = .ok (.iload_n 2, 1) := by decide +kernel
theorem dX2_takeYes_25 : decode cX2_takeYes 25 = .ok (.ishl, 1) := by decide +kernel
theorem dX2_takeYes_26 : decode cX2_takeYes 26 = .ok (.ior, 1) := by decide +kernel
theorem dX2_takeYes_27 : decode cX2_takeYes 27 = .ok (.iastore, 1) := by decide +kernel
theorem dX2_takeYes_28 : decode cX2_takeYes 28 = .ok (.aload_n 0, 1) := by decide +kernel
theorem dX2_takeYes_29 : decode cX2_takeYes 29 = .ok (.getfield 34, 3) := by decide +kernel
theorem dX2_takeYes_32 : decode cX2_takeYes 32 = .ok (.iload_n 1, 1) := by decide +kernel
theorem dX2_takeYes_33 : decode cX2_takeYes 33 = .ok (.iaload, 1) := by decide +kernel
theorem dX2_takeYes_34 : decode cX2_takeYes 34 = .ok (.aload_n 0, 1) := by decide +kernel
theorem dX2_takeYes_35 : decode cX2_takeYes 35 = .ok (.getfield 22, 3) := by decide +kernel
theorem dX2_takeYes_38 : decode cX2_takeYes 38 = .ok (.iload_n 1, 1) := by decide +kernel
theorem dX2_takeYes_39 : decode cX2_takeYes 39 = .ok (.iaload, 1) := by decide +kernel
theorem dX2_takeYes_40 : decode cX2_takeYes 40 = .ok (.if_icmp .ne 33, 3) := by decide +kernel
theorem dX2_takeYes_43 : decode cX2_takeYes 43 = .ok (.aload_n 0, 1) := by decide +kernel
theorem dX2_takeYes_44 : decode cX2_takeYes 44 = .ok (.getfield 25, 3) := by decide +kernel
theorem dX2_takeYes_47 : decode cX2_takeYes 47 = .ok (.iload_n 1, 1) := by decide +kernel
theorem dX2_takeYes_48 : decode cX2_takeYes 48 = .ok (.iconst 1, 1) := by decide +kernel
theorem dX2_takeYes_49 : decode cX2_takeYes 49 = .ok (.iastore, 1) := by decide +kernel
theorem dX2_takeYes_50 : decode cX2_takeYes 50 = .ok (.aload_n 0, 1) := by decide +kernel
theorem dX2_takeYes_51 : decode cX2_takeYes 51 = .ok (.getfield 31, 3) := by decide +kernel
theorem dX2_takeYes_54 : decode cX2_takeYes 54 = .ok (.iload_n 1, 1) := by decide +kernel
theorem dX2_takeYes_55 : decode cX2_takeYes 55 = .ok (.aload_n 0, 1) := by decide +kernel
theorem dX2_takeYes_56 : decode cX2_takeYes 56 = .ok (.getfield 46, 3) := by decide +kernel
theorem dX2_takeYes_59 : decode cX2_takeYes 59 = .ok (.iastore, 1) := by decide +kernel
theorem dX2_takeYes_60 : decode cX2_takeYes 60 = .ok (.aload_n 0, 1) := by decide +kernel
theorem dX2_takeYes_61 : decode cX2_takeYes 61 = .ok (.iconst 3, 1) := by decide +kernel
theorem dX2_takeYes_62 : decode cX2_takeYes 62 = .ok (.iload_n 1, 1) := by decide +kernel
theorem dX2_takeYes_63 : decode cX2_takeYes 63 = .ok (.iconst 4, 1) := by decide +kernel
theorem dX2_takeYes_64 : decode cX2_takeYes 64 = .ok (.aload_n 0, 1) := by decide +kernel
theorem dX2_takeYes_65 : decode cX2_takeYes 65 = .ok (.getfield 22, 3) := by decide +kernel
theorem dX2_takeYes_68 : decode cX2_takeYes 68 = .ok (.iload_n 1, 1) := by decide +kernel
theorem dX2_takeYes_69 : decode cX2_takeYes 69 = .ok (.iaload, 1) := by decide +kernel
theorem dX2_takeYes_70 : decode cX2_takeYes 70 = .ok (.invokevirtual 90, 3) := by decide +kernel
theorem dX2_takeYes_73 : decode cX2_takeYes 73 = .ok (.return_, 1) := by decide +kernel
theorem dX2_takeNo_0 : decode cX2_takeNo 0 = .ok (.aload_n 0, 1) := by decide +kernel
theorem dX2_takeNo_1 : decode cX2_takeNo 1 = .ok (.getfield 25, 3) := by decide +kernel
theorem dX2_takeNo_4 : decode cX2_takeNo 4 = .ok (.iload_n 1, 1) := by decide +kernel
theorem dX2_takeNo_5 : decode cX2_takeNo 5 = .ok (.iaload, 1) := by decide +kernel
theorem dX2_takeNo_6 : decode cX2_takeNo 6 = .ok (.ifCond .ne 29, 3) := by decide +kernel
theorem dX2_takeNo_9 : decode cX2_takeNo 9 = .ok (.aload_n 0, 1) := by decide +kernel
theorem dX2_takeNo_10 : decode cX2_takeNo 10 = .ok (.getfield 25, 3) := by decide +kernel
theorem dX2_takeNo_13 : decode cX2_takeNo 13 = .ok (.iload_n 1, 1) := by decide +kernel
theorem dX2_takeNo_14 : decode cX2_takeNo 14 = .ok (.iconst 2, 1) := by decide +kernel
theorem dX2_takeNo_15 : decode cX2_takeNo 15 = .ok (.iastore, 1) := by decide +kernel
theorem dX2_takeNo_16 : decode cX2_takeNo 16 = .ok (.aload_n 0, 1) := by decide +kernel
theorem dX2_takeNo_17 : decode cX2_takeNo 17 = .ok (.iconst 4, 1) := by decide +kernel
theorem dX2_takeNo_18 : decode cX2_takeNo 18 = .ok (.iload_n 1, 1) := by decide +kernel
theorem dX2_takeNo_19 : decode cX2_takeNo 19 = .ok (.iconst 4, 1) := by decide +kernel
theorem dX2_takeNo_20 : decode cX2_takeNo 20 = .ok (.aload_n 0, 1) := by decide +kernel
theorem dX2_takeNo_21 : decode cX2_takeNo 21 = .ok (.getfield 22, 3) := by decide +kernel
theorem dX2_takeNo_24 : decode cX2_takeNo 24 = .ok (.iload_n 1, 1) := by decide +kernel
theorem dX2_takeNo_25 : decode cX2_takeNo 25 = .ok (.iaload, 1) := by decide +kernel
theorem dX2_takeNo_26 : decode cX2_takeNo 26 = .ok (.iconst 1, 1) := by decide +kernel
theorem dX2_takeNo_27 : decode cX2_takeNo 27 = .ok (.iload_n 2, 1) := by decide +kernel
theorem dX2_takeNo_28 : decode cX2_takeNo 28 = .ok (.ishl, 1) := by decide +kernel
theorem dX2_takeNo_29 : decode cX2_takeNo 29 = .ok (.iconst (-1), 1) := by decide +kernel
theorem dX2_takeNo_30 : decode cX2_takeNo 30 = .ok (.ixor, 1) := by decide +kernel
theorem dX2_takeNo_31 : decode cX2_takeNo 31 = .ok (.iand, 1) := by decide +kernel
theorem dX2_takeNo_32 : decode cX2_takeNo 32 = .ok (.invokevirtual 90, 3) := by decide +kernel
theorem dX2_takeNo_35 : decode cX2_takeNo 35 = .ok (.return_, 1) := by decide +kernel
theorem dX2_takeReceipt_0 : decode cX2_takeReceipt 0 = .ok (.aload_n 0, 1) := by decide +kernel
theorem dX2_takeReceipt_1 : decode cX2_takeReceipt 1 = .ok (.getfield 25, 3) := by decide +kernel
theorem dX2_takeReceipt_4 : decode cX2_takeReceipt 4 = .ok (.iload_n 1, 1) := by decide +kernel
theorem dX2_takeReceipt_5 : decode cX2_takeReceipt 5 = .ok (.iaload, 1) := by decide +kernel
theorem dX2_takeReceipt_6 : decode cX2_takeReceipt 6 = .ok (.iconst 1, 1) := by decide +kernel
theorem dX2_takeReceipt_7 : decode cX2_takeReceipt 7 = .ok (.if_icmp .eq 4, 3) := by decide +kernel
theorem dX2_takeReceipt_10 : decode cX2_takeReceipt 10 = .ok (.return_, 1) := by decide +kernel
theorem dX2_takeReceipt_11 : decode cX2_takeReceipt 11 = .ok (.aload_n 0, 1) := by decide +kernel
theorem dX2_takeReceipt_12 : decode cX2_takeReceipt 12 = .ok (.getfield 37, 3) := by decide +kernel
theorem dX2_takeReceipt_15 : decode cX2_takeReceipt 15 = .ok (.iload_n 1, 1) := by decide +kernel
theorem dX2_takeReceipt_16 : decode cX2_takeReceipt 16 = .ok (.dup2, 1) := by decide +kernel
theorem dX2_takeReceipt_17 : decode cX2_takeReceipt 17 = .ok (.iaload, 1) := by decide +kernel
theorem dX2_takeReceipt_18 : decode cX2_takeReceipt 18 = .ok (.iconst 1, 1) := by decide +kernel
theorem dX2_takeReceipt_19 : decode cX2_takeReceipt 19 = .ok (.iload_n 2, 1) := by decide +kernel
theorem dX2_takeReceipt_20 : decode cX2_takeReceipt 20 = .ok (.ishl, 1) := by decide +kernel
theorem dX2_takeReceipt_21 : decode cX2_takeReceipt 21 = .ok (.ior, 1) := by decide +kernel
theorem dX2_takeReceipt_22 : decode cX2_takeReceipt 22 = .ok (.iastore, 1) := by decide +kernel
theorem dX2_takeReceipt_23 : decode cX2_takeReceipt 23 = .ok (.aload_n 0, 1) := by decide +kernel
theorem dX2_takeReceipt_24 : decode cX2_takeReceipt 24 = .ok (.getfield 37, 3) := by decide +kernel
theorem dX2_takeReceipt_27 : decode cX2_takeReceipt 27 = .ok (.iload_n 1, 1) := by decide +kernel
theorem dX2_takeReceipt_28 : decode cX2_takeReceipt 28 = .ok (.iaload, 1) := by decide +kernel
theorem dX2_takeReceipt_29 : decode cX2_takeReceipt 29 = .ok (.aload_n 0, 1) := by decide +kernel
theorem dX2_takeReceipt_30 : decode cX2_takeReceipt 30 = .ok (.getfield 22, 3) := by decide +kernel
theorem dX2_takeReceipt_33 : decode cX2_takeReceipt 33 = .ok (.iload_n 1, 1) := by decide +kernel
theorem dX2_takeReceipt_34 : decode cX2_takeReceipt 34 = .ok (.iaload, 1) := by decide +kernel
theorem dX2_takeReceipt_35 : decode cX2_takeReceipt 35 = .ok (.if_icmp .ne 10, 3) := by decide +kernel
theorem dX2_takeReceipt_38 : decode cX2_takeReceipt 38 = .ok (.aload_n 0, 1) := by decide +kernel
theorem dX2_takeReceipt_39 : decode cX2_takeReceipt 39 = .ok (.getfield 25, 3) := by decide +kernel
theorem dX2_takeReceipt_42 : decode cX2_takeReceipt 42 = .ok (.iload_n 1, 1) := by decide +kernel
theorem dX2_takeReceipt_43 : decode cX2_takeReceipt 43 = .ok (.iconst 3, 1) := by decide +kernel
theorem dX2_takeReceipt_44 : decode cX2_takeReceipt 44 = .ok (.iastore, 1) := by decide +kernel
theorem dX2_takeReceipt_45 : decode cX2_takeReceipt 45 = .ok (.return_, 1) := by decide +kernel
theorem dX2_answerAsBetween_0 : decode cX2_answerAsBetween 0 = .ok (.aload_n 0, 1) := by decide +kernel
theorem dX2_answerAsBetween_1 : decode cX2_answerAsBetween 1 = .ok (.getfield 25, 3) := by decide +kernel
theorem dX2_answerAsBetween_4 : decode cX2_answerAsBetween 4 = .ok (.iload_n 1, 1) := by decide +kernel
theorem dX2_answerAsBetween_5 : decode cX2_answerAsBetween 5 = .ok (.iaload, 1) := by decide +kernel
theorem dX2_answerAsBetween_6 : decode cX2_answerAsBetween 6 = .ok (.iconst 2, 1) := by decide +kernel
theorem dX2_answerAsBetween_7 : decode cX2_answerAsBetween 7 = .ok (.if_icmp .ne 17, 3) := by decide +kernel
theorem dX2_answerAsBetween_10 : decode cX2_answerAsBetween 10 = .ok (.aload_n 0, 1) := by decide +kernel
theorem dX2_answerAsBetween_11 : decode cX2_answerAsBetween 11 = .ok (.getfield 18, 3) := by decide +kernel
theorem dX2_answerAsBetween_14 : decode cX2_answerAsBetween 14 = .ok (.iconst 4, 1) := by decide +kernel
theorem dX2_answerAsBetween_15 : decode cX2_answerAsBetween 15 = .ok (.iload_n 1, 1) := by decide +kernel
theorem dX2_answerAsBetween_16 : decode cX2_answerAsBetween 16 = .ok (.iconst 4, 1) := by decide +kernel
theorem dX2_answerAsBetween_17 : decode cX2_answerAsBetween 17 = .ok (.iload_n 2, 1) := by decide +kernel
theorem dX2_answerAsBetween_18 : decode cX2_answerAsBetween 18 = .ok (.invokevirtual 130, 3) := by decide +kernel
theorem dX2_answerAsBetween_21 : decode cX2_answerAsBetween 21 = .ok (.goto 23, 3) := by decide +kernel
theorem dX2_answerAsBetween_24 : decode cX2_answerAsBetween 24 = .ok (.aload_n 0, 1) := by decide +kernel
theorem dX2_answerAsBetween_25 : decode cX2_answerAsBetween 25 = .ok (.getfield 25, 3) := by decide +kernel
theorem dX2_answerAsBetween_28 : decode cX2_answerAsBetween 28 = .ok (.iload_n 1, 1) := by decide +kernel
theorem dX2_answerAsBetween_29 : decode cX2_answerAsBetween 29 = .ok (.iaload, 1) := by decide +kernel
theorem dX2_answerAsBetween_30 : decode cX2_answerAsBetween 30 = .ok (.ifCond .eq 14, 3) := by decide +kernel
theorem dX2_answerAsBetween_33 : decode cX2_answerAsBetween 33 = .ok (.aload_n 0, 1) := by decide +kernel
theorem dX2_answerAsBetween_34 : decode cX2_answerAsBetween 34 = .ok (.getfield 18, 3) := by decide +kernel
theorem dX2_answerAsBetween_37 : decode cX2_answerAsBetween 37 = .ok (.iconst 3, 1) := by decide +kernel
theorem dX2_answerAsBetween_38 : decode cX2_answerAsBetween 38 = .ok (.iload_n 1, 1) := by decide +kernel
theorem dX2_answerAsBetween_39 : decode cX2_answerAsBetween 39 = .ok (.iconst 4, 1) := by decide +kernel
theorem dX2_answerAsBetween_40 : decode cX2_answerAsBetween 40 = .ok (.iload_n 2, 1) := by decide +kernel
theorem dX2_answerAsBetween_41 : decode cX2_answerAsBetween 41 = .ok (.invokevirtual 130, 3) := by decide +kernel
theorem dX2_answerAsBetween_44 : decode cX2_answerAsBetween 44 = .ok (.return_, 1) := by decide +kernel
theorem dX2_passTicks_0 : decode cX2_passTicks 0 = .ok (.iload_n 1, 1) := by decide +kernel
theorem dX2_passTicks_1 : decode cX2_passTicks 1 = .ok (.iconst 1, 1) := by decide +kernel
theorem dX2_passTicks_2 : decode cX2_passTicks 2 = .ok (.if_icmp .lt 9, 3) := by decide +kernel
theorem dX2_passTicks_5 : decode cX2_passTicks 5 = .ok (.iload_n 1, 1) := by decide +kernel
theorem dX2_passTicks_6 : decode cX2_passTicks 6 = .ok (.bipush 100, 2) := by decide +kernel
theorem dX2_passTicks_8 : decode cX2_passTicks 8 = .ok (.if_icmp .le 6, 3) := by decide +kernel
theorem dX2_passTicks_11 : decode cX2_passTicks 11 = .ok (.bipush (-2), 2) := by decide +kernel
theorem dX2_passTicks_13 : decode cX2_passTicks 13 = .ok (.ireturn, 1) := by decide +kernel
theorem dX2_passTicks_14 : decode cX2_passTicks 14 = .ok (.iconst 0, 1) := by decide +kernel
theorem dX2_passTicks_15 : decode cX2_passTicks 15 = .ok (.istore_n 2, 1) := by decide +kernel
theorem dX2_passTicks_16 : decode cX2_passTicks 16 = .ok (.iload_n 2, 1) := by decide +kernel
theorem dX2_passTicks_17 : decode cX2_passTicks 17 = .ok (.iload_n 1, 1) := by decide +kernel
theorem dX2_passTicks_18 : decode cX2_passTicks 18 = .ok (.if_icmp .ge 13, 3) := by decide +kernel
theorem dX2_passTicks_21 : decode cX2_passTicks 21 = .ok (.aload_n 0, 1) := by decide +kernel
theorem dX2_passTicks_22 : decode cX2_passTicks 22 = .ok (.invokevirtual 164, 3) := by decide +kernel
theorem dX2_passTicks_25 : decode cX2_passTicks 25 = .ok (.iinc 2 1, 3) := by decide +kernel
theorem dX2_passTicks_28 : decode cX2_passTicks 28 = .ok (.goto (-12), 3) := by decide +kernel
theorem dX2_passTicks_31 : decode cX2_passTicks 31 = .ok (.aload_n 0, 1) := by decide +kernel
theorem dX2_passTicks_32 : decode cX2_passTicks 32 = .ok (.getfield 46, 3) := by decide +kernel
theorem dX2_passTicks_35 : decode cX2_passTicks 35 = .ok (.ireturn, 1) := by decide +kernel
theorem dX2_passTick_0 : decode cX2_passTick 0 = .ok (.aload_n 0, 1) := by decide +kernel
theorem dX2_passTick_1 : decode cX2_passTick 1 = .ok (.iconst 4, 1) := by decide +kernel
theorem dX2_passTick_2 : decode cX2_passTick 2 = .ok (.invokevirtual 87, 3) := by decide +kernel
theorem dX2_passTick_5 : decode cX2_passTick 5 = .ok (.ifCond .ne 24, 3) := by decide +kernel
theorem dX2_passTick_8 : decode cX2_passTick 8 = .ok (.iconst 0, 1) := by decide +kernel
theorem dX2_passTick_9 : decode cX2_passTick 9 = .ok (.istore_n 1, 1) := by decide +kernel
theorem dX2_passTick_10 : decode cX2_passTick 10 = .ok (.iload_n 1, 1) := by decide +kernel
theorem dX2_passTick_11 : decode cX2_passTick 11 = .ok (.aload_n 0, 1) := by decide +kernel
theorem dX2_passTick_12 : decode cX2_passTick 12 = .ok (.getfield 56, 3) := by decide +kernel
theorem dX2_passTick_15 : decode cX2_passTick 15 = .ok (.if_icmp .ge 14, 3) := by decide +kernel
theorem dX2_passTick_18 : decode cX2_passTick 18 = .ok (.aload_n 0, 1) := by decide +kernel
theorem dX2_passTick_19 : decode cX2_passTick 19 = .ok (.iload_n 1, 1) := by decide +kernel
theorem dX2_passTick_20 : decode cX2_passTick 20 = .ok (.invokevirtual 167, 3) := by decide +kernel
theorem dX2_passTick_23 : decode cX2_passTick 23 = .ok (.iinc 1 1, 3) := by decide +kernel
theorem dX2_passTick_26 : decode cX2_passTick 26 = .ok (.goto (-16), 3) := by decide +kernel
theorem dX2_passTick_29 : decode cX2_passTick 29 = .ok (.iconst 0, 1) := by decide +kernel
theorem dX2_passTick_30 : decode cX2_passTick 30 = .ok (.istore_n 1, 1) := by decide +kernel
theorem dX2_passTick_31 : decode cX2_passTick 31 = .ok (.iload_n 1, 1) := by decide +kernel
theorem dX2_passTick_32 : decode cX2_passTick 32 = .ok (.iconst 4, 1) := by decide +kernel
theorem dX2_passTick_33 : decode cX2_passTick 33 = .ok (.if_icmp .ge 22, 3) := by decide +kernel
theorem dX2_passTick_36 : decode cX2_passTick 36 = .ok (.aload_n 0, 1) := by decide +kernel
theorem dX2_passTick_37 : decode cX2_passTick 37 = .ok (.iload_n 1, 1) := by decide +kernel
theorem dX2_passTick_38 : decode cX2_passTick 38 = .ok (.invokevirtual 87, 3) := by decide +kernel
theorem dX2_passTick_41 : decode cX2_passTick 41 = .ok (.ifCond .ne 8, 3) := by decide +kernel
theorem dX2_passTick_44 : decode cX2_passTick 44 = .ok (.aload_n 0, 1) := by decide +kernel
theorem dX2_passTick_45 : decode cX2_passTick 45 = .ok (.iload_n 1, 1) := by decide +kernel
theorem dX2_passTick_46 : decode cX2_passTick 46 = .ok (.invokevirtual 170, 3) := by decide +kernel
theorem dX2_passTick_49 : decode cX2_passTick 49 = .ok (.iinc 1 1, 3) := by decide +kernel
theorem dX2_passTick_52 : decode cX2_passTick 52 = .ok (.goto (-21), 3) := by decide +kernel
theorem dX2_passTick_55 : decode cX2_passTick 55 = .ok (.aload_n 0, 1) := by decide +kernel
theorem dX2_passTick_56 : decode cX2_passTick 56 = .ok (.dup, 1) := by decide +kernel
theorem dX2_passTick_57 : decode cX2_passTick 57 = .ok (.getfield 46, 3) := by decide +kernel
theorem dX2_passTick_60 : decode cX2_passTick 60 = .ok (.iconst 1, 1) := by decide +kernel
theorem dX2_passTick_61 : decode cX2_passTick 61 = .ok (.iadd, 1) := by decide +kernel
theorem dX2_passTick_62 : decode cX2_passTick 62 = .ok (.putfield 46, 3) := by decide +kernel
theorem dX2_passTick_65 : decode cX2_passTick 65 = .ok (.return_, 1) := by decide +kernel
theorem dX2_pressOn_0 : decode cX2_pressOn 0 = .ok (.aload_n 0, 1) := by decide +kernel
theorem dX2_pressOn_1 : decode cX2_pressOn 1 = .ok (.getfield 25, 3) := by decide +kernel
theorem dX2_pressOn_4 : decode cX2_pressOn 4 = .ok (.iload_n 1, 1) := by decide +kernel
theorem dX2_pressOn_5 : decode cX2_pressOn 5 = .ok (.iaload, 1) := by decide +kernel
theorem dX2_pressOn_6 : decode cX2_pressOn 6 = .ok (.ifCond .ne 46, 3) := by decide +kernel
theorem dX2_pressOn_9 : decode cX2_pressOn 9 = .ok (.aload_n 0, 1) := by decide +kernel
theorem dX2_pressOn_10 : decode cX2_pressOn 10 = .ok (.getfield 46, 3) := by decide +kernel
theorem dX2_pressOn_13 : decode cX2_pressOn 13 = .ok (.aload_n 0, 1) := by decide +kernel
theorem dX2_pressOn_14 : decode cX2_pressOn 14 = .ok (.getfield 28, 3) := by decide +kernel
theorem dX2_pressOn_17 : decode cX2_pressOn 17 = .ok (.iload_n 1, 1) := by decide +kernel
theorem dX2_pressOn_18 : decode cX2_pressOn 18 = .ok (.iaload, 1) := by decide +kernel
theorem dX2_pressOn_19 : decode cX2_pressOn 19 = .ok (.isub, 1) := by decide +kernel
theorem dX2_pressOn_20 : decode cX2_pressOn 20 = .ok (.aload_n 0, 1) := by decide +kernel
theorem dX2_pressOn_21 : decode cX2_pressOn 21 = .ok (.getfield 9, 3) := by decide +kernel
theorem dX2_pressOn_24 : decode cX2_pressOn 24 = .ok (.iconst 0, 1) := by decide +kernel
theorem dX2_pressOn_25 : decode cX2_pressOn 25 = .ok (.iaload, 1) := by decide +kernel
theorem dX2_pressOn_26 : decode cX2_pressOn 26 = .ok (.if_icmp .lt 77, 3) := by decide +kernel
theorem dX2_pressOn_29 : decode cX2_pressOn 29 = .ok (.aload_n 0, 1) := by decide +kernel
theorem dX2_pressOn_30 : decode cX2_pressOn 30 = .ok (.getfield 25, 3) := by decide +kernel
theorem dX2_pressOn_33 : decode cX2_pressOn 33 = .ok (.iload_n 1, 1) := by decide +kernel
theorem dX2_pressOn_34 : decode cX2_pressOn 34 = .ok (.iconst 2, 1) := by decide +kernel
theorem dX2_pressOn_35 : decode cX2_pressOn 35 = .ok (.iastore, 1) := by decide +kernel
theorem dX2_pressOn_36 : decode cX2_pressOn 36 = .ok (.aload_n 0, 1) := by decide +kernel
theorem dX2_pressOn_37 : decode cX2_pressOn 37 = .ok (.iconst 4, 1) := by decide +kernel
theorem dX2_pressOn_38 : decode cX2_pressOn 38 = .ok (.iload_n 1, 1) := by decide +kernel
theorem dX2_pressOn_39 : decode cX2_pressOn 39 = .ok (.iconst 4, 1) := by decide +kernel
theorem dX2_pressOn_40 : decode cX2_pressOn 40 = .ok (.aload_n 0, 1) := by decide +kernel
theorem dX2_pressOn_41 : decode cX2_pressOn 41 = .ok (.getfield 22, 3) := by decide +kernel
theorem dX2_pressOn_44 : decode cX2_pressOn 44 = .ok (.iload_n 1, 1) := by decide +kernel
theorem dX2_pressOn_45 : decode cX2_pressOn 45 = .ok (.iaload, 1) := by decide +kernel
theorem dX2_pressOn_46 : decode cX2_pressOn 46 = .ok (.invokevirtual 90, 3) := by decide +kernel
theorem dX2_pressOn_49 : decode cX2_pressOn 49 = .ok (.goto 54, 3) := by decide +kernel
theorem dX2_pressOn_52 : decode cX2_pressOn 52 = .ok (.aload_n 0, 1) := by decide +kernel
theorem dX2_pressOn_53 : decode cX2_pressOn 53 = .ok (.getfield 25, 3) := by decide +kernel
theorem dX2_pressOn_56 : decode cX2_pressOn 56 = .ok (.iload_n 1, 1) := by decide +kernel
theorem dX2_pressOn_57 : decode cX2_pressOn 57 = .ok (.iaload, 1) := by decide +kernel
theorem dX2_pressOn_58 : decode cX2_pressOn 58 = .ok (.iconst 1, 1) := by decide +kernel
theorem dX2_pressOn_59 : decode cX2_pressOn 59 = .ok (.if_icmp .ne 44, 3) := by decide +kernel
theorem dX2_pressOn_62 : decode cX2_pressOn 62 = .ok (.aload_n 0, 1) := by decide +kernel
theorem dX2_pressOn_63 : decode cX2_pressOn 63 = .ok (.aload_n 0, 1) := by decide +kernel
theorem dX2_pressOn_64 : decode cX2_pressOn 64 = .ok (.getfield 31, 3) := by decide +kernel
theorem dX2_pressOn_67 : decode cX2_pressOn 67 = .ok (.iload_n 1, 1) := by decide +kernel
theorem dX2_pressOn_68 : decode cX2_pressOn 68 = .ok (.iaload, 1) := by decide +kernel
theorem dX2_pressOn_69 : decode cX2_pressOn 69 = .ok (.aload_n 0, 1) := by decide +kernel
theorem dX2_pressOn_70 : decode cX2_pressOn 70 = .ok (.getfield 9, 3) := by decide +kernel
theorem dX2_pressOn_73 : decode cX2_pressOn 73 = .ok (.iconst 2, 1) := by decide +kernel
theorem dX2_pressOn_74 : decode cX2_pressOn 74 = .ok (.iaload, 1) := by decide +kernel
theorem dX2_pressOn_75 : decode cX2_pressOn 75 = .ok (.invokevirtual 173, 3) := by decide +kernel
theorem dX2_pressOn_78 : decode cX2_pressOn 78 = .ok (.ifCond .eq 25, 3) := by decide +kernel
theorem dX2_pressOn_81 : decode cX2_pressOn 81 = .ok (.aload_n 0, 1) := by decide +kernel
theorem dX2_pressOn_82 : decode cX2_pressOn 82 = .ok (.iconst 3, 1) := by decide +kernel
theorem dX2_pressOn_83 : decode cX2_pressOn 83 = .ok (.iload_n 1, 1) := by decide +kernel
theorem dX2_pressOn_84 : decode cX2_pressOn 84 = .ok (.iconst 4, 1) := by decide +kernel
theorem dX2_pressOn_85 : decode cX2_pressOn 85 = .ok (.aload_n 0, 1) := by decide +kernel
theorem dX2_pressOn_86 : decode cX2_pressOn 86 = .ok (.getfield 22, 3) := by decide +kernel
theorem dX2_pressOn_89 : decode cX2_pressOn 89 = .ok (.iload_n 1, 1) := by decide +kernel
theorem dX2_pressOn_90 : decode cX2_pressOn 90 = .ok (.iaload, 1) := by decide +kernel
theorem dX2_pressOn_91 : decode cX2_pressOn 91 = .ok (.aload_n 0, 1) := by decide +kernel
theorem dX2_pressOn_92 : decode cX2_pressOn 92 = .ok (.getfield 37, 3) := by decide +kernel
theorem dX2_pressOn_95 : decode cX2_pressOn 95 = .ok (.iload_n 1, 1) := by decide +kernel
theorem dX2_pressOn_96 : decode cX2_pressOn 96 = .ok (.iaload, 1) := by decide +kernel
theorem dX2_pressOn_97 : decode cX2_pressOn 97 = .ok (.iconst (-1), 1) := by decide +kernel
theorem dX2_pressOn_98 : decode cX2_pressOn 98 = .ok (.ixor, 1) := by decide +kernel
theorem dX2_pressOn_99 : decode cX2_pressOn 99 = .ok (.iand, 1) := by decide +kernel
theorem dX2_pressOn_100 : decode cX2_pressOn 100 = .ok (.invokevirtual 90, 3) := by decide +kernel
theorem dX2_pressOn_103 : decode cX2_pressOn 103 = .ok (.return_, 1) := by decide +kernel
theorem dX2_askInDoubt_0 : decode cX2_askInDoubt 0 = .ok (.iconst 0, 1) := by decide +kernel
theorem dX2_askInDoubt_1 : decode cX2_askInDoubt 1 = .ok (.istore_n 2, 1) := by decide +kernel
theorem dX2_askInDoubt_2 : decode cX2_askInDoubt 2 = .ok (.iload_n 2, 1) := by decide +kernel
theorem dX2_askInDoubt_3 : decode cX2_askInDoubt 3 = .ok (.aload_n 0, 1) := by decide +kernel
theorem dX2_askInDoubt_4 : decode cX2_askInDoubt 4 = .ok (.getfield 56, 3) := by decide +kernel
theorem dX2_askInDoubt_7 : decode cX2_askInDoubt 7 = .ok (.if_icmp .ge 84, 3) := by decide +kernel
theorem dX2_askInDoubt_10 : decode cX2_askInDoubt 10 = .ok (.aload_n 0, 1) := by decide +kernel
theorem dX2_askInDoubt_11 : decode cX2_askInDoubt 11 = .ok (.iload_n 2, 1) := by decide +kernel
theorem dX2_askInDoubt_12 : decode cX2_askInDoubt 12 = .ok (.iload_n 1, 1) := by decide +kernel
theorem dX2_askInDoubt_13 : decode cX2_askInDoubt 13 = .ok (.iconst 1, 1) := by decide +kernel
theorem dX2_askInDoubt_14 : decode cX2_askInDoubt 14 = .ok (.invokevirtual 123, 3) := by decide +kernel
theorem dX2_askInDoubt_17 : decode cX2_askInDoubt 17 = .ok (.ifCond .eq 68, 3) := by decide +kernel
theorem dX2_askInDoubt_20 : decode cX2_askInDoubt 20 = .ok (.aload_n 0, 1) := by decide +kernel
theorem dX2_askInDoubt_21 : decode cX2_askInDoubt 21 = .ok (.aload_n 0, 1) := by decide +kernel
theorem dX2_askInDoubt_22 : decode cX2_askInDoubt 22 = .ok (.getfield 43, 3) := by decide +kernel
theorem dX2_askInDoubt_25 : decode cX2_askInDoubt 25 = .ok (.iload_n 2, 1) := by decide +kernel
theorem dX2_askInDoubt_26 : decode cX2_askInDoubt 26 = .ok (.iconst 4, 1) := by decide +kernel
theorem dX2_askInDoubt_27 : decode cX2_askInDoubt 27 = .ok (.imul, 1) := by decide +kernel
theorem dX2_askInDoubt_28 : decode cX2_askInDoubt 28 = .ok (.iload_n 1, 1) := by decide +kernel
theorem dX2_askInDoubt_29 : decode cX2_askInDoubt 29 = .ok (.iadd, 1) := by decide +kernel
theorem dX2_askInDoubt_30 : decode cX2_askInDoubt 30 = .ok (.iaload, 1) := by decide +kernel
theorem dX2_askInDoubt_31 : decode cX2_askInDoubt 31 = .ok (.aload_n 0, 1) := by decide +kernel
theorem dX2_askInDoubt_32 : decode cX2_askInDoubt 32 = .ok (.getfield 9, 3) := by decide +kernel
theorem dX2_askInDoubt_35 : decode cX2_askInDoubt 35 = .ok (.iconst 1, 1) := by decide +kernel
theorem dX2_askInDoubt_36 : decode cX2_askInDoubt 36 = .ok (.iaload, 1) := by decide +kernel
theorem dX2_askInDoubt_37 : decode cX2_askInDoubt 37 = .ok (.invokevirtual 173, 3) := by decide +kernel
theorem dX2_askInDoubt_40 : decode cX2_askInDoubt 40 = .ok (.ifCond .eq 45, 3) := by decide +kernel
theorem dX2_askInDoubt_43 : decode cX2_askInDoubt 43 = .ok (.aload_n 0, 1) := by decide +kernel
theorem dX2_askInDoubt_44 : decode cX2_askInDoubt 44 = .ok (.getfield 18, 3) := by decide +kernel
theorem dX2_askInDoubt_47 : decode cX2_askInDoubt 47 = .ok (.bipush 6, 2) := by decide +kernel
theorem dX2_askInDoubt_49 : decode cX2_askInDoubt 49 = .ok (.iload_n 2, 1) := by decide +kernel
theorem dX2_askInDoubt_50 : decode cX2_askInDoubt 50 = .ok (.iload_n 1, 1) := by decide +kernel
theorem dX2_askInDoubt_51 : decode cX2_askInDoubt 51 = .ok (.iconst 4, 1) := by decide +kernel
theorem dX2_askInDoubt_52 : decode cX2_askInDoubt 52 = .ok (.invokevirtual 130, 3) := by decide +kernel
theorem dX2_askInDoubt_55 : decode cX2_askInDoubt 55 = .ok (.aload_n 0, 1) := by decide +kernel
theorem dX2_askInDoubt_56 : decode cX2_askInDoubt 56 = .ok (.getfield 9, 3) := by decide +kernel
theorem dX2_askInDoubt_59 : decode cX2_askInDoubt 59 = .ok (.iconst 3, 1) := by decide +kernel
theorem dX2_askInDoubt_60 : decode cX2_askInDoubt 60 = .ok (.iaload, 1) := by decide +kernel
theorem dX2_askInDoubt_61 : decode cX2_askInDoubt 61 = .ok (.iconst 1, 1) := by decide +kernel
theorem dX2_askInDoubt_62 : decode cX2_askInDoubt 62 = .ok (.if_icmp .ne 23, 3) := by decide +kernel
theorem dX2_askInDoubt_65 : decode cX2_askInDoubt 65 = .ok (.aload_n 0, 1) := by decide +kernel
theorem dX2_askInDoubt_66 : decode cX2_askInDoubt 66 = .ok (.bipush 6, 2) := by decide +kernel
theorem dX2_askInDoubt_68 : decode cX2_askInDoubt 68 = .ok (.iload_n 2, 1) := by decide +kernel
theorem dX2_askInDoubt_69 : decode cX2_askInDoubt 69 = .ok (.iload_n 1, 1) := by decide +kernel
theorem dX2_askInDoubt_70 : decode cX2_askInDoubt 70 = .ok (.aload_n 0, 1) := by decide +kernel
theorem dX2_askInDoubt_71 : decode cX2_askInDoubt 71 = .ok (.getfield 22, 3) := by decide +kernel
theorem dX2_askInDoubt_74 : decode cX2_askInDoubt 74 = .ok (.iload_n 2, 1) := by decide +kernel
theorem dX2_askInDoubt_75 : decode cX2_askInDoubt 75 = .ok (.iaload, 1) := by decide +kernel
theorem dX2_askInDoubt_76 : decode cX2_askInDoubt 76 = .ok (.iconst 1, 1) := by decide +kernel
theorem dX2_askInDoubt_77 : decode cX2_askInDoubt 77 = .ok (.iload_n 1, 1) := by decide +kernel
theorem dX2_askInDoubt_78 : decode cX2_askInDoubt 78 = .ok (.ishl, 1) := by decide +kernel
theorem dX2_askInDoubt_79 : decode cX2_askInDoubt 79 = .ok (.iconst (-1), 1) := by decide +kernel
theorem dX2_askInDoubt_80 : decode cX2_askInDoubt 80 = .ok (.ixor, 1) := by decide +kernel
theorem dX2_askInDoubt_81 : decode cX2_askInDoubt 81 = .ok (.iand, 1) := by decide +kernel
theorem dX2_askInDoubt_82 : decode cX2_askInDoubt 82 = .ok (.invokevirtual 90, 3) := by decide +kernel
theorem dX2_askInDoubt_85 : decode cX2_askInDoubt 85 = .ok (.iinc 2 1, 3) := by decide +kernel
theorem dX2_askInDoubt_88 : decode cX2_askInDoubt 88 = .ok (.goto (-86), 3) := by decide +kernel
theorem dX2_askInDoubt_91 : decode cX2_askInDoubt 91 = .ok (.return_, 1) := by decide +kernel
theorem dX2_isTimeAgain_0 : decode cX2_isTimeAgain 0 = .ok (.aload_n 0, 1) := by decide +kernel
theorem dX2_isTimeAgain_1 : decode cX2_isTimeAgain 1 = .ok (.getfield 46, 3) := by decide +kernel
theorem dX2_isTimeAgain_4 : decode cX2_isTimeAgain 4 = .ok (.iload_n 1, 1) := by decide +kernel
theorem dX2_isTimeAgain_5 : decode cX2_isTimeAgain 5 = .ok (.isub, 1) := by decide +kernel
theorem dX2_isTimeAgain_6 : decode cX2_isTimeAgain 6 = .ok (.istore_n 3, 1) := by decide +kernel
theorem dX2_isTimeAgain_7 : decode cX2_isTimeAgain 7 = .ok (.iload_n 2, 1) := by decide +kernel
theorem dX2_isTimeAgain_8 : decode cX2_isTimeAgain 8 = .ok (.ifCond .le 17, 3) := by decide +kernel
theorem dX2_isTimeAgain_11 : decode cX2_isTimeAgain 11 = .ok (.iload_n 3, 1) := by decide +kernel
theorem dX2_isTimeAgain_12 : decode cX2_isTimeAgain 12 = .ok (.ifCond .le 13, 3) := by decide +kernel
theorem dX2_isTimeAgain_15 : decode cX2_isTimeAgain 15 = .ok (.iload_n 3, 1) := by decide +kernel
theorem dX2_isTimeAgain_16 : decode cX2_isTimeAgain 16 = .ok (.iload_n 2, 1) := by decide +kernel
theorem dX2_isTimeAgain_17 : decode cX2_isTimeAgain 17 = .ok (.irem, 1) := by decide +kernel
theorem dX2_isTimeAgain_18 : decode cX2_isTimeAgain 18 = .ok (.ifCond .ne 7, 3) := by decide +kernel
theorem dX2_isTimeAgain_21 : decode cX2_isTimeAgain 21 = .ok (.iconst 1, 1) := by decide +kernel
theorem dX2_isTimeAgain_22 : decode cX2_isTimeAgain 22 = .ok (.goto 4, 3) := by decide +kernel
theorem dX2_isTimeAgain_25 : decode cX2_isTimeAgain 25 = .ok (.iconst 0, 1) := by decide +kernel
theorem dX2_isTimeAgain_26 : decode cX2_isTimeAgain 26 = .ok (.ireturn, 1) := by decide +kernel
theorem dX2_numberOfDeal_0 : decode cX2_numberOfDeal 0 = .ok (.aload_n 0, 1) := by decide +kernel
theorem dX2_numberOfDeal_1 : decode cX2_numberOfDeal 1 = .ok (.iload_n 1, 1) := by decide +kernel
theorem dX2_numberOfDeal_2 : decode cX2_numberOfDeal 2 = .ok (.invokevirtual 185, 3) := by decide +kernel
theorem dX2_numberOfDeal_5 : decode cX2_numberOfDeal 5 = .ok (.ifCond .ne 5, 3) := by decide +kernel
theorem dX2_numberOfDeal_8 : decode cX2_numberOfDeal 8 = .ok (.iconst (-1), 1) := by decide +kernel
theorem dX2_numberOfDeal_9 : decode cX2_numberOfDeal 9 = .ok (.ireturn, 1) := by decide +kernel
theorem dX2_numberOfDeal_10 : decode cX2_numberOfDeal 10 = .ok (.iload_n 2, 1) := by decide +kernel
theorem dX2_numberOfDeal_11 : decode cX2_numberOfDeal 11 = .ok (.tableswitch 112 0 8 #[49, 56, 63, 70, 77, 84, 91, 98, 105], 49) := by decide +kernel
theorem dX2_numberOfDeal_60 : decode cX2_numberOfDeal 60 = .ok (.aload_n 0, 1) := by decide +kernel
theorem dX2_numberOfDeal_61 : decode cX2_numberOfDeal 61 = .ok (.getfield 22, 3) := by decide +kernel
theorem dX2_numberOfDeal_64 : decode cX2_numberOfDeal 64 = .ok (.iload_n 1, 1) := by decide +kernel
theorem dX2_numberOfDeal_65 : decode cX2_numberOfDeal 65 = .ok (.iaload, 1) := by decide +kernel
theorem dX2_numberOfDeal_66 : decode cX2_numberOfDeal 66 = .ok (.ireturn, 1) := by decide +kernel
theorem dX2_numberOfDeal_67 : decode cX2_numberOfDeal 67 = .ok (.aload_n 0, 1) := by decide +kernel
theorem dX2_numberOfDeal_68 : decode cX2_numberOfDeal 68 = .ok (.getfield 25, 3) := by decide +kernel
theorem dX2_numberOfDeal_71 : decode cX2_numberOfDeal 71 = .ok (.iload_n 1, 1) := by decide +kernel
theorem dX2_numberOfDeal_72 : decode cX2_numberOfDeal 72 = .ok (.iaload, 1) := by decide +kernel
theorem dX2_numberOfDeal_73 : decode cX2_numberOfDeal 73 = .ok (.ireturn, 1) := by decide +kernel
theorem dX2_numberOfDeal_74 : decode cX2_numberOfDeal 74 = .ok (.aload_n 0, 1) := by decide +kernel
theorem dX2_numberOfDeal_75 : decode cX2_numberOfDeal 75 = .ok (.getfield 28, 3) := by decide +kernel
theorem dX2_numberOfDeal_78 : decode cX2_numberOfDeal 78 = .ok (.iload_n 1, 1) := by decide +kernel
theorem dX2_numberOfDeal_79 : decode cX2_numberOfDeal 79 = .ok (.iaload, 1) := by decide +kernel
theorem dX2_numberOfDeal_80 : decode cX2_numberOfDeal 80 = .ok (.ireturn, 1) := by decide +kernel
theorem dX2_numberOfDeal_81 : decode cX2_numberOfDeal 81 = .ok (.aload_n 0, 1) := by decide +kernel
theorem dX2_numberOfDeal_82 : decode cX2_numberOfDeal 82 = .ok (.getfield 34, 3) := by decide +kernel
theorem dX2_numberOfDeal_85 : decode cX2_numberOfDeal 85 = .ok (.iload_n 1, 1) := by decide +kernel
theorem dX2_numberOfDeal_86 : decode cX2_numberOfDeal 86 = .ok (.iaload, 1) := by decide +kernel
theorem dX2_numberOfDeal_87 : decode cX2_numberOfDeal 87 = .ok (.ireturn, 1) := by decide +kernel
theorem dX2_numberOfDeal_88 : decode cX2_numberOfDeal 88 = .ok (.aload_n 0, 1) := by decide +kernel
theorem dX2_numberOfDeal_89 : decode cX2_numberOfDeal 89 = .ok (.getfield 37, 3) := by decide +kernel
theorem dX2_numberOfDeal_92 : decode cX2_numberOfDeal 92 = .ok (.iload_n 1, 1) := by decide +kernel
theorem dX2_numberOfDeal_93 : decode cX2_numberOfDeal 93 = .ok (.iaload, 1) := by decide +kernel
theorem dX2_numberOfDeal_94 : decode cX2_numberOfDeal 94 = .ok (.ireturn, 1) := by decide +kernel
theorem dX2_numberOfDeal_95 : decode cX2_numberOfDeal 95 = .ok (.aload_n 0, 1) := by decide +kernel
theorem dX2_numberOfDeal_96 : decode cX2_numberOfDeal 96 = .ok (.iload_n 1, 1) := by decide +kernel
theorem dX2_numberOfDeal_97 : decode cX2_numberOfDeal 97 = .ok (.iconst 0, 1) := by decide +kernel
theorem dX2_numberOfDeal_98 : decode cX2_numberOfDeal 98 = .ok (.invokevirtual 73, 3) := by decide +kernel
theorem dX2_numberOfDeal_101 : decode cX2_numberOfDeal 101 = .ok (.ireturn, 1) := by decide +kernel
theorem dX2_numberOfDeal_102 : decode cX2_numberOfDeal 102 = .ok (.aload_n 0, 1) := by decide +kernel
theorem dX2_numberOfDeal_103 : decode cX2_numberOfDeal 103 = .ok (.iload_n 1, 1) := by decide +kernel
theorem dX2_numberOfDeal_104 : decode cX2_numberOfDeal 104 = .ok (.iconst 1, 1) := by decide +kernel
theorem dX2_numberOfDeal_105 : decode cX2_numberOfDeal 105 = .ok (.invokevirtual 73, 3) := by decide +kernel
theorem dX2_numberOfDeal_108 : decode cX2_numberOfDeal 108 = .ok (.ireturn, 1) := by decide +kernel
theorem dX2_numberOfDeal_109 : decode cX2_numberOfDeal 109 = .ok (.aload_n 0, 1) := by decide +kernel
theorem dX2_numberOfDeal_110 : decode cX2_numberOfDeal 110 = .ok (.iload_n 1, 1) := by decide +kernel
theorem dX2_numberOfDeal_111 : decode cX2_numberOfDeal 111 = .ok (.iconst 2, 1) := by decide +kernel
theorem dX2_numberOfDeal_112 : decode cX2_numberOfDeal 112 = .ok (.invokevirtual 73, 3) := by decide +kernel
theorem dX2_numberOfDeal_115 : decode cX2_numberOfDeal 115 = .ok (.ireturn, 1) := by decide +kernel
theorem dX2_numberOfDeal_116 : decode cX2_numberOfDeal 116 = .ok (.aload_n 0, 1) := by decide +kernel
theorem dX2_numberOfDeal_117 : decode cX2_numberOfDeal 117 = .ok (.iload_n 1, 1) := by decide +kernel
theorem dX2_numberOfDeal_118 : decode cX2_numberOfDeal 118 = .ok (.iconst 3, 1) := by decide +kernel
theorem dX2_numberOfDeal_119 : decode cX2_numberOfDeal 119 = .ok (.invokevirtual 73, 3) := by decide +kernel
theorem dX2_numberOfDeal_122 : decode cX2_numberOfDeal 122 = .ok (.ireturn, 1) := by decide +kernel
theorem dX2_numberOfDeal_123 : decode cX2_numberOfDeal 123 = .ok (.bipush (-2), 2) := by decide +kernel
theorem dX2_numberOfDeal_125 : decode cX2_numberOfDeal 125 = .ok (.ireturn, 1) := by decide +kernel
theorem dX2_standingFor_0 : decode cX2_standingFor 0 = .ok (.aload_n 0, 1) := by decide +kernel
theorem dX2_standingFor_1 : decode cX2_standingFor 1 = .ok (.iload_n 1, 1) := by decide +kernel
theorem dX2_standingFor_2 : decode cX2_standingFor 2 = .ok (.invokevirtual 185, 3) := by decide +kernel
theorem dX2_standingFor_5 : decode cX2_standingFor 5 = .ok (.ifCond .eq 10, 3) := by decide +kernel
theorem dX2_standingFor_8 : decode cX2_standingFor 8 = .ok (.iload_n 2, 1) := by decide +kernel
theorem dX2_standingFor_9 : decode cX2_standingFor 9 = .ok (.invokestatic 83, 3) := by decide +kernel
theorem dX2_standingFor_12 : decode cX2_standingFor 12 = .ok (.ifCond .ne 5, 3) := by decide +kernel
theorem dX2_standingFor_15 : decode cX2_standingFor 15 = .ok (.iconst (-1), 1) := by decide +kernel
theorem dX2_standingFor_16 : decode cX2_standingFor 16 = .ok (.ireturn, 1) := by decide +kernel
theorem dX2_standingFor_17 : decode cX2_standingFor 17 = .ok (.iconst 0, 1) := by decide +kernel
theorem dX2_standingFor_18 : decode cX2_standingFor 18 = .ok (.istore_n 3, 1) := by decide +kernel
theorem dX2_standingFor_19 : decode cX2_standingFor 19 = .ok (.iload_n 3, 1) := by decide +kernel
theorem dX2_standingFor_20 : decode cX2_standingFor 20 = .ok (.iconst 4, 1) := by decide +kernel
theorem dX2_standingFor_21 : decode cX2_standingFor 21 = .ok (.if_icmp .ge 21, 3) := by decide +kernel
theorem dX2_standingFor_24 : decode cX2_standingFor 24 = .ok (.aload_n 0, 1) := by decide +kernel
theorem dX2_standingFor_25 : decode cX2_standingFor 25 = .ok (.iload_n 1, 1) := by decide +kernel
theorem dX2_standingFor_26 : decode cX2_standingFor 26 = .ok (.iload_n 2, 1) := by decide +kernel
theorem dX2_standingFor_27 : decode cX2_standingFor 27 = .ok (.iload_n 3, 1) := by decide +kernel
theorem dX2_standingFor_28 : decode cX2_standingFor 28 = .ok (.invokevirtual 123, 3) := by decide +kernel
theorem dX2_standingFor_31 : decode cX2_standingFor 31 = .ok (.ifCond .eq 5, 3) := by decide +kernel
theorem dX2_standingFor_34 : decode cX2_standingFor 34 = .ok (.iload_n 3, 1) := by decide +kernel
theorem dX2_standingFor_35 : decode cX2_standingFor 35 = .ok (.ireturn, 1) := by decide +kernel
theorem dX2_standingFor_36 : decode cX2_standingFor 36 = .ok (.iinc 3 1, 3) := by decide +kernel
theorem dX2_standingFor_39 : decode cX2_standingFor 39 = .ok (.goto (-20), 3) := by decide +kernel
theorem dX2_standingFor_42 : decode cX2_standingFor 42 = .ok (.bipush (-6), 2) := by decide +kernel
theorem dX2_standingFor_44 : decode cX2_standingFor 44 = .ok (.ireturn, 1) := by decide +kernel
theorem dX2_numberOfSomebody_0 : decode cX2_numberOfSomebody 0 = .ok (.iload_n 1, 1) := by decide +kernel
theorem dX2_numberOfSomebody_1 : decode cX2_numberOfSomebody 1 = .ok (.invokestatic 110, 3) := by decide +kernel
theorem dX2_numberOfSomebody_4 : decode cX2_numberOfSomebody 4 = .ok (.ifCond .ne 5, 3) := by decide +kernel
theorem dX2_numberOfSomebody_7 : decode cX2_numberOfSomebody 7 = .ok (.iconst (-1), 1) := by decide +kernel
theorem dX2_numberOfSomebody_8 : decode cX2_numberOfSomebody 8 = .ok (.ireturn, 1) := by decide +kernel
theorem dX2_numberOfSomebody_9 : decode cX2_numberOfSomebody 9 = .ok (.iload_n 2, 1) := by decide +kernel
theorem dX2_numberOfSomebody_10 : decode cX2_numberOfSomebody 10 = .ok (.tableswitch 94 0 4 #[34, 48, 65, 74, 84], 34) := by decide +kernel
theorem dX2_numberOfSomebody_44 : decode cX2_numberOfSomebody 44 = .ok (.aload_n 0, 1) := by decide +kernel
theorem dX2_numberOfSomebody_45 : decode cX2_numberOfSomebody 45 = .ok (.iload_n 1, 1) := by decide +kernel
theorem dX2_numberOfSomebody_46 : decode cX2_numberOfSomebody 46 = .ok (.invokevirtual 87, 3) := by decide +kernel
theorem dX2_numberOfSomebody_49 : decode cX2_numberOfSomebody 49 = .ok (.ifCond .eq 7, 3) := by decide +kernel
theorem dX2_numberOfSomebody_52 : decode cX2_numberOfSomebody 52 = .ok (.iconst 1, 1) := by decide +kernel
theorem dX2_numberOfSomebody_53 : decode cX2_numberOfSomebody 53 = .ok (.goto 4, 3) := by decide +kernel
theorem dX2_numberOfSomebody_56 : decode cX2_numberOfSomebody 56 = .ok (.iconst 0, 1) := by decide +kernel
theorem dX2_numberOfSomebody_57 : decode cX2_numberOfSomebody 57 = .ok (.ireturn, 1) := by decide +kernel
theorem dX2_numberOfSomebody_58 : decode cX2_numberOfSomebody 58 = .ok (.aload_n 0, 1) := by decide +kernel
theorem dX2_numberOfSomebody_59 : decode cX2_numberOfSomebody 59 = .ok (.getfield 53, 3) := by decide +kernel
theorem dX2_numberOfSomebody_62 : decode cX2_numberOfSomebody 62 = .ok (.iload_n 1, 1) := by decide +kernel
theorem dX2_numberOfSomebody_63 : decode cX2_numberOfSomebody 63 = .ok (.invokestatic 69, 3) := by decide +kernel
theorem dX2_numberOfSomebody_66 : decode cX2_numberOfSomebody 66 = .ok (.ifCond .eq 7, 3) := by decide +kernel
theorem dX2_numberOfSomebody_69 : decode cX2_numberOfSomebody 69 = .ok (.iconst 0, 1) := by decide +kernel
theorem dX2_numberOfSomebody_70 : decode cX2_numberOfSomebody 70 = .ok (.goto 4, 3) := by decide +kernel
theorem dX2_numberOfSomebody_73 : decode cX2_numberOfSomebody 73 = .ok (.iconst 1, 1) := by decide +kernel
theorem dX2_numberOfSomebody_74 : decode cX2_numberOfSomebody 74 = .ok (.ireturn, 1) := by decide +kernel
theorem dX2_numberOfSomebody_75 : decode cX2_numberOfSomebody 75 = .ok (.aload_n 0, 1) := by decide +kernel
theorem dX2_numberOfSomebody_76 : decode cX2_numberOfSomebody 76 = .ok (.getfield 18, 3) := by decide +kernel
theorem dX2_numberOfSomebody_79 : decode cX2_numberOfSomebody 79 = .ok (.iload_n 1, 1) := by decide +kernel
theorem dX2_numberOfSomebody_80 : decode cX2_numberOfSomebody 80 = .ok (.invokevirtual 188, 3) := by decide +kernel
theorem dX2_numberOfSomebody_83 : decode cX2_numberOfSomebody 83 = .ok (.ireturn, 1) := by decide +kernel
theorem dX2_numberOfSomebody_84 : decode cX2_numberOfSomebody 84 = .ok (.aload_n 0, 1) := by decide +kernel
theorem dX2_numberOfSomebody_85 : decode cX2_numberOfSomebody 85 = .ok (.getfield 18, 3) := by decide +kernel
theorem dX2_numberOfSomebody_88 : decode cX2_numberOfSomebody 88 = .ok (.getfield 136, 3) := by decide +kernel
theorem dX2_numberOfSomebody_91 : decode cX2_numberOfSomebody 91 = .ok (.iload_n 1, 1) := by decide +kernel
theorem dX2_numberOfSomebody_92 : decode cX2_numberOfSomebody 92 = .ok (.iaload, 1) := by decide +kernel
theorem dX2_numberOfSomebody_93 : decode cX2_numberOfSomebody 93 = .ok (.ireturn, 1) := by decide +kernel
theorem dX2_numberOfSomebody_94 : decode cX2_numberOfSomebody 94 = .ok (.aload_n 0, 1) := by decide +kernel
theorem dX2_numberOfSomebody_95 : decode cX2_numberOfSomebody 95 = .ok (.getfield 18, 3) := by decide +kernel
theorem dX2_numberOfSomebody_98 : decode cX2_numberOfSomebody 98 = .ok (.getfield 191, 3) := by decide +kernel
theorem dX2_numberOfSomebody_101 : decode cX2_numberOfSomebody 101 = .ok (.iload_n 1, 1) := by decide +kernel
theorem dX2_numberOfSomebody_102 : decode cX2_numberOfSomebody 102 = .ok (.iaload, 1) := by decide +kernel
theorem dX2_numberOfSomebody_103 : decode cX2_numberOfSomebody 103 = .ok (.ireturn, 1) := by decide +kernel
theorem dX2_numberOfSomebody_104 : decode cX2_numberOfSomebody 104 = .ok (.bipush (-2), 2) := by decide +kernel
theorem dX2_numberOfSomebody_106 : decode cX2_numberOfSomebody 106 = .ok (.ireturn, 1) := by decide +kernel
theorem dX2_numberOfAll_0 : decode cX2_numberOfAll 0 = .ok (.iload_n 1, 1) := by decide +kernel
theorem dX2_numberOfAll_1 : decode cX2_numberOfAll 1 = .ok (.tableswitch 154 0 13 #[71, 76, 81, 89, 97, 154, 154, 105, 112, 119, 126, 133, 140, 147], 71) := by decide +kernel
theorem dX2_numberOfAll_72 : decode cX2_numberOfAll 72 = .ok (.aload_n 0, 1) := by decide +kernel
theorem dX2_numberOfAll_73 : decode cX2_numberOfAll 73 = .ok (.getfield 46, 3) := by decide +kernel
theorem dX2_numberOfAll_76 : decode cX2_numberOfAll 76 = .ok (.ireturn, 1) := by decide +kernel
theorem dX2_numberOfAll_77 : decode cX2_numberOfAll 77 = .ok (.aload_n 0, 1) := by decide +kernel
theorem dX2_numberOfAll_78 : decode cX2_numberOfAll 78 = .ok (.getfield 56, 3) := by decide +kernel
theorem dX2_numberOfAll_81 : decode cX2_numberOfAll 81 = .ok (.ireturn, 1) := by decide +kernel
theorem dX2_numberOfAll_82 : decode cX2_numberOfAll 82 = .ok (.aload_n 0, 1) := by decide +kernel
theorem dX2_numberOfAll_83 : decode cX2_numberOfAll 83 = .ok (.getfield 18, 3) := by decide +kernel
theorem dX2_numberOfAll_86 : decode cX2_numberOfAll 86 = .ok (.getfield 104, 3) := by decide +kernel
theorem dX2_numberOfAll_89 : decode cX2_numberOfAll 89 = .ok (.ireturn, 1) := by decide +kernel
theorem dX2_numberOfAll_90 : decode cX2_numberOfAll 90 = .ok (.aload_n 0, 1) := by decide +kernel
theorem dX2_numberOfAll_91 : decode cX2_numberOfAll 91 = .ok (.getfield 18, 3) := by decide +kernel
theorem dX2_numberOfAll_94 : decode cX2_numberOfAll 94 = .ok (.invokevirtual 194, 3) := by decide +kernel
theorem dX2_numberOfAll_97 : decode cX2_numberOfAll 97 = .ok (.ireturn, 1) := by decide +kernel
theorem dX2_numberOfAll_98 : decode cX2_numberOfAll 98 = .ok (.aload_n 0, 1) := by decide +kernel
theorem dX2_numberOfAll_99 : decode cX2_numberOfAll 99 = .ok (.getfield 18, 3) := by decide +kernel
theorem dX2_numberOfAll_102 : decode cX2_numberOfAll 102 = .ok (.getfield 101, 3) := by decide +kernel
theorem dX2_numberOfAll_105 : decode cX2_numberOfAll 105 = .ok (.ireturn, 1) := by decide +kernel
theorem dX2_numberOfAll_106 : decode cX2_numberOfAll 106 = .ok (.aload_n 0, 1) := by decide +kernel
theorem dX2_numberOfAll_107 : decode cX2_numberOfAll 107 = .ok (.getfield 9, 3) := by decide +kernel
theorem dX2_numberOfAll_110 : decode cX2_numberOfAll 110 = .ok (.iconst 0, 1) := by decide +kernel
theorem dX2_numberOfAll_111 : decode cX2_numberOfAll 111 = .ok (.iaload, 1) := by decide +kernel
theorem dX2_numberOfAll_112 : decode cX2_numberOfAll 112 = .ok (.ireturn, 1) := by decide +kernel
theorem dX2_numberOfAll_113 : decode cX2_numberOfAll 113 = .ok (.aload_n 0, 1) := by decide +kernel
theorem dX2_numberOfAll_114 : decode cX2_numberOfAll 114 = .ok (.getfield 9, 3) := by decide +kernel
theorem dX2_numberOfAll_117 : decode cX2_numberOfAll 117 = .ok (.iconst 1, 1) := by decide +kernel
theorem dX2_numberOfAll_118 : decode cX2_numberOfAll 118 = .ok (.iaload, 1) := by decide +kernel
theorem dX2_numberOfAll_119 : decode cX2_numberOfAll 119 = .ok (.ireturn, 1) := by decide +kernel
theorem dX2_numberOfAll_120 : decode cX2_numberOfAll 120 = .ok (.aload_n 0, 1) := by decide +kernel
theorem dX2_numberOfAll_121 : decode cX2_numberOfAll 121 = .ok (.getfield 9, 3) := by decide +kernel
theorem dX2_numberOfAll_124 : decode cX2_numberOfAll 124 = .ok (.iconst 2, 1) := by decide +kernel
theorem dX2_numberOfAll_125 : decode cX2_numberOfAll 125 = .ok (.iaload, 1) := by decide +kernel
theorem dX2_numberOfAll_126 : decode cX2_numberOfAll 126 = .ok (.ireturn, 1) := by decide +kernel
theorem dX2_numberOfAll_127 : decode cX2_numberOfAll 127 = .ok (.aload_n 0, 1) := by decide +kernel
theorem dX2_numberOfAll_128 : decode cX2_numberOfAll 128 = .ok (.getfield 9, 3) := by decide +kernel
theorem dX2_numberOfAll_131 : decode cX2_numberOfAll 131 = .ok (.iconst 3, 1) := by decide +kernel
theorem dX2_numberOfAll_132 : decode cX2_numberOfAll 132 = .ok (.iaload, 1) := by decide +kernel
theorem dX2_numberOfAll_133 : decode cX2_numberOfAll 133 = .ok (.ireturn, 1) := by decide +kernel
theorem dX2_numberOfAll_134 : decode cX2_numberOfAll 134 = .ok (.aload_n 0, 1) := by decide +kernel
theorem dX2_numberOfAll_135 : decode cX2_numberOfAll 135 = .ok (.iconst 2, 1) := by decide +kernel
theorem dX2_numberOfAll_136 : decode cX2_numberOfAll 136 = .ok (.iconst 2, 1) := by decide +kernel
theorem dX2_numberOfAll_137 : decode cX2_numberOfAll 137 = .ok (.invokevirtual 198, 3) := by decide +kernel
theorem dX2_numberOfAll_140 : decode cX2_numberOfAll 140 = .ok (.ireturn, 1) := by decide +kernel
theorem dX2_numberOfAll_141 : decode cX2_numberOfAll 141 = .ok (.aload_n 0, 1) := by decide +kernel
theorem dX2_numberOfAll_142 : decode cX2_numberOfAll 142 = .ok (.iconst 3, 1) := by decide +kernel
theorem dX2_numberOfAll_143 : decode cX2_numberOfAll 143 = .ok (.iconst 3, 1) := by decide +kernel
theorem dX2_numberOfAll_144 : decode cX2_numberOfAll 144 = .ok (.invokevirtual 198, 3) := by decide +kernel
theorem dX2_numberOfAll_147 : decode cX2_numberOfAll 147 = .ok (.ireturn, 1) := by decide +kernel
theorem dX2_numberOfAll_148 : decode cX2_numberOfAll 148 = .ok (.aload_n 0, 1) := by decide +kernel
theorem dX2_numberOfAll_149 : decode cX2_numberOfAll 149 = .ok (.iconst 2, 1) := by decide +kernel
theorem dX2_numberOfAll_150 : decode cX2_numberOfAll 150 = .ok (.iconst 3, 1) := by decide +kernel
theorem dX2_numberOfAll_151 : decode cX2_numberOfAll 151 = .ok (.invokevirtual 198, 3) := by decide +kernel
theorem dX2_numberOfAll_154 : decode cX2_numberOfAll 154 = .ok (.ireturn, 1) := by decide +kernel
theorem dX2_numberOfAll_155 : decode cX2_numberOfAll 155 = .ok (.bipush (-2), 2) := by decide +kernel
theorem dX2_numberOfAll_157 : decode cX2_numberOfAll 157 = .ok (.ireturn, 1) := by decide +kernel
theorem dX2_dealsWithBoth_0 : decode cX2_dealsWithBoth 0 = .ok (.iconst 0, 1) := by decide +kernel
theorem dX2_dealsWithBoth_1 : decode cX2_dealsWithBoth 1 = .ok (.istore_n 3, 1) := by decide +kernel
theorem dX2_dealsWithBoth_2 : decode cX2_dealsWithBoth 2 = .ok (.iconst 0, 1) := by decide +kernel
theorem dX2_dealsWithBoth_3 : decode cX2_dealsWithBoth 3 = .ok (.istore 4, 2) := by decide +kernel
theorem dX2_dealsWithBoth_5 : decode cX2_dealsWithBoth 5 = .ok (.iload 4, 2) := by decide +kernel
theorem dX2_dealsWithBoth_7 : decode cX2_dealsWithBoth 7 = .ok (.aload_n 0, 1) := by decide +kernel
theorem dX2_dealsWithBoth_8 : decode cX2_dealsWithBoth 8 = .ok (.getfield 56, 3) := by decide +kernel
theorem dX2_dealsWithBoth_11 : decode cX2_dealsWithBoth 11 = .ok (.if_icmp .ge 32, 3) := by decide +kernel
theorem dX2_dealsWithBoth_14 : decode cX2_dealsWithBoth 14 = .ok (.aload_n 0, 1) := by decide +kernel
theorem dX2_dealsWithBoth_15 : decode cX2_dealsWithBoth 15 = .ok (.iload 4, 2) := by decide +kernel
theorem dX2_dealsWithBoth_17 : decode cX2_dealsWithBoth 17 = .ok (.iload_n 1, 1) := by decide +kernel
theorem dX2_dealsWithBoth_18 : decode cX2_dealsWithBoth 18 = .ok (.invokevirtual 73, 3) := by decide +kernel
theorem dX2_dealsWithBoth_21 : decode cX2_dealsWithBoth 21 = .ok (.ifCond .eq 16, 3) := by decide +kernel
theorem dX2_dealsWithBoth_24 : decode cX2_dealsWithBoth 24 = .ok (.aload_n 0, 1) := by decide +kernel
theorem dX2_dealsWithBoth_25 : decode cX2_dealsWithBoth 25 = .ok (.iload 4, 2) := by decide +kernel
theorem dX2_dealsWithBoth_27 : decode cX2_dealsWithBoth 27 = .ok (.iload_n 2, 1) := by decide +kernel
theorem dX2_dealsWithBoth_28 : decode cX2_dealsWithBoth 28 = .ok (.invokevirtual 73, 3) := by decide +kernel
theorem dX2_dealsWithBoth_31 : decode cX2_dealsWithBoth 31 = .ok (.ifCond .eq 6, 3) := by decide +kernel
theorem dX2_dealsWithBoth_34 : decode cX2_dealsWithBoth 34 = .ok (.iinc 3 1, 3) := by decide +kernel
theorem dX2_dealsWithBoth_37 : decode cX2_dealsWithBoth 37 = .ok (.iinc 4 1, 3) := by decide +kernel
theorem dX2_dealsWithBoth_40 : decode cX2_dealsWithBoth 40 = .ok (.goto (-35), 3) := by decide +kernel
theorem dX2_dealsWithBoth_43 : decode cX2_dealsWithBoth 43 = .ok (.iload_n 3, 1) := by decide +kernel
theorem dX2_dealsWithBoth_44 : decode cX2_dealsWithBoth 44 = .ok (.ireturn, 1) := by decide +kernel
theorem dX2_whatIsSure_0 : decode cX2_whatIsSure 0 = .ok (.aload_n 0, 1) := by decide +kernel
theorem dX2_whatIsSure_1 : decode cX2_whatIsSure 1 = .ok (.iload_n 1, 1) := by decide +kernel
theorem dX2_whatIsSure_2 : decode cX2_whatIsSure 2 = .ok (.invokevirtual 185, 3) := by decide +kernel
theorem dX2_whatIsSure_5 : decode cX2_whatIsSure 5 = .ok (.ifCond .ne 5, 3) := by decide +kernel
theorem dX2_whatIsSure_8 : decode cX2_whatIsSure 8 = .ok (.iconst (-1), 1) := by decide +kernel
theorem dX2_whatIsSure_9 : decode cX2_whatIsSure 9 = .ok (.ireturn, 1) := by decide +kernel
theorem dX2_whatIsSure_10 : decode cX2_whatIsSure 10 = .ok (.aload_n 0, 1) := by decide +kernel
theorem dX2_whatIsSure_11 : decode cX2_whatIsSure 11 = .ok (.getfield 25, 3) := by decide +kernel
theorem dX2_whatIsSure_14 : decode cX2_whatIsSure 14 = .ok (.iload_n 1, 1) := by decide +kernel
theorem dX2_whatIsSure_15 : decode cX2_whatIsSure 15 = .ok (.iaload, 1) := by decide +kernel
theorem dX2_whatIsSure_16 : decode cX2_whatIsSure 16 = .ok (.iconst 1, 1) := by decide +kernel
theorem dX2_whatIsSure_17 : decode cX2_whatIsSure 17 = .ok (.if_icmp .eq 13, 3) := by decide +kernel
theorem dX2_whatIsSure_20 : decode cX2_whatIsSure 20 = .ok (.aload_n 0, 1) := by decide +kernel
theorem dX2_whatIsSure_21 : decode cX2_whatIsSure 21 = .ok (.getfield 25, 3) := by decide +kernel
theorem dX2_whatIsSure_24 : decode cX2_whatIsSure 24 = .ok (.iload_n 1, 1) := by decide +kernel
theorem dX2_whatIsSure_25 : decode cX2_whatIsSure 25 = .ok (.iaload, 1) := by decide +kernel
theorem dX2_whatIsSure_26 : decode cX2_whatIsSure 26 = .ok (.iconst 3, 1) := by decide +kernel
theorem dX2_whatIsSure_27 : decode cX2_whatIsSure 27 = .ok (.if_icmp .ne 5, 3) := by decide +kernel
theorem dX2_whatIsSure_30 : decode cX2_whatIsSure 30 = .ok (.iconst 1, 1) := by decide +kernel
theorem dX2_whatIsSure_31 : decode cX2_whatIsSure 31 = .ok (.ireturn, 1) := by decide +kernel
theorem dX2_whatIsSure_32 : decode cX2_whatIsSure 32 = .ok (.aload_n 0, 1) := by decide +kernel
theorem dX2_whatIsSure_33 : decode cX2_whatIsSure 33 = .ok (.getfield 25, 3) := by decide +kernel
theorem dX2_whatIsSure_36 : decode cX2_whatIsSure 36 = .ok (.iload_n 1, 1) := by decide +kernel
theorem dX2_whatIsSure_37 : decode cX2_whatIsSure 37 = .ok (.iaload, 1) := by decide +kernel
theorem dX2_whatIsSure_38 : decode cX2_whatIsSure 38 = .ok (.iconst 2, 1) := by decide +kernel
theorem dX2_whatIsSure_39 : decode cX2_whatIsSure 39 = .ok (.if_icmp .eq 12, 3) := by decide +kernel
theorem dX2_whatIsSure_42 : decode cX2_whatIsSure 42 = .ok (.aload_n 0, 1) := by decide +kernel
theorem dX2_whatIsSure_43 : decode cX2_whatIsSure 43 = .ok (.iload_n 1, 1) := by decide +kernel
theorem dX2_whatIsSure_44 : decode cX2_whatIsSure 44 = .ok (.iconst 3, 1) := by decide +kernel
theorem dX2_whatIsSure_45 : decode cX2_whatIsSure 45 = .ok (.invokevirtual 73, 3) := by decide +kernel
theorem dX2_whatIsSure_48 : decode cX2_whatIsSure 48 = .ok (.ifCond .eq 7, 3) := by decide +kernel
theorem dX2_whatIsSure_51 : decode cX2_whatIsSure 51 = .ok (.iconst 2, 1) := by decide +kernel
theorem dX2_whatIsSure_52 : decode cX2_whatIsSure 52 = .ok (.goto 4, 3) := by decide +kernel
theorem dX2_whatIsSure_55 : decode cX2_whatIsSure 55 = .ok (.iconst 0, 1) := by decide +kernel
theorem dX2_whatIsSure_56 : decode cX2_whatIsSure 56 = .ok (.ireturn, 1) := by decide +kernel
theorem dX2_whoFindsOut_0 : decode cX2_whoFindsOut 0 = .ok (.aload_n 0, 1) := by decide +kernel
theorem dX2_whoFindsOut_1 : decode cX2_whoFindsOut 1 = .ok (.iload_n 1, 1) := by decide +kernel
theorem dX2_whoFindsOut_2 : decode cX2_whoFindsOut 2 = .ok (.invokevirtual 185, 3) := by decide +kernel
theorem dX2_whoFindsOut_5 : decode cX2_whoFindsOut 5 = .ok (.ifCond .ne 5, 3) := by decide +kernel
theorem dX2_whoFindsOut_8 : decode cX2_whoFindsOut 8 = .ok (.iconst (-1), 1) := by decide +kernel
theorem dX2_whoFindsOut_9 : decode cX2_whoFindsOut 9 = .ok (.ireturn, 1) := by decide +kernel
theorem dX2_whoFindsOut_10 : decode cX2_whoFindsOut 10 = .ok (.aload_n 0, 1) := by decide +kernel
theorem dX2_whoFindsOut_11 : decode cX2_whoFindsOut 11 = .ok (.iload_n 1, 1) := by decide +kernel
theorem dX2_whoFindsOut_12 : decode cX2_whoFindsOut 12 = .ok (.iconst 1, 1) := by decide +kernel
theorem dX2_whoFindsOut_13 : decode cX2_whoFindsOut 13 = .ok (.invokevirtual 73, 3) := by decide +kernel
theorem dX2_whoFindsOut_16 : decode cX2_whoFindsOut 16 = .ok (.istore_n 2, 1) := by decide +kernel
theorem dX2_whoFindsOut_17 : decode cX2_whoFindsOut 17 = .ok (.aload_n 0, 1) := by decide +kernel
theorem dX2_whoFindsOut_18 : decode cX2_whoFindsOut 18 = .ok (.getfield 22, 3) := by decide +kernel
theorem dX2_whoFindsOut_21 : decode cX2_whoFindsOut 21 = .ok (.iload_n 1, 1) := by decide +kernel
theorem dX2_whoFindsOut_22 : decode cX2_whoFindsOut 22 = .ok (.iaload, 1) := by decide +kernel
theorem dX2_whoFindsOut_23 : decode cX2_whoFindsOut 23 = .ok (.iload_n 2, 1) := by decide +kernel
theorem dX2_whoFindsOut_24 : decode cX2_whoFindsOut 24 = .ok (.iconst (-1), 1) := by decide +kernel
theorem dX2_whoFindsOut_25 : decode cX2_whoFindsOut 25 = .ok (.ixor, 1) := by decide +kernel
theorem dX2_whoFindsOut_26 : decode cX2_whoFindsOut 26 = .ok (.iand, 1) := by decide +kernel
theorem dX2_whoFindsOut_27 : decode cX2_whoFindsOut 27 = .ok (.aload_n 0, 1) := by decide +kernel
theorem dX2_whoFindsOut_28 : decode cX2_whoFindsOut 28 = .ok (.getfield 50, 3) := by decide +kernel
theorem dX2_whoFindsOut_31 : decode cX2_whoFindsOut 31 = .ok (.iconst (-1), 1) := by decide +kernel
theorem dX2_whoFindsOut_32 : decode cX2_whoFindsOut 32 = .ok (.ixor, 1) := by decide +kernel
theorem dX2_whoFindsOut_33 : decode cX2_whoFindsOut 33 = .ok (.iand, 1) := by decide +kernel
theorem dX2_whoFindsOut_34 : decode cX2_whoFindsOut 34 = .ok (.istore_n 3, 1) := by decide +kernel
theorem dX2_whoFindsOut_35 : decode cX2_whoFindsOut 35 = .ok (.aload_n 0, 1) := by decide +kernel
theorem dX2_whoFindsOut_36 : decode cX2_whoFindsOut 36 = .ok (.iconst 4, 1) := by decide +kernel
theorem dX2_whoFindsOut_37 : decode cX2_whoFindsOut 37 = .ok (.invokevirtual 87, 3) := by decide +kernel
theorem dX2_whoFindsOut_40 : decode cX2_whoFindsOut 40 = .ok (.ifCond .ne 16, 3) := by decide +kernel
theorem dX2_whoFindsOut_43 : decode cX2_whoFindsOut 43 = .ok (.aload_n 0, 1) := by decide +kernel
theorem dX2_whoFindsOut_44 : decode cX2_whoFindsOut 44 = .ok (.getfield 25, 3) := by decide +kernel
theorem dX2_whoFindsOut_47 : decode cX2_whoFindsOut 47 = .ok (.iload_n 1, 1) := by decide +kernel
theorem dX2_whoFindsOut_48 : decode cX2_whoFindsOut 48 = .ok (.iaload, 1) := by decide +kernel
theorem dX2_whoFindsOut_49 : decode cX2_whoFindsOut 49 = .ok (.ifCond .eq 7, 3) := by decide +kernel
theorem dX2_whoFindsOut_52 : decode cX2_whoFindsOut 52 = .ok (.iconst 1, 1) := by decide +kernel
theorem dX2_whoFindsOut_53 : decode cX2_whoFindsOut 53 = .ok (.goto 4, 3) := by decide +kernel
theorem dX2_whoFindsOut_56 : decode cX2_whoFindsOut 56 = .ok (.iconst 0, 1) := by decide +kernel
theorem dX2_whoFindsOut_57 : decode cX2_whoFindsOut 57 = .ok (.istore 4, 2) := by decide +kernel
theorem dX2_whoFindsOut_59 : decode cX2_whoFindsOut 59 = .ok (.aload_n 0, 1) := by decide +kernel
theorem dX2_whoFindsOut_60 : decode cX2_whoFindsOut 60 = .ok (.getfield 9, 3) := by decide +kernel
theorem dX2_whoFindsOut_63 : decode cX2_whoFindsOut 63 = .ok (.iconst 3, 1) := by decide +kernel
theorem dX2_whoFindsOut_64 : decode cX2_whoFindsOut 64 = .ok (.iaload, 1) := by decide +kernel
theorem dX2_whoFindsOut_65 : decode cX2_whoFindsOut 65 = .ok (.iconst 1, 1) := by decide +kernel
theorem dX2_whoFindsOut_66 : decode cX2_whoFindsOut 66 = .ok (.if_icmp .ne 11, 3) := by decide +kernel
theorem dX2_whoFindsOut_69 : decode cX2_whoFindsOut 69 = .ok (.iload_n 3, 1) := by decide +kernel
theorem dX2_whoFindsOut_70 : decode cX2_whoFindsOut 70 = .ok (.ifCond .eq 7, 3) := by decide +kernel
theorem dX2_whoFindsOut_73 : decode cX2_whoFindsOut 73 = .ok (.iconst 1, 1) := by decide +kernel
theorem dX2_whoFindsOut_74 : decode cX2_whoFindsOut 74 = .ok (.goto 4, 3) := by decide +kernel
theorem dX2_whoFindsOut_77 : decode cX2_whoFindsOut 77 = .ok (.iconst 0, 1) := by decide +kernel
theorem dX2_whoFindsOut_78 : decode cX2_whoFindsOut 78 = .ok (.istore 5, 2) := by decide +kernel
theorem dX2_whoFindsOut_80 : decode cX2_whoFindsOut 80 = .ok (.iload 4, 2) := by decide +kernel
theorem dX2_whoFindsOut_82 : decode cX2_whoFindsOut 82 = .ok (.ifCond .ne 8, 3) := by decide +kernel
theorem dX2_whoFindsOut_85 : decode cX2_whoFindsOut 85 = .ok (.iload 5, 2) := by decide +kernel
theorem dX2_whoFindsOut_87 : decode cX2_whoFindsOut 87 = .ok (.ifCond .eq 14, 3) := by decide +kernel
theorem dX2_whoFindsOut_90 : decode cX2_whoFindsOut 90 = .ok (.iload_n 2, 1) := by decide +kernel
theorem dX2_whoFindsOut_91 : decode cX2_whoFindsOut 91 = .ok (.aload_n 0, 1) := by decide +kernel
theorem dX2_whoFindsOut_92 : decode cX2_whoFindsOut 92 = .ok (.getfield 50, 3) := by decide +kernel
theorem dX2_whoFindsOut_95 : decode cX2_whoFindsOut 95 = .ok (.iconst (-1), 1) := by decide +kernel
theorem dX2_whoFindsOut_96 : decode cX2_whoFindsOut 96 = .ok (.ixor, 1) := by decide +kernel
theorem dX2_whoFindsOut_97 : decode cX2_whoFindsOut 97 = .ok (.iand, 1) := by decide +kernel
theorem dX2_whoFindsOut_98 : decode cX2_whoFindsOut 98 = .ok (.goto 4, 3) := by decide +kernel
theorem dX2_whoFindsOut_101 : decode cX2_whoFindsOut 101 = .ok (.iconst 0, 1) := by decide +kernel
theorem dX2_whoFindsOut_102 : decode cX2_whoFindsOut 102 = .ok (.ireturn, 1) := by decide +kernel
theorem dX3_init_0 : decode cX3_init 0 = .ok (.aload_n 0, 1) := by decide +kernel
theorem dX3_init_1 : decode cX3_init 1 = .ok (.invokespecial 1, 3) := by decide +kernel
theorem dX3_init_4 : decode cX3_init 4 = .ok (.aload_n 0, 1) := by decide +kernel
theorem dX3_init_5 : decode cX3_init 5 = .ok (.new 7, 3) := by decide +kernel
theorem dX3_init_8 : decode cX3_init 8 = .ok (.dup, 1) := by decide +kernel
theorem dX3_init_9 : decode cX3_init 9 = .ok (.invokespecial 9, 3) := by decide +kernel
theorem dX3_init_12 : decode cX3_init 12 = .ok (.putfield 10, 3) := by decide +kernel
theorem dX3_init_15 : decode cX3_init 15 = .ok (.aload_n 0, 1) := by decide +kernel
theorem dX3_init_16 : decode cX3_init 16 = .ok (.new 7, 3) := by decide +kernel
theorem dX3_init_19 : decode cX3_init 19 = .ok (.dup, 1) := by decide +kernel
theorem dX3_init_20 : decode cX3_init 20 = .ok (.invokespecial 9, 3) := by decide +kernel
theorem dX3_init_23 : decode cX3_init 23 = .ok (.putfield 16, 3) := by decide +kernel
theorem dX3_init_26 : decode cX3_init 26 = .ok (.aload_n 0, 1) := by decide +kernel
theorem dX3_init_27 : decode cX3_init 27 = .ok (.bipush 7, 2) := by decide +kernel
theorem dX3_init_29 : decode cX3_init 29 = .ok (.anewarray 7, 3) := by decide +kernel
theorem dX3_init_32 : decode cX3_init 32 = .ok (.putfield 19, 3) := by decide +kernel
theorem dX3_init_35 : decode cX3_init 35 = .ok (.aload_n 0, 1) := by decide +kernel
theorem dX3_init_36 : decode cX3_init 36 = .ok (.iconst 2, 1) := by decide +kernel
theorem dX3_init_37 : decode cX3_init 37 = .ok (.anewarray 7, 3) := by decide +kernel
theorem dX3_init_40 : decode cX3_init 40 = .ok (.putfield 23, 3) := by decide +kernel
theorem dX3_init_43 : decode cX3_init 43 = .ok (.aload_n 0, 1) := by decide +kernel
theorem dX3_init_44 : decode cX3_init 44 = .ok (.bipush 60, 2) := by decide +kernel
theorem dX3_init_46 : decode cX3_init 46 = .ok (.newarray .char, 2) := by decide +kernel
theorem dX3_init_48 : decode cX3_init 48 = .ok (.putfield 26, 3) := by decide +kernel
theorem dX3_init_51 : decode cX3_init 51 = .ok (.aload_n 0, 1) := by decide +kernel
theorem dX3_init_52 : decode cX3_init 52 = .ok (.new 30, 3) := by decide +kernel
theorem dX3_init_55 : decode cX3_init 55 = .ok (.dup, 1) := by decide +kernel
theorem dX3_init_56 : decode cX3_init 56 = .ok (.invokespecial 32, 3) := by decide +kernel
theorem dX3_init_59 : decode cX3_init 59 = .ok (.putfield 33, 3) := by decide +kernel
theorem dX3_init_62 : decode cX3_init 62 = .ok (.iconst 0, 1) := by decide +kernel
theorem dX3_init_63 : decode cX3_init 63 = .ok (.istore_n 1, 1) := by decide +kernel
theorem dX3_init_64 : decode cX3_init 64 = .ok (.iload_n 1, 1) := by decide +kernel
theorem dX3_init_65 : decode cX3_init 65 = .ok (.aload_n 0, 1) := by decide +kernel
theorem dX3_init_66 : decode cX3_init 66 = .ok (.getfield 19, 3) := by decide +kernel
theorem dX3_init_69 : decode cX3_init 69 = .ok (.arraylength, 1) := by decide +kernel
theorem dX3_init_70 : decode cX3_init 70 = .ok (.if_icmp .ge 22, 3) := by decide +kernel
theorem dX3_init_73 : decode cX3_init 73 = .ok (.aload_n 0, 1) := by decide +kernel
theorem dX3_init_74 : decode cX3_init 74 = .ok (.getfield 19, 3) := by decide +kernel
theorem dX3_init_77 : decode cX3_init 77 = .ok (.iload_n 1, 1) := by decide +kernel
theorem dX3_init_78 : decode cX3_init 78 = .ok (.new 7, 3) := by decide +kernel
theorem dX3_init_81 : decode cX3_init 81 = .ok (.dup, 1) := by decide +kernel
theorem dX3_init_82 : decode cX3_init 82 = .ok (.invokespecial 9, 3) := by decide +kernel
theorem dX3_init_85 : decode cX3_init 85 = .ok (.aastore, 1) := by decide +kernel
theorem dX3_init_86 : decode cX3_init 86 = .ok (.iinc 1 1, 3) := by decide +kernel
theorem dX3_init_89 : decode cX3_init 89 = .ok (.goto (-25), 3) := by decide +kernel
theorem dX3_init_92 : decode cX3_init 92 = .ok (.iconst 0, 1) := by decide +kernel
theorem dX3_init_93 : decode cX3_init 93 = .ok (.istore_n 1, 1) := by decide +kernel
theorem dX3_init_94 : decode cX3_init 94 = .ok (.iload_n 1, 1) := by decide +kernel
theorem dX3_init_95 : decode cX3_init 95 = .ok (.aload_n 0, 1) := by decide +kernel
theorem dX3_init_96 : decode cX3_init 96 = .ok (.getfield 23, 3) := by decide +kernel
theorem dX3_init_99 : decode cX3_init 99 = .ok (.arraylength, 1) := by decide +kernel
theorem dX3_init_100 : decode cX3_init 100 = .ok (.if_icmp .ge 22, 3) := by decide +kernel
theorem dX3_init_103 : decode cX3_init 103 = .ok (.aload_n 0, 1) := by decide +kernel
theorem dX3_init_104 : decode cX3_init 104 = .ok (.getfield 23, 3) := by decide +kernel
theorem dX3_init_107 : decode cX3_init 107 = .ok (.iload_n 1, 1) := by decide +kernel
theorem dX3_init_108 : decode cX3_init 108 = .ok (.new 7, 3) := by decide +kernel
theorem dX3_init_111 : decode cX3_init 111 = .ok (.dup, 1) := by decide +kernel
theorem dX3_init_112 : decode cX3_init 112 = .ok (.invokespecial 9, 3) := by decide +kernel
theorem dX3_init_115 : decode cX3_init 115 = .ok (.aastore, 1) := by decide +kernel
theorem dX3_init_116 : decode cX3_init 116 = .ok (.iinc 1 1, 3) := by decide +kernel
theorem dX3_init_119 : decode cX3_init 119 = .ok (.goto (-25), 3) := by decide +kernel
theorem dX3_init_122 : decode cX3_init 122 = .ok (.return_, 1) := by decide +kernel
theorem dX3_set_0 : decode cX3_set 0 = .ok (.aload_n 0, 1) := by decide +kernel
theorem dX3_set_1 : decode cX3_set 1 = .ok (.invokevirtual 37, 3) := by decide +kernel
theorem dX3_set_4 : decode cX3_set 4 = .ok (.aload_n 0, 1) := by decide +kernel
theorem dX3_set_5 : decode cX3_set 5 = .ok (.aload_n 0, 1) := by decide +kernel
theorem dX3_set_6 : decode cX3_set 6 = .ok (.getfield 10, 3) := by decide +kernel
theorem dX3_set_9 : decode cX3_set 9 = .ok (.iload_n 1, 1) := by decide +kernel
theorem dX3_set_10 : decode cX3_set 10 = .ok (.iload_n 2, 1) := by decide +kernel
theorem dX3_set_11 : decode cX3_set 11 = .ok (.invokevirtual 40, 3) := by decide +kernel
theorem dX3_set_14 : decode cX3_set 14 = .ok (.invokevirtual 44, 3) := by decide +kernel
theorem dX3_set_17 : decode cX3_set 17 = .ok (.ireturn, 1) := by decide +kernel
theorem dX3_willing_0 : decode cX3_willing 0 = .ok (.aload_n 0, 1) := by decide +kernel
theorem dX3_willing_1 : decode cX3_willing 1 = .ok (.invokevirtual 37, 3) := by decide +kernel
theorem dX3_willing_4 : decode cX3_willing 4 = .ok (.aload_n 0, 1) := by decide +kernel
theorem dX3_willing_5 : decode cX3_willing 5 = .ok (.aload_n 0, 1) := by decide +kernel
theorem dX3_willing_6 : decode cX3_willing 6 = .ok (.getfield 10, 3) := by decide +kernel
theorem dX3_willing_9 : decode cX3_willing 9 = .ok (.iload_n 1, 1) := by decide +kernel
theorem dX3_willing_10 : decode cX3_willing 10 = .ok (.iload_n 2, 1) := by decide +kernel
theorem dX3_willing_11 : decode cX3_willing 11 = .ok (.invokevirtual 48, 3) := by decide +kernel
theorem dX3_willing_14 : decode cX3_willing 14 = .ok (.invokevirtual 44, 3) := by decide +kernel
theorem dX3_willing_17 : decode cX3_willing 17 = .ok (.ireturn, 1) := by decide +kernel
theorem dX3_open_0 : decode cX3_open 0 = .ok (.aload_n 0, 1) := by decide +kernel
theorem dX3_open_1 : decode cX3_open 1 = .ok (.invokevirtual 37, 3) := by decide +kernel
theorem dX3_open_4 : decode cX3_open 4 = .ok (.aload_n 0, 1) := by decide +kernel
theorem dX3_open_5 : decode cX3_open 5 = .ok (.aload_n 0, 1) := by decide +kernel
theorem dX3_open_6 : decode cX3_open 6 = .ok (.getfield 10, 3) := by decide +kernel
theorem dX3_open_9 : decode cX3_open 9 = .ok (.iload_n 1, 1) := by decide +kernel
theorem dX3_open_10 : decode cX3_open 10 = .ok (.invokevirtual 51, 3) := by decide +kernel
theorem dX3_open_13 : decode cX3_open 13 = .ok (.invokevirtual 44, 3) := by decide +kernel
theorem dX3_open_16 : decode cX3_open 16 = .ok (.ireturn, 1) := by decide +kernel
theorem dX3_deliver_0 : decode cX3_deliver 0 = .ok (.aload_n 0, 1) := by decide +kernel
theorem dX3_deliver_1 : decode cX3_deliver 1 = .ok (.invokevirtual 37, 3) := by decide +kernel
theorem dX3_deliver_4 : decode cX3_deliver 4 = .ok (.aload_n 0, 1) := by decide +kernel
theorem dX3_deliver_5 : decode cX3_deliver 5 = .ok (.aload_n 0, 1) := by decide +kernel
theorem dX3_deliver_6 : decode cX3_deliver 6 = .ok (.getfield 10, 3) := by decide +kernel
theorem dX3_deliver_9 : decode cX3_deliver 9 = .ok (.iload_n 1, 1) := by decide +kernel
theorem dX3_deliver_10 : decode cX3_deliver 10 = .ok (.invokevirtual 54, 3) := by decide +kernel
theorem dX3_deliver_13 : decode cX3_deliver 13 = .ok (.invokevirtual 44, 3) := by decide +kernel
theorem dX3_deliver_16 : decode cX3_deliver 16 = .ok (.ireturn, 1) := by decide +kernel
theorem dX3_lose_0 : decode cX3_lose 0 = .ok (.aload_n 0, 1) := by decide +kernel
theorem dX3_lose_1 : decode cX3_lose 1 = .ok (.invokevirtual 37, 3) := by decide +kernel
theorem dX3_lose_4 : decode cX3_lose 4 = .ok (.aload_n 0, 1) := by decide +kernel
theorem dX3_lose_5 : decode cX3_lose 5 = .ok (.aload_n 0, 1) := by decide +kernel
theorem dX3_lose_6 : decode cX3_lose 6 = .ok (.getfield 10, 3) := by decide +kernel
theorem dX3_lose_9 : decode cX3_lose 9 = .ok (.iload_n 1, 1) := by decide +kernel
theorem dX3_lose_10 : decode cX3_lose 10 = .ok (.invokevirtual 57, 3) := by decide +kernel
theorem dX3_lose_13 : decode cX3_lose 13 = .ok (.invokevirtual 44, 3) := by decide +kernel
theorem dX3_lose_16 : decode cX3_lose 16 = .ok (.ireturn, 1) := by decide +kernel
theorem dX3_twice_0 : decode cX3_twice 0 = .ok (.aload_n 0, 1) := by decide +kernel
theorem dX3_twice_1 : decode cX3_twice 1 = .ok (.invokevirtual 37, 3) := by decide +kernel
theorem dX3_twice_4 : decode cX3_twice 4 = .ok (.aload_n 0, 1) := by decide +kernel
theorem dX3_twice_5 : decode cX3_twice 5 = .ok (.aload_n 0, 1) := by decide +kernel
theorem dX3_twice_6 : decode cX3_twice 6 = .ok (.getfield 10, 3) := by decide +kernel
theorem dX3_twice_9 : decode cX3_twice 9 = .ok (.iload_n 1, 1) := by decide +kernel
theorem dX3_twice_10 : decode cX3_twice 10 = .ok (.invokevirtual 60, 3) := by decide +kernel
theorem dX3_twice_13 : decode cX3_twice 13 = .ok (.invokevirtual 44, 3) := by decide +kernel
theorem dX3_twice_16 : decode cX3_twice 16 = .ok (.ireturn, 1) := by decide +kernel
theorem dX3_fall_0 : decode cX3_fall 0 = .ok (.aload_n 0, 1) := by decide +kernel
theorem dX3_fall_1 : decode cX3_fall 1 = .ok (.invokevirtual 37, 3) := by decide +kernel
theorem dX3_fall_4 : decode cX3_fall 4 = .ok (.aload_n 0, 1) := by decide +kernel
theorem dX3_fall_5 : decode cX3_fall 5 = .ok (.aload_n 0, 1) := by decide +kernel
theorem dX3_fall_6 : decode cX3_fall 6 = .ok (.getfield 10, 3) := by decide +kernel
theorem dX3_fall_9 : decode cX3_fall 9 = .ok (.iload_n 1, 1) := by decide +kernel
theorem dX3_fall_10 : decode cX3_fall 10 = .ok (.invokevirtual 63, 3) := by decide +kernel
theorem dX3_fall_13 : decode cX3_fall 13 = .ok (.invokevirtual 44, 3) := by decide +kernel
theorem dX3_fall_16 : decode cX3_fall 16 = .ok (.ireturn, 1) := by decide +kernel
theorem dX3_rise_0 : decode cX3_rise 0 = .ok (.aload_n 0, 1) := by decide +kernel
theorem dX3_rise_1 : decode cX3_rise 1 = .ok (.invokevirtual 37, 3) := by decide +kernel
theorem dX3_rise_4 : decode cX3_rise 4 = .ok (.aload_n 0, 1) := by decide +kernel
theorem dX3_rise_5 : decode cX3_rise 5 = .ok (.aload_n 0, 1) := by decide +kernel
theorem dX3_rise_6 : decode cX3_rise 6 = .ok (.getfield 10, 3) := by decide +kernel
theorem dX3_rise_9 : decode cX3_rise 9 = .ok (.iload_n 1, 1) := by decide +kernel
theorem dX3_rise_10 : decode cX3_rise 10 = .ok (.invokevirtual 66, 3) := by decide +kernel
theorem dX3_rise_13 : decode cX3_rise 13 = .ok (.invokevirtual 44, 3) := by decide +kernel
theorem dX3_rise_16 : decode cX3_rise 16 = .ok (.ireturn, 1) := by decide +kernel
theorem dX3_ticks_0 : decode cX3_ticks 0 = .ok (.aload_n 0, 1) := by decide +kernel
theorem dX3_ticks_1 : decode cX3_ticks 1 = .ok (.invokevirtual 37, 3) := by decide +kernel
theorem dX3_ticks_4 : decode cX3_ticks 4 = .ok (.aload_n 0, 1) := by decide +kernel
theorem dX3_ticks_5 : decode cX3_ticks 5 = .ok (.aload_n 0, 1) := by decide +kernel
theorem dX3_ticks_6 : decode cX3_ticks 6 = .ok (.getfield 10, 3) := by decide +kernel
theorem dX3_ticks_9 : decode cX3_ticks 9 = .ok (.iload_n 1, 1) := by decide +kernel
theorem dX3_ticks_10 : decode cX3_ticks 10 = .ok (.invokevirtual 69, 3) := by decide +kernel
theorem dX3_ticks_13 : decode cX3_ticks 13 = .ok (.invokevirtual 44, 3) := by decide +kernel
theorem dX3_ticks_16 : decode cX3_ticks 16 = .ok (.ireturn, 1) := by decide +kernel
theorem dX3_ofDeal_0 : decode cX3_ofDeal 0 = .ok (.aload_n 0, 1) := by decide +kernel
theorem dX3_ofDeal_1 : decode cX3_ofDeal 1 = .ok (.getfield 10, 3) := by decide +kernel
theorem dX3_ofDeal_4 : decode cX3_ofDeal 4 = .ok (.iload_n 1, 1) := by decide +kernel
theorem dX3_ofDeal_5 : decode cX3_ofDeal 5 = .ok (.iload_n 2, 1) := by decide +kernel
theorem dX3_ofDeal_6 : decode cX3_ofDeal 6 = .ok (.invokevirtual 72, 3) := by decide +kernel
theorem dX3_ofDeal_9 : decode cX3_ofDeal 9 = .ok (.ireturn, 1) := by decide +kernel
theorem dX3_at_0 : decode cX3_at 0 = .ok (.aload_n 0, 1) := by decide +kernel
theorem dX3_at_1 : decode cX3_at 1 = .ok (.getfield 10, 3) := by decide +kernel
theorem dX3_at_4 : decode cX3_at 4 = .ok (.iload_n 1, 1) := by decide +kernel
theorem dX3_at_5 : decode cX3_at 5 = .ok (.iload_n 2, 1) := by decide +kernel
theorem dX3_at_6 : decode cX3_at 6 = .ok (.invokevirtual 75, 3) := by decide +kernel
theorem dX3_at_9 : decode cX3_at 9 = .ok (.ireturn, 1) := by decide +kernel
theorem dX3_message_0 : decode cX3_message 0 = .ok (.aload_n 0, 1) := by decide +kernel
theorem dX3_message_1 : decode cX3_message 1 = .ok (.getfield 10, 3) := by decide +kernel
theorem dX3_message_4 : decode cX3_message 4 = .ok (.getfield 78, 3) := by decide +kernel
theorem dX3_message_7 : decode cX3_message 7 = .ok (.iload_n 1, 1) := by decide +kernel
theorem dX3_message_8 : decode cX3_message 8 = .ok (.iload_n 2, 1) := by decide +kernel
theorem dX3_message_9 : decode cX3_message 9 = .ok (.invokevirtual 82, 3) := by decide +kernel
theorem dX3_message_12 : decode cX3_message 12 = .ok (.ireturn, 1) := by decide +kernel
theorem dX3_who_0 : decode cX3_who 0 = .ok (.aload_n 0, 1) := by decide +kernel
theorem dX3_who_1 : decode cX3_who 1 = .ok (.getfield 10, 3) := by decide +kernel
theorem dX3_who_4 : decode cX3_who 4 = .ok (.iload_n 1, 1) := by decide +kernel
theorem dX3_who_5 : decode cX3_who 5 = .ok (.iload_n 2, 1) := by decide +kernel
theorem dX3_who_6 : decode cX3_who 6 = .ok (.invokevirtual 87, 3) := by decide +kernel
theorem dX3_who_9 : decode cX3_who 9 = .ok (.ireturn, 1) := by decide +kernel
theorem dX3_count_0 : decode cX3_count 0 = .ok (.iload_n 1, 1) := by decide +kernel
theorem dX3_count_1 : decode cX3_count 1 = .ok (.lookupswitch 37 #[(5, 27), (6, 32)], 27) := by decide +kernel
theorem dX3_count_28 : decode cX3_count 28 = .ok (.aload_n 0, 1) := by decide +kernel
theorem dX3_count_29 : decode cX3_count 29 = .ok (.getfield 90, 3) := by decide +kernel
theorem dX3_count_32 : decode cX3_count 32 = .ok (.ireturn, 1) := by decide +kernel
theorem dX3_count_33 : decode cX3_count 33 = .ok (.aload_n 0, 1) := by decide +kernel
theorem dX3_count_34 : decode cX3_count 34 = .ok (.getfield 94, 3) := by decide +kernel
theorem dX3_count_37 : decode cX3_count 37 = .ok (.ireturn, 1) := by decide +kernel
theorem dX3_count_38 : decode cX3_count 38 = .ok (.aload_n 0, 1) := by decide +kernel
theorem dX3_count_39 : decode cX3_count 39 = .ok (.getfield 10, 3) := by decide +kernel
theorem dX3_count_42 : decode cX3_count 42 = .ok (.iload_n 1, 1) := by decide +kernel
theorem dX3_count_43 : decode cX3_count 43 = .ok (.invokevirtual 97, 3) := by decide +kernel
theorem dX3_count_46 : decode cX3_count 46 = .ok (.ireturn, 1) := by decide +kernel
theorem dX3_sure_0 : decode cX3_sure 0 = .ok (.aload_n 0, 1) := by decide +kernel
theorem dX3_sure_1 : decode cX3_sure 1 = .ok (.getfield 10, 3) := by decide +kernel
theorem dX3_sure_4 : decode cX3_sure 4 = .ok (.iload_n 1, 1) := by decide +kernel
theorem dX3_sure_5 : decode cX3_sure 5 = .ok (.invokevirtual 100, 3) := by decide +kernel
theorem dX3_sure_8 : decode cX3_sure 8 = .ok (.ireturn, 1) := by decide +kernel
theorem dX3_couldAsk_0 : decode cX3_couldAsk 0 = .ok (.aload_n 0, 1) := by decide +kernel
theorem dX3_couldAsk_1 : decode cX3_couldAsk 1 = .ok (.getfield 10, 3) := by decide +kernel
theorem dX3_couldAsk_4 : decode cX3_couldAsk 4 = .ok (.iload_n 1, 1) := by decide +kernel
theorem dX3_couldAsk_5 : decode cX3_couldAsk 5 = .ok (.invokevirtual 103, 3) := by decide +kernel
theorem dX3_couldAsk_8 : decode cX3_couldAsk 8 = .ok (.ireturn, 1) := by decide +kernel
theorem dX3_noteStateBefore_0 : decode cX3_noteStateBefore 0 = .ok (.aload_n 0, 1) := by decide +kernel
theorem dX3_noteStateBefore_1 : decode cX3_noteStateBefore 1 = .ok (.getfield 19, 3) := by decide +kernel
theorem dX3_noteStateBefore_4 : decode cX3_noteStateBefore 4 = .ok (.aload_n 0, 1) := by decide +kernel
theorem dX3_noteStateBefore_5 : decode cX3_noteStateBefore 5 = .ok (.getfield 138, 3) := by decide +kernel
theorem dX3_noteStateBefore_8 : decode cX3_noteStateBefore 8 = .ok (.aaload, 1) := by decide +kernel
theorem dX3_noteStateBefore_9 : decode cX3_noteStateBefore 9 = .ok (.aload_n 0, 1) := by decide +kernel
theorem dX3_noteStateBefore_10 : decode cX3_noteStateBefore 10 = .ok (.getfield 10, 3) := by decide +kernel
theorem dX3_noteStateBefore_13 : decode cX3_noteStateBefore 13 = .ok (.invokevirtual 110, 3) := by decide +kernel
theorem dX3_noteStateBefore_16 : decode cX3_noteStateBefore 16 = .ok (.return_, 1) := by decide +kernel
theorem dX3_recorded_0 : decode cX3_recorded 0 = .ok (.iload_n 1, 1) := by decide +kernel
theorem dX3_recorded_1 : decode cX3_recorded 1 = .ok (.ifCond .lt 41, 3) := by decide +kernel
theorem dX3_recorded_4 : decode cX3_recorded 4 = .ok (.aload_n 0, 1) := by decide +kernel
theorem dX3_recorded_5 : decode cX3_recorded 5 = .ok (.aload_n 0, 1) := by decide +kernel
theorem dX3_recorded_6 : decode cX3_recorded 6 = .ok (.getfield 138, 3) := by decide +kernel
theorem dX3_recorded_9 : decode cX3_recorded 9 = .ok (.bipush 6, 2) := by decide +kernel
theorem dX3_recorded_11 : decode cX3_recorded 11 = .ok (.if_icmp .ne 7, 3) := by decide +kernel
theorem dX3_recorded_14 : decode cX3_recorded 14 = .ok (.iconst 0, 1) := by decide +kernel
theorem dX3_recorded_15 : decode cX3_recorded 15 = .ok (.goto 9, 3) := by decide +kernel
theorem dX3_recorded_18 : decode cX3_recorded 18 = .ok (.aload_n 0, 1) := by decide +kernel
theorem dX3_recorded_19 : decode cX3_recorded 19 = .ok (.getfield 138, 3) := by decide +kernel
theorem dX3_recorded_22 : decode cX3_recorded 22 = .ok (.iconst 1, 1) := by decide +kernel
theorem dX3_recorded_23 : decode cX3_recorded 23 = .ok (.iadd, 1) := by decide +kernel
theorem dX3_recorded_24 : decode cX3_recorded 24 = .ok (.putfield 138, 3) := by decide +kernel
theorem dX3_recorded_27 : decode cX3_recorded 27 = .ok (.aload_n 0, 1) := by decide +kernel
theorem dX3_recorded_28 : decode cX3_recorded 28 = .ok (.aload_n 0, 1) := by decide +kernel
theorem dX3_recorded_29 : decode cX3_recorded 29 = .ok (.getfield 94, 3) := by decide +kernel
theorem dX3_recorded_32 : decode cX3_recorded 32 = .ok (.iconst 1, 1) := by decide +kernel
theorem dX3_recorded_33 : decode cX3_recorded 33 = .ok (.iadd, 1) := by decide +kernel
theorem dX3_recorded_34 : decode cX3_recorded 34 = .ok (.bipush 6, 2) := by decide +kernel
theorem dX3_recorded_36 : decode cX3_recorded 36 = .ok (.invokestatic 151, 3) := by decide +kernel
theorem dX3_recorded_39 : decode cX3_recorded 39 = .ok (.putfield 94, 3) := by decide +kernel
theorem dX3_recorded_42 : decode cX3_recorded 42 = .ok (.iload_n 1, 1) := by decide +kernel
theorem dX3_recorded_43 : decode cX3_recorded 43 = .ok (.ireturn, 1) := by decide +kernel
theorem dX3_isIn_0 : decode cX3_isIn 0 = .ok (.iload_n 0, 1) := by decide +kernel
theorem dX3_isIn_1 : decode cX3_isIn 1 = .ok (.iload_n 1, 1) := by decide +kernel
theorem dX3_isIn_2 : decode cX3_isIn 2 = .ok (.ishr, 1) := by decide +kernel
theorem dX3_isIn_3 : decode cX3_isIn 3 = .ok (.iconst 1, 1) := by decide +kernel
theorem dX3_isIn_4 : decode cX3_isIn 4 = .ok (.iand, 1) := by decide +kernel
theorem dX3_isIn_5 : decode cX3_isIn 5 = .ok (.iconst 1, 1) := by decide +kernel
theorem dX3_isIn_6 : decode cX3_isIn 6 = .ok (.if_icmp .ne 7, 3) := by decide +kernel
theorem dX3_isIn_9 : decode cX3_isIn 9 = .ok (.iconst 1, 1) := by decide +kernel
theorem dX3_isIn_10 : decode cX3_isIn 10 = .ok (.goto 4, 3) := by decide +kernel
theorem dX3_isIn_13 : decode cX3_isIn 13 = .ok (.iconst 0, 1) := by decide +kernel
theorem dX3_isIn_14 : decode cX3_isIn 14 = .ok (.ireturn, 1) := by decide +kernel
