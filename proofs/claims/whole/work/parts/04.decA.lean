theorem dSG_hasOrder_0 : decode cSG_hasOrder 0 = .ok (.iload_n 1, 1) := by decide +kernel
theorem dSG_hasOrder_1 : decode cSG_hasOrder 1 = .ok (.ifCond .ge 10, 3) := by decide +kernel
theorem dSG_hasOrder_4 : decode cSG_hasOrder 4 = .ok (.aload_n 0, 1) := by decide +kernel
theorem dSG_hasOrder_5 : decode cSG_hasOrder 5 = .ok (.getfield 47, 3) := by decide +kernel
theorem dSG_hasOrder_8 : decode cSG_hasOrder 8 = .ok (.goto 18, 3) := by decide +kernel
theorem dSG_hasOrder_11 : decode cSG_hasOrder 11 = .ok (.iload_n 1, 1) := by decide +kernel
theorem dSG_hasOrder_12 : decode cSG_hasOrder 12 = .ok (.ifCond .le 10, 3) := by decide +kernel
theorem dSG_hasOrder_15 : decode cSG_hasOrder 15 = .ok (.aload_n 0, 1) := by decide +kernel
theorem dSG_hasOrder_16 : decode cSG_hasOrder 16 = .ok (.getfield 54, 3) := by decide +kernel
theorem dSG_hasOrder_19 : decode cSG_hasOrder 19 = .ok (.goto 7, 3) := by decide +kernel
theorem dSG_hasOrder_22 : decode cSG_hasOrder 22 = .ok (.aload_n 0, 1) := by decide +kernel
theorem dSG_hasOrder_23 : decode cSG_hasOrder 23 = .ok (.getfield 51, 3) := by decide +kernel
theorem dSG_hasOrder_26 : decode cSG_hasOrder 26 = .ok (.ireturn, 1) := by decide +kernel
theorem dTP_init_0 : decode cTP_init 0 = .ok (.aload_n 0, 1) := by decide +kernel
theorem dTP_init_1 : decode cTP_init 1 = .ok (.invokespecial 1, 3) := by decide +kernel
theorem dTP_init_4 : decode cTP_init 4 = .ok (.aload_n 0, 1) := by decide +kernel
theorem dTP_init_5 : decode cTP_init 5 = .ok (.sipush 400, 3) := by decide +kernel
theorem dTP_init_8 : decode cTP_init 8 = .ok (.newarray .byte, 2) := by decide +kernel
theorem dTP_init_10 : decode cTP_init 10 = .ok (.putfield 9, 3) := by decide +kernel
theorem dTP_init_13 : decode cTP_init 13 = .ok (.aload_n 0, 1) := by decide +kernel
theorem dTP_init_14 : decode cTP_init 14 = .ok (.sipush 200, 3) := by decide +kernel
theorem dTP_init_17 : decode cTP_init 17 = .ok (.newarray .int, 2) := by decide +kernel
theorem dTP_init_19 : decode cTP_init 19 = .ok (.putfield 13, 3) := by decide +kernel
theorem dTP_init_22 : decode cTP_init 22 = .ok (.aload_n 0, 1) := by decide +kernel
theorem dTP_init_23 : decode cTP_init 23 = .ok (.sipush 200, 3) := by decide +kernel
theorem dTP_init_26 : decode cTP_init 26 = .ok (.newarray .int, 2) := by decide +kernel
theorem dTP_init_28 : decode cTP_init 28 = .ok (.putfield 17, 3) := by decide +kernel
theorem dTP_init_31 : decode cTP_init 31 = .ok (.aload_n 0, 1) := by decide +kernel
theorem dTP_init_32 : decode cTP_init 32 = .ok (.iconst 0, 1) := by decide +kernel
theorem dTP_init_33 : decode cTP_init 33 = .ok (.putfield 20, 3) := by decide +kernel
theorem dTP_init_36 : decode cTP_init 36 = .ok (.aload_n 0, 1) := by decide +kernel
theorem dTP_init_37 : decode cTP_init 37 = .ok (.iconst 0, 1) := by decide +kernel
theorem dTP_init_38 : decode cTP_init 38 = .ok (.putfield 24, 3) := by decide +kernel
theorem dTP_init_41 : decode cTP_init 41 = .ok (.aload_n 0, 1) := by decide +kernel
theorem dTP_init_42 : decode cTP_init 42 = .ok (.iconst 0, 1) := by decide +kernel
theorem dTP_init_43 : decode cTP_init 43 = .ok (.putfield 27, 3) := by decide +kernel
theorem dTP_init_46 : decode cTP_init 46 = .ok (.return_, 1) := by decide +kernel
theorem dTP_hasRoomFor_0 : decode cTP_hasRoomFor 0 = .ok (.aload_n 0, 1) := by decide +kernel
theorem dTP_hasRoomFor_1 : decode cTP_hasRoomFor 1 = .ok (.getfield 20, 3) := by decide +kernel
theorem dTP_hasRoomFor_4 : decode cTP_hasRoomFor 4 = .ok (.iload_n 1, 1) := by decide +kernel
theorem dTP_hasRoomFor_5 : decode cTP_hasRoomFor 5 = .ok (.iadd, 1) := by decide +kernel
theorem dTP_hasRoomFor_6 : decode cTP_hasRoomFor 6 = .ok (.sipush 400, 3) := by decide +kernel
theorem dTP_hasRoomFor_9 : decode cTP_hasRoomFor 9 = .ok (.if_icmp .gt 7, 3) := by decide +kernel
theorem dTP_hasRoomFor_12 : decode cTP_hasRoomFor 12 = .ok (.iconst 1, 1) := by decide +kernel
theorem dTP_hasRoomFor_13 : decode cTP_hasRoomFor 13 = .ok (.goto 4, 3) := by decide +kernel
theorem dTP_hasRoomFor_16 : decode cTP_hasRoomFor 16 = .ok (.iconst 0, 1) := by decide +kernel
theorem dTP_hasRoomFor_17 : decode cTP_hasRoomFor 17 = .ok (.ireturn, 1) := by decide +kernel
theorem dTP_addFour_0 : decode cTP_addFour 0 = .ok (.bipush 24, 2) := by decide +kernel
theorem dTP_addFour_2 : decode cTP_addFour 2 = .ok (.istore_n 2, 1) := by decide +kernel
theorem dTP_addFour_3 : decode cTP_addFour 3 = .ok (.iload_n 2, 1) := by decide +kernel
theorem dTP_addFour_4 : decode cTP_addFour 4 = .ok (.ifCond .lt 32, 3) := by decide +kernel
theorem dTP_addFour_7 : decode cTP_addFour 7 = .ok (.aload_n 0, 1) := by decide +kernel
theorem dTP_addFour_8 : decode cTP_addFour 8 = .ok (.getfield 9, 3) := by decide +kernel
theorem dTP_addFour_11 : decode cTP_addFour 11 = .ok (.aload_n 0, 1) := by decide +kernel
theorem dTP_addFour_12 : decode cTP_addFour 12 = .ok (.getfield 20, 3) := by decide +kernel
theorem dTP_addFour_15 : decode cTP_addFour 15 = .ok (.iload_n 1, 1) := by decide +kernel
theorem dTP_addFour_16 : decode cTP_addFour 16 = .ok (.iload_n 2, 1) := by decide +kernel
theorem dTP_addFour_17 : decode cTP_addFour 17 = .ok (.ishr, 1) := by decide +kernel
theorem dTP_addFour_18 : decode cTP_addFour 18 = .ok (.i2b, 1) := by decide +kernel
theorem dTP_addFour_19 : decode cTP_addFour 19 = .ok (.bastore, 1) := by decide +kernel
theorem dTP_addFour_20 : decode cTP_addFour 20 = .ok (.aload_n 0, 1) := by decide +kernel
theorem dTP_addFour_21 : decode cTP_addFour 21 = .ok (.dup, 1) := by decide +kernel
theorem dTP_addFour_22 : decode cTP_addFour 22 = .ok (.getfield 20, 3) := by decide +kernel
theorem dTP_addFour_25 : decode cTP_addFour 25 = .ok (.iconst 1, 1) := by decide +kernel
theorem dTP_addFour_26 : decode cTP_addFour 26 = .ok (.iadd, 1) := by decide +kernel
theorem dTP_addFour_27 : decode cTP_addFour 27 = .ok (.putfield 20, 3) := by decide +kernel
theorem dTP_addFour_30 : decode cTP_addFour 30 = .ok (.iinc 2 (-8), 3) := by decide +kernel
theorem dTP_addFour_33 : decode cTP_addFour 33 = .ok (.goto (-30), 3) := by decide +kernel
theorem dTP_addFour_36 : decode cTP_addFour 36 = .ok (.return_, 1) := by decide +kernel
theorem dTP_splitWords_0 : decode cTP_splitWords 0 = .ok (.iconst 0, 1) := by decide +kernel
theorem dTP_splitWords_1 : decode cTP_splitWords 1 = .ok (.istore_n 1, 1) := by decide +kernel
theorem dTP_splitWords_2 : decode cTP_splitWords 2 = .ok (.iconst 0, 1) := by decide +kernel
theorem dTP_splitWords_3 : decode cTP_splitWords 3 = .ok (.istore_n 2, 1) := by decide +kernel
theorem dTP_splitWords_4 : decode cTP_splitWords 4 = .ok (.iload_n 2, 1) := by decide +kernel
theorem dTP_splitWords_5 : decode cTP_splitWords 5 = .ok (.aload_n 0, 1) := by decide +kernel
theorem dTP_splitWords_6 : decode cTP_splitWords 6 = .ok (.getfield 20, 3) := by decide +kernel
theorem dTP_splitWords_9 : decode cTP_splitWords 9 = .ok (.if_icmp .ge 61, 3) := by decide +kernel
theorem dTP_splitWords_12 : decode cTP_splitWords 12 = .ok (.aload_n 0, 1) := by decide +kernel
theorem dTP_splitWords_13 : decode cTP_splitWords 13 = .ok (.getfield 9, 3) := by decide +kernel
theorem dTP_splitWords_16 : decode cTP_splitWords 16 = .ok (.iload_n 2, 1) := by decide +kernel
theorem dTP_splitWords_17 : decode cTP_splitWords 17 = .ok (.baload, 1) := by decide +kernel
theorem dTP_splitWords_18 : decode cTP_splitWords 18 = .ok (.bipush 32, 2) := by decide +kernel
theorem dTP_splitWords_20 : decode cTP_splitWords 20 = .ok (.if_icmp .ne 6, 3) := by decide +kernel
theorem dTP_splitWords_23 : decode cTP_splitWords 23 = .ok (.goto 41, 3) := by decide +kernel
theorem dTP_splitWords_26 : decode cTP_splitWords 26 = .ok (.iload_n 2, 1) := by decide +kernel
theorem dTP_splitWords_27 : decode cTP_splitWords 27 = .ok (.ifCond .eq 16, 3) := by decide +kernel
theorem dTP_splitWords_30 : decode cTP_splitWords 30 = .ok (.aload_n 0, 1) := by decide +kernel
theorem dTP_splitWords_31 : decode cTP_splitWords 31 = .ok (.getfield 9, 3) := by decide +kernel
theorem dTP_splitWords_34 : decode cTP_splitWords 34 = .ok (.iload_n 2, 1) := by decide +kernel
theorem dTP_splitWords_35 : decode cTP_splitWords 35 = .ok (.iconst 1, 1) := by decide +kernel
theorem dTP_splitWords_36 : decode cTP_splitWords 36 = .ok (.isub, 1) := by decide +kernel
theorem dTP_splitWords_37 : decode cTP_splitWords 37 = .ok (.baload, 1) := by decide +kernel
theorem dTP_splitWords_38 : decode cTP_splitWords 38 = .ok (.bipush 32, 2) := by decide +kernel
theorem dTP_splitWords_40 : decode cTP_splitWords 40 = .ok (.if_icmp .ne 13, 3) := by decide +kernel
theorem dTP_splitWords_43 : decode cTP_splitWords 43 = .ok (.aload_n 0, 1) := by decide +kernel
theorem dTP_splitWords_44 : decode cTP_splitWords 44 = .ok (.getfield 13, 3) := by decide +kernel
theorem dTP_splitWords_47 : decode cTP_splitWords 47 = .ok (.iload_n 1, 1) := by decide +kernel
theorem dTP_splitWords_48 : decode cTP_splitWords 48 = .ok (.iload_n 2, 1) := by decide +kernel
theorem dTP_splitWords_49 : decode cTP_splitWords 49 = .ok (.iastore, 1) := by decide +kernel
theorem dTP_splitWords_50 : decode cTP_splitWords 50 = .ok (.iinc 1 1, 3) := by decide +kernel
theorem dTP_splitWords_53 : decode cTP_splitWords 53 = .ok (.aload_n 0, 1) := by decide +kernel
theorem dTP_splitWords_54 : decode cTP_splitWords 54 = .ok (.getfield 17, 3) := by decide +kernel
theorem dTP_splitWords_57 : decode cTP_splitWords 57 = .ok (.iload_n 1, 1) := by decide +kernel
theorem dTP_splitWords_58 : decode cTP_splitWords 58 = .ok (.iconst 1, 1) := by decide +kernel
theorem dTP_splitWords_59 : decode cTP_splitWords 59 = .ok (.isub, 1) := by decide +kernel
theorem dTP_splitWords_60 : decode cTP_splitWords 60 = .ok (.iload_n 2, 1) := by decide +kernel
theorem dTP_splitWords_61 : decode cTP_splitWords 61 = .ok (.iconst 1, 1) := by decide +kernel
theorem dTP_splitWords_62 : decode cTP_splitWords 62 = .ok (.iadd, 1) := by decide +kernel
theorem dTP_splitWords_63 : decode cTP_splitWords 63 = .ok (.iastore, 1) := by decide +kernel
theorem dTP_splitWords_64 : decode cTP_splitWords 64 = .ok (.iinc 2 1, 3) := by decide +kernel
theorem dTP_splitWords_67 : decode cTP_splitWords 67 = .ok (.goto (-63), 3) := by decide +kernel
theorem dTP_splitWords_70 : decode cTP_splitWords 70 = .ok (.iload_n 1, 1) := by decide +kernel
theorem dTP_splitWords_71 : decode cTP_splitWords 71 = .ok (.ireturn, 1) := by decide +kernel
theorem dTP_enterWord_0 : decode cTP_enterWord 0 = .ok (.aload_n 0, 1) := by decide +kernel
theorem dTP_enterWord_1 : decode cTP_enterWord 1 = .ok (.aload_n 0, 1) := by decide +kernel
theorem dTP_enterWord_2 : decode cTP_enterWord 2 = .ok (.getfield 13, 3) := by decide +kernel
theorem dTP_enterWord_5 : decode cTP_enterWord 5 = .ok (.iload_n 1, 1) := by decide +kernel
theorem dTP_enterWord_6 : decode cTP_enterWord 6 = .ok (.iaload, 1) := by decide +kernel
theorem dTP_enterWord_7 : decode cTP_enterWord 7 = .ok (.putfield 24, 3) := by decide +kernel
theorem dTP_enterWord_10 : decode cTP_enterWord 10 = .ok (.aload_n 0, 1) := by decide +kernel
theorem dTP_enterWord_11 : decode cTP_enterWord 11 = .ok (.aload_n 0, 1) := by decide +kernel
theorem dTP_enterWord_12 : decode cTP_enterWord 12 = .ok (.getfield 17, 3) := by decide +kernel
theorem dTP_enterWord_15 : decode cTP_enterWord 15 = .ok (.iload_n 1, 1) := by decide +kernel
theorem dTP_enterWord_16 : decode cTP_enterWord 16 = .ok (.iaload, 1) := by decide +kernel
theorem dTP_enterWord_17 : decode cTP_enterWord 17 = .ok (.putfield 27, 3) := by decide +kernel
theorem dTP_enterWord_20 : decode cTP_enterWord 20 = .ok (.return_, 1) := by decide +kernel
theorem dTP_isAtStop_0 : decode cTP_isAtStop 0 = .ok (.aload_n 0, 1) := by decide +kernel
theorem dTP_isAtStop_1 : decode cTP_isAtStop 1 = .ok (.getfield 24, 3) := by decide +kernel
theorem dTP_isAtStop_4 : decode cTP_isAtStop 4 = .ok (.aload_n 0, 1) := by decide +kernel
theorem dTP_isAtStop_5 : decode cTP_isAtStop 5 = .ok (.getfield 27, 3) := by decide +kernel
theorem dTP_isAtStop_8 : decode cTP_isAtStop 8 = .ok (.if_icmp .ne 7, 3) := by decide +kernel
theorem dTP_isAtStop_11 : decode cTP_isAtStop 11 = .ok (.iconst 1, 1) := by decide +kernel
theorem dTP_isAtStop_12 : decode cTP_isAtStop 12 = .ok (.goto 4, 3) := by decide +kernel
theorem dTP_isAtStop_15 : decode cTP_isAtStop 15 = .ok (.iconst 0, 1) := by decide +kernel
theorem dTP_isAtStop_16 : decode cTP_isAtStop 16 = .ok (.ireturn, 1) := by decide +kernel
theorem dTP_isAtOrWord_0 : decode cTP_isAtOrWord 0 = .ok (.aload_n 0, 1) := by decide +kernel
theorem dTP_isAtOrWord_1 : decode cTP_isAtOrWord 1 = .ok (.getfield 27, 3) := by decide +kernel
theorem dTP_isAtOrWord_4 : decode cTP_isAtOrWord 4 = .ok (.aload_n 0, 1) := by decide +kernel
theorem dTP_isAtOrWord_5 : decode cTP_isAtOrWord 5 = .ok (.getfield 24, 3) := by decide +kernel
theorem dTP_isAtOrWord_8 : decode cTP_isAtOrWord 8 = .ok (.isub, 1) := by decide +kernel
theorem dTP_isAtOrWord_9 : decode cTP_isAtOrWord 9 = .ok (.iconst 2, 1) := by decide +kernel
theorem dTP_isAtOrWord_10 : decode cTP_isAtOrWord 10 = .ok (.if_icmp .ne 37, 3) := by decide +kernel
theorem dTP_isAtOrWord_13 : decode cTP_isAtOrWord 13 = .ok (.aload_n 0, 1) := by decide +kernel
theorem dTP_isAtOrWord_14 : decode cTP_isAtOrWord 14 = .ok (.getfield 9, 3) := by decide +kernel
theorem dTP_isAtOrWord_17 : decode cTP_isAtOrWord 17 = .ok (.aload_n 0, 1) := by decide +kernel
theorem dTP_isAtOrWord_18 : decode cTP_isAtOrWord 18 = .ok (.getfield 24, 3) := by decide +kernel
theorem dTP_isAtOrWord_21 : decode cTP_isAtOrWord 21 = .ok (.baload, 1) := by decide +kernel
theorem dTP_isAtOrWord_22 : decode cTP_isAtOrWord 22 = .ok (.bipush 124, 2) := by decide +kernel
theorem dTP_isAtOrWord_24 : decode cTP_isAtOrWord 24 = .ok (.if_icmp .ne 23, 3) := by decide +kernel
theorem dTP_isAtOrWord_27 : decode cTP_isAtOrWord 27 = .ok (.aload_n 0, 1) := by decide +kernel
theorem dTP_isAtOrWord_28 : decode cTP_isAtOrWord 28 = .ok (.getfield 9, 3) := by decide +kernel
theorem dTP_isAtOrWord_31 : decode cTP_isAtOrWord 31 = .ok (.aload_n 0, 1) := by decide +kernel
theorem dTP_isAtOrWord_32 : decode cTP_isAtOrWord 32 = .ok (.getfield 24, 3) := by decide +kernel
theorem dTP_isAtOrWord_35 : decode cTP_isAtOrWord 35 = .ok (.iconst 1, 1) := by decide +kernel
theorem dTP_isAtOrWord_36 : decode cTP_isAtOrWord 36 = .ok (.iadd, 1) := by decide +kernel
theorem dTP_isAtOrWord_37 : decode cTP_isAtOrWord 37 = .ok (.baload, 1) := by decide +kernel
theorem dTP_isAtOrWord_38 : decode cTP_isAtOrWord 38 = .ok (.bipush 124, 2) := by decide +kernel
theorem dTP_isAtOrWord_40 : decode cTP_isAtOrWord 40 = .ok (.if_icmp .ne 7, 3) := by decide +kernel
theorem dTP_isAtOrWord_43 : decode cTP_isAtOrWord 43 = .ok (.iconst 1, 1) := by decide +kernel
theorem dTP_isAtOrWord_44 : decode cTP_isAtOrWord 44 = .ok (.goto 4, 3) := by decide +kernel
theorem dTP_isAtOrWord_47 : decode cTP_isAtOrWord 47 = .ok (.iconst 0, 1) := by decide +kernel
theorem dTP_isAtOrWord_48 : decode cTP_isAtOrWord 48 = .ok (.ireturn, 1) := by decide +kernel
theorem dTP_skip_0 : decode cTP_skip 0 = .ok (.aload_n 0, 1) := by decide +kernel
theorem dTP_skip_1 : decode cTP_skip 1 = .ok (.getfield 24, 3) := by decide +kernel
theorem dTP_skip_4 : decode cTP_skip 4 = .ok (.aload_n 0, 1) := by decide +kernel
theorem dTP_skip_5 : decode cTP_skip 5 = .ok (.getfield 27, 3) := by decide +kernel
theorem dTP_skip_8 : decode cTP_skip 8 = .ok (.if_icmp .ge 28, 3) := by decide +kernel
theorem dTP_skip_11 : decode cTP_skip 11 = .ok (.aload_n 0, 1) := by decide +kernel
theorem dTP_skip_12 : decode cTP_skip 12 = .ok (.getfield 9, 3) := by decide +kernel
theorem dTP_skip_15 : decode cTP_skip 15 = .ok (.aload_n 0, 1) := by decide +kernel
theorem dTP_skip_16 : decode cTP_skip 16 = .ok (.getfield 24, 3) := by decide +kernel
theorem dTP_skip_19 : decode cTP_skip 19 = .ok (.baload, 1) := by decide +kernel
theorem dTP_skip_20 : decode cTP_skip 20 = .ok (.iload_n 1, 1) := by decide +kernel
theorem dTP_skip_21 : decode cTP_skip 21 = .ok (.if_icmp .ne 15, 3) := by decide +kernel
theorem dTP_skip_24 : decode cTP_skip 24 = .ok (.aload_n 0, 1) := by decide +kernel
theorem dTP_skip_25 : decode cTP_skip 25 = .ok (.dup, 1) := by decide +kernel
theorem dTP_skip_26 : decode cTP_skip 26 = .ok (.getfield 24, 3) := by decide +kernel
theorem dTP_skip_29 : decode cTP_skip 29 = .ok (.iconst 1, 1) := by decide +kernel
theorem dTP_skip_30 : decode cTP_skip 30 = .ok (.iadd, 1) := by decide +kernel
theorem dTP_skip_31 : decode cTP_skip 31 = .ok (.putfield 24, 3) := by decide +kernel
theorem dTP_skip_34 : decode cTP_skip 34 = .ok (.iconst 1, 1) := by decide +kernel
theorem dTP_skip_35 : decode cTP_skip 35 = .ok (.ireturn, 1) := by decide +kernel
theorem dTP_skip_36 : decode cTP_skip 36 = .ok (.iconst 0, 1) := by decide +kernel
theorem dTP_skip_37 : decode cTP_skip 37 = .ok (.ireturn, 1) := by decide +kernel
theorem dTP_readNumber_0 : decode cTP_readNumber 0 = .ok (.aload_n 0, 1) := by decide +kernel
theorem dTP_readNumber_1 : decode cTP_readNumber 1 = .ok (.getfield 24, 3) := by decide +kernel
theorem dTP_readNumber_4 : decode cTP_readNumber 4 = .ok (.istore_n 1, 1) := by decide +kernel
theorem dTP_readNumber_5 : decode cTP_readNumber 5 = .ok (.aload_n 0, 1) := by decide +kernel
theorem dTP_readNumber_6 : decode cTP_readNumber 6 = .ok (.getfield 24, 3) := by decide +kernel
theorem dTP_readNumber_9 : decode cTP_readNumber 9 = .ok (.aload_n 0, 1) := by decide +kernel
theorem dTP_readNumber_10 : decode cTP_readNumber 10 = .ok (.getfield 27, 3) := by decide +kernel
theorem dTP_readNumber_13 : decode cTP_readNumber 13 = .ok (.if_icmp .ge 31, 3) := by decide +kernel
theorem dTP_readNumber_16 : decode cTP_readNumber 16 = .ok (.aload_n 0, 1) := by decide +kernel
theorem dTP_readNumber_17 : decode cTP_readNumber 17 = .ok (.getfield 9, 3) := by decide +kernel
theorem dTP_readNumber_20 : decode cTP_readNumber 20 = .ok (.aload_n 0, 1) := by decide +kernel
theorem dTP_readNumber_21 : decode cTP_readNumber 21 = .ok (.getfield 24, 3) := by decide +kernel
theorem dTP_readNumber_24 : decode cTP_readNumber 24 = .ok (.baload, 1) := by decide +kernel
theorem dTP_readNumber_25 : decode cTP_readNumber 25 = .ok (.invokestatic 30, 3) := by decide +kernel
theorem dTP_readNumber_28 : decode cTP_readNumber 28 = .ok (.ifCond .eq 16, 3) := by decide +kernel
theorem dTP_readNumber_31 : decode cTP_readNumber 31 = .ok (.aload_n 0, 1) := by decide +kernel
theorem dTP_readNumber_32 : decode cTP_readNumber 32 = .ok (.dup, 1) := by decide +kernel
theorem dTP_readNumber_33 : decode cTP_readNumber 33 = .ok (.getfield 24, 3) := by decide +kernel
theorem dTP_readNumber_36 : decode cTP_readNumber 36 = .ok (.iconst 1, 1) := by decide +kernel
theorem dTP_readNumber_37 : decode cTP_readNumber 37 = .ok (.iadd, 1) := by decide +kernel
theorem dTP_readNumber_38 : decode cTP_readNumber 38 = .ok (.putfield 24, 3) := by decide +kernel
theorem dTP_readNumber_41 : decode cTP_readNumber 41 = .ok (.goto (-36), 3) := by decide +kernel
theorem dTP_readNumber_44 : decode cTP_readNumber 44 = .ok (.aload_n 0, 1) := by decide +kernel
theorem dTP_readNumber_45 : decode cTP_readNumber 45 = .ok (.iload_n 1, 1) := by decide +kernel
theorem dTP_readNumber_46 : decode cTP_readNumber 46 = .ok (.invokevirtual 34, 3) := by decide +kernel
theorem dTP_readNumber_49 : decode cTP_readNumber 49 = .ok (.ireturn, 1) := by decide +kernel
theorem dTP_numberSince_0 : decode cTP_numberSince 0 = .ok (.aload_n 0, 1) := by decide +kernel
theorem dTP_numberSince_1 : decode cTP_numberSince 1 = .ok (.getfield 24, 3) := by decide +kernel
theorem dTP_numberSince_4 : decode cTP_numberSince 4 = .ok (.iload_n 1, 1) := by decide +kernel
theorem dTP_numberSince_5 : decode cTP_numberSince 5 = .ok (.isub, 1) := by decide +kernel
theorem dTP_numberSince_6 : decode cTP_numberSince 6 = .ok (.istore_n 2, 1) := by decide +kernel
theorem dTP_numberSince_7 : decode cTP_numberSince 7 = .ok (.iload_n 2, 1) := by decide +kernel
theorem dTP_numberSince_8 : decode cTP_numberSince 8 = .ok (.iconst 1, 1) := by decide +kernel
theorem dTP_numberSince_9 : decode cTP_numberSince 9 = .ok (.if_icmp .lt 25, 3) := by decide +kernel
theorem dTP_numberSince_12 : decode cTP_numberSince 12 = .ok (.iload_n 2, 1) := by decide +kernel
theorem dTP_numberSince_13 : decode cTP_numberSince 13 = .ok (.bipush 9, 2) := by decide +kernel
theorem dTP_numberSince_15 : decode cTP_numberSince 15 = .ok (.if_icmp .gt 19, 3) := by decide +kernel
theorem dTP_numberSince_18 : decode cTP_numberSince 18 = .ok (.iload_n 2, 1) := by decide +kernel
theorem dTP_numberSince_19 : decode cTP_numberSince 19 = .ok (.iconst 1, 1) := by decide +kernel
theorem dTP_numberSince_20 : decode cTP_numberSince 20 = .ok (.if_icmp .le 16, 3) := by decide +kernel
theorem dTP_numberSince_23 : decode cTP_numberSince 23 = .ok (.aload_n 0, 1) := by decide +kernel
theorem dTP_numberSince_24 : decode cTP_numberSince 24 = .ok (.getfield 9, 3) := by decide +kernel
theorem dTP_numberSince_27 : decode cTP_numberSince 27 = .ok (.iload_n 1, 1) := by decide +kernel
theorem dTP_numberSince_28 : decode cTP_numberSince 28 = .ok (.baload, 1) := by decide +kernel
theorem dTP_numberSince_29 : decode cTP_numberSince 29 = .ok (.bipush 48, 2) := by decide +kernel
theorem dTP_numberSince_31 : decode cTP_numberSince 31 = .ok (.if_icmp .ne 5, 3) := by decide +kernel
theorem dTP_numberSince_34 : decode cTP_numberSince 34 = .ok (.iconst (-1), 1) := by decide +kernel
theorem dTP_numberSince_35 : decode cTP_numberSince 35 = .ok (.ireturn, 1) := by decide +kernel
theorem dTP_numberSince_36 : decode cTP_numberSince 36 = .ok (.iconst 0, 1) := by decide +kernel
theorem dTP_numberSince_37 : decode cTP_numberSince 37 = .ok (.istore_n 3, 1) := by decide +kernel
theorem dTP_numberSince_38 : decode cTP_numberSince 38 = .ok (.iload_n 1, 1) := by decide +kernel
theorem dTP_numberSince_39 : decode cTP_numberSince 39 = .ok (.istore 4, 2) := by decide +kernel
theorem dTP_numberSince_41 : decode cTP_numberSince 41 = .ok (.iload 4, 2) := by decide +kernel
theorem dTP_numberSince_43 : decode cTP_numberSince 43 = .ok (.aload_n 0, 1) := by decide +kernel
theorem dTP_numberSince_44 : decode cTP_numberSince 44 = .ok (.getfield 24, 3) := by decide +kernel
theorem dTP_numberSince_47 : decode cTP_numberSince 47 = .ok (.if_icmp .ge 25, 3) := by decide +kernel
theorem dTP_numberSince_50 : decode cTP_numberSince 50 = .ok (.iload_n 3, 1) := by decide +kernel
theorem dTP_numberSince_51 : decode cTP_numberSince 51 = .ok (.bipush 10, 2) := by decide +kernel
theorem dTP_numberSince_53 : decode cTP_numberSince 53 = .ok (.imul, 1) := by decide +kernel
theorem dTP_numberSince_54 : decode cTP_numberSince 54 = .ok (.aload_n 0, 1) := by decide +kernel
theorem dTP_numberSince_55 : decode cTP_numberSince 55 = .ok (.getfield 9, 3) := by decide +kernel
theorem dTP_numberSince_58 : decode cTP_numberSince 58 = .ok (.iload 4, 2) := by decide +kernel
theorem dTP_numberSince_60 : decode cTP_numberSince 60 = .ok (.baload, 1) := by decide +kernel
theorem dTP_numberSince_61 : decode cTP_numberSince 61 = .ok (.bipush 48, 2) := by decide +kernel
theorem dTP_numberSince_63 : decode cTP_numberSince 63 = .ok (.isub, 1) := by decide +kernel
theorem dTP_numberSince_64 : decode cTP_numberSince 64 = .ok (.iadd, 1) := by decide +kernel
theorem dTP_numberSince_65 : decode cTP_numberSince 65 = .ok (.istore_n 3, 1) := by decide +kernel
theorem dTP_numberSince_66 : decode cTP_numberSince 66 = .ok (.iinc 4 1, 3) := by decide +kernel
theorem dTP_numberSince_69 : decode cTP_numberSince 69 = .ok (.goto (-28), 3) := by decide +kernel
theorem dTP_numberSince_72 : decode cTP_numberSince 72 = .ok (.iload_n 3, 1) := by decide +kernel
theorem dTP_numberSince_73 : decode cTP_numberSince 73 = .ok (.ireturn, 1) := by decide +kernel
theorem dTP_readMark_0 : decode cTP_readMark 0 = .ok (.aload_n 0, 1) := by decide +kernel
theorem dTP_readMark_1 : decode cTP_readMark 1 = .ok (.getfield 24, 3) := by decide +kernel
theorem dTP_readMark_4 : decode cTP_readMark 4 = .ok (.istore_n 1, 1) := by decide +kernel
theorem dTP_readMark_5 : decode cTP_readMark 5 = .ok (.lconst 0, 1) := by decide +kernel
theorem dTP_readMark_6 : decode cTP_readMark 6 = .ok (.lstore_n 2, 1) := by decide +kernel
theorem dTP_readMark_7 : decode cTP_readMark 7 = .ok (.iconst 1, 1) := by decide +kernel
theorem dTP_readMark_8 : decode cTP_readMark 8 = .ok (.istore 4, 2) := by decide +kernel
theorem dTP_readMark_10 : decode cTP_readMark 10 = .ok (.aload_n 0, 1) := by decide +kernel
theorem dTP_readMark_11 : decode cTP_readMark 11 = .ok (.getfield 24, 3) := by decide +kernel
theorem dTP_readMark_14 : decode cTP_readMark 14 = .ok (.aload_n 0, 1) := by decide +kernel
theorem dTP_readMark_15 : decode cTP_readMark 15 = .ok (.getfield 27, 3) := by decide +kernel
theorem dTP_readMark_18 : decode cTP_readMark 18 = .ok (.if_icmp .ge 86, 3) := by decide +kernel
theorem dTP_readMark_21 : decode cTP_readMark 21 = .ok (.aload_n 0, 1) := by decide +kernel
theorem dTP_readMark_22 : decode cTP_readMark 22 = .ok (.getfield 9, 3) := by decide +kernel
theorem dTP_readMark_25 : decode cTP_readMark 25 = .ok (.aload_n 0, 1) := by decide +kernel
theorem dTP_readMark_26 : decode cTP_readMark 26 = .ok (.getfield 24, 3) := by decide +kernel
theorem dTP_readMark_29 : decode cTP_readMark 29 = .ok (.baload, 1) := by decide +kernel
theorem dTP_readMark_30 : decode cTP_readMark 30 = .ok (.invokestatic 30, 3) := by decide +kernel
theorem dTP_readMark_33 : decode cTP_readMark 33 = .ok (.istore 5, 2) := by decide +kernel
theorem dTP_readMark_35 : decode cTP_readMark 35 = .ok (.iload 5, 2) := by decide +kernel
theorem dTP_readMark_37 : decode cTP_readMark 37 = .ok (.ifCond .ne 21, 3) := by decide +kernel
theorem dTP_readMark_40 : decode cTP_readMark 40 = .ok (.aload_n 0, 1) := by decide +kernel
theorem dTP_readMark_41 : decode cTP_readMark 41 = .ok (.getfield 9, 3) := by decide +kernel
theorem dTP_readMark_44 : decode cTP_readMark 44 = .ok (.aload_n 0, 1) := by decide +kernel
theorem dTP_readMark_45 : decode cTP_readMark 45 = .ok (.getfield 24, 3) := by decide +kernel
theorem dTP_readMark_48 : decode cTP_readMark 48 = .ok (.baload, 1) := by decide +kernel
theorem dTP_readMark_49 : decode cTP_readMark 49 = .ok (.invokestatic 38, 3) := by decide +kernel
theorem dTP_readMark_52 : decode cTP_readMark 52 = .ok (.ifCond .ne 6, 3) := by decide +kernel
theorem dTP_readMark_55 : decode cTP_readMark 55 = .ok (.goto 49, 3) := by decide +kernel
theorem dTP_readMark_58 : decode cTP_readMark 58 = .ok (.iload 4, 2) := by decide +kernel
theorem dTP_readMark_60 : decode cTP_readMark 60 = .ok (.ifCond .eq 12, 3) := by decide +kernel
theorem dTP_readMark_63 : decode cTP_readMark 63 = .ok (.iload 5, 2) := by decide +kernel
theorem dTP_readMark_65 : decode cTP_readMark 65 = .ok (.ifCond .eq 7, 3) := by decide +kernel
theorem dTP_readMark_68 : decode cTP_readMark 68 = .ok (.iconst 1, 1) := by decide +kernel
theorem dTP_readMark_69 : decode cTP_readMark 69 = .ok (.goto 4, 3) := by decide +kernel
theorem dTP_readMark_72 : decode cTP_readMark 72 = .ok (.iconst 0, 1) := by decide +kernel
theorem dTP_readMark_73 : decode cTP_readMark 73 = .ok (.istore 4, 2) := by decide +kernel
theorem dTP_readMark_75 : decode cTP_readMark 75 = .ok (.lload_n 2, 1) := by decide +kernel
theorem dTP_readMark_76 : decode cTP_readMark 76 = .ok (.bipush 8, 2) := by decide +kernel
theorem dTP_readMark_78 : decode cTP_readMark 78 = .ok (.lshl, 1) := by decide +kernel
theorem dTP_readMark_79 : decode cTP_readMark 79 = .ok (.aload_n 0, 1) := by decide +kernel
theorem dTP_readMark_80 : decode cTP_readMark 80 = .ok (.getfield 9, 3) := by decide +kernel
theorem dTP_readMark_83 : decode cTP_readMark 83 = .ok (.aload_n 0, 1) := by decide +kernel
theorem dTP_readMark_84 : decode cTP_readMark 84 = .ok (.getfield 24, 3) := by decide +kernel
theorem dTP_readMark_87 : decode cTP_readMark 87 = .ok (.baload, 1) := by decide +kernel
theorem dTP_readMark_88 : decode cTP_readMark 88 = .ok (.i2l, 1) := by decide +kernel
theorem dTP_readMark_89 : decode cTP_readMark 89 = .ok (.lor, 1) := by decide +kernel
theorem dTP_readMark_90 : decode cTP_readMark 90 = .ok (.lstore_n 2, 1) := by decide +kernel
theorem dTP_readMark_91 : decode cTP_readMark 91 = .ok (.aload_n 0, 1) := by decide +kernel
theorem dTP_readMark_92 : decode cTP_readMark 92 = .ok (.dup, 1) := by decide +kernel
theorem dTP_readMark_93 : decode cTP_readMark 93 = .ok (.getfield 24, 3) := by decide +kernel
theorem dTP_readMark_96 : decode cTP_readMark 96 = .ok (.iconst 1, 1) := by decide +kernel
theorem dTP_readMark_97 : decode cTP_readMark 97 = .ok (.iadd, 1) := by decide +kernel
theorem dTP_readMark_98 : decode cTP_readMark 98 = .ok (.putfield 24, 3) := by decide +kernel
theorem dTP_readMark_101 : decode cTP_readMark 101 = .ok (.goto (-91), 3) := by decide +kernel
theorem dTP_readMark_104 : decode cTP_readMark 104 = .ok (.aload_n 0, 1) := by decide +kernel
theorem dTP_readMark_105 : decode cTP_readMark 105 = .ok (.getfield 24, 3) := by decide +kernel
theorem dTP_readMark_108 : decode cTP_readMark 108 = .ok (.iload_n 1, 1) := by decide +kernel
theorem dTP_readMark_109 : decode cTP_readMark 109 = .ok (.isub, 1) := by decide +kernel
theorem dTP_readMark_110 : decode cTP_readMark 110 = .ok (.istore 5, 2) := by decide +kernel
theorem dTP_readMark_112 : decode cTP_readMark 112 = .ok (.iload 5, 2) := by decide +kernel
theorem dTP_readMark_114 : decode cTP_readMark 114 = .ok (.iconst 1, 1) := by decide +kernel
theorem dTP_readMark_115 : decode cTP_readMark 115 = .ok (.if_icmp .lt 10, 3) := by decide +kernel
theorem dTP_readMark_118 : decode cTP_readMark 118 = .ok (.iload 5, 2) := by decide +kernel
theorem dTP_readMark_120 : decode cTP_readMark 120 = .ok (.bipush 8, 2) := by decide +kernel
theorem dTP_readMark_122 : decode cTP_readMark 122 = .ok (.if_icmp .le 7, 3) := by decide +kernel
theorem dTP_readMark_125 : decode cTP_readMark 125 = .ok (.ldc2_w 41, 3) := by decide +kernel
theorem dTP_readMark_128 : decode cTP_readMark 128 = .ok (.lreturn, 1) := by decide +kernel
theorem dTP_readMark_129 : decode cTP_readMark 129 = .ok (.iload 4, 2) := by decide +kernel
theorem dTP_readMark_131 : decode cTP_readMark 131 = .ok (.ifCond .eq 12, 3) := by decide +kernel
theorem dTP_readMark_134 : decode cTP_readMark 134 = .ok (.aload_n 0, 1) := by decide +kernel
theorem dTP_readMark_135 : decode cTP_readMark 135 = .ok (.iload_n 1, 1) := by decide +kernel
theorem dTP_readMark_136 : decode cTP_readMark 136 = .ok (.invokevirtual 34, 3) := by decide +kernel
theorem dTP_readMark_139 : decode cTP_readMark 139 = .ok (.i2l, 1) := by decide +kernel
theorem dTP_readMark_140 : decode cTP_readMark 140 = .ok (.goto 13, 3) := by decide +kernel
theorem dTP_readMark_143 : decode cTP_readMark 143 = .ok (.lload_n 2, 1) := by decide +kernel
theorem dTP_readMark_144 : decode cTP_readMark 144 = .ok (.bipush 8, 2) := by decide +kernel
theorem dTP_readMark_146 : decode cTP_readMark 146 = .ok (.bipush 8, 2) := by decide +kernel
theorem dTP_readMark_148 : decode cTP_readMark 148 = .ok (.iload 5, 2) := by decide +kernel
theorem dTP_readMark_150 : decode cTP_readMark 150 = .ok (.isub, 1) := by decide +kernel
theorem dTP_readMark_151 : decode cTP_readMark 151 = .ok (.imul, 1) := by decide +kernel
theorem dTP_readMark_152 : decode cTP_readMark 152 = .ok (.lshl, 1) := by decide +kernel
theorem dTP_readMark_153 : decode cTP_readMark 153 = .ok (.lreturn, 1) := by decide +kernel
theorem dTP_isLetterOrHyphen_0 : decode cTP_isLetterOrHyphen 0 = .ok (.iload_n 0, 1) := by decide +kernel
theorem dTP_isLetterOrHyphen_1 : decode cTP_isLetterOrHyphen 1 = .ok (.bipush 97, 2) := by decide +kernel
theorem dTP_isLetterOrHyphen_3 : decode cTP_isLetterOrHyphen 3 = .ok (.if_icmp .lt 9, 3) := by decide +kernel
theorem dTP_isLetterOrHyphen_6 : decode cTP_isLetterOrHyphen 6 = .ok (.iload_n 0, 1) := by decide +kernel
theorem dTP_isLetterOrHyphen_7 : decode cTP_isLetterOrHyphen 7 = .ok (.bipush 122, 2) := by decide +kernel
theorem dTP_isLetterOrHyphen_9 : decode cTP_isLetterOrHyphen 9 = .ok (.if_icmp .le 21, 3) := by decide +kernel
theorem dTP_isLetterOrHyphen_12 : decode cTP_isLetterOrHyphen 12 = .ok (.iload_n 0, 1) := by decide +kernel
theorem dTP_isLetterOrHyphen_13 : decode cTP_isLetterOrHyphen 13 = .ok (.bipush 65, 2) := by decide +kernel
theorem dTP_isLetterOrHyphen_15 : decode cTP_isLetterOrHyphen 15 = .ok (.if_icmp .lt 9, 3) := by decide +kernel
theorem dTP_isLetterOrHyphen_18 : decode cTP_isLetterOrHyphen 18 = .ok (.iload_n 0, 1) := by decide +kernel
theorem dTP_isLetterOrHyphen_19 : decode cTP_isLetterOrHyphen 19 = .ok (.bipush 90, 2) := by decide +kernel
theorem dTP_isLetterOrHyphen_21 : decode cTP_isLetterOrHyphen 21 = .ok (.if_icmp .le 9, 3) := by decide +kernel
theorem dTP_isLetterOrHyphen_24 : decode cTP_isLetterOrHyphen 24 = .ok (.iload_n 0, 1) := by decide +kernel
theorem dTP_isLetterOrHyphen_25 : decode cTP_isLetterOrHyphen 25 = .ok (.bipush 45, 2) := by decide +kernel
theorem dTP_isLetterOrHyphen_27 : decode cTP_isLetterOrHyphen 27 = .ok (.if_icmp .ne 7, 3) := by decide +kernel
theorem dTP_isLetterOrHyphen_30 : decode cTP_isLetterOrHyphen 30 = .ok (.iconst 1, 1) := by decide +kernel
theorem dTP_isLetterOrHyphen_31 : decode cTP_isLetterOrHyphen 31 = .ok (.goto 4, 3) := by decide +kernel
theorem dTP_isLetterOrHyphen_34 : decode cTP_isLetterOrHyphen 34 = .ok (.iconst 0, 1) := by decide +kernel
theorem dTP_isLetterOrHyphen_35 : decode cTP_isLetterOrHyphen 35 = .ok (.ireturn, 1) := by decide +kernel
theorem dTP_isDigit_0 : decode cTP_isDigit 0 = .ok (.iload_n 0, 1) := by decide +kernel
theorem dTP_isDigit_1 : decode cTP_isDigit 1 = .ok (.bipush 48, 2) := by decide +kernel
theorem dTP_isDigit_3 : decode cTP_isDigit 3 = .ok (.if_icmp .lt 13, 3) := by decide +kernel
theorem dTP_isDigit_6 : decode cTP_isDigit 6 = .ok (.iload_n 0, 1) := by decide +kernel
theorem dTP_isDigit_7 : decode cTP_isDigit 7 = .ok (.bipush 57, 2) := by decide +kernel
theorem dTP_isDigit_9 : decode cTP_isDigit 9 = .ok (.if_icmp .gt 7, 3) := by decide +kernel
theorem dTP_isDigit_12 : decode cTP_isDigit 12 = .ok (.iconst 1, 1) := by decide +kernel
theorem dTP_isDigit_13 : decode cTP_isDigit 13 = .ok (.goto 4, 3) := by decide +kernel
theorem dTP_isDigit_16 : decode cTP_isDigit 16 = .ok (.iconst 0, 1) := by decide +kernel
theorem dTP_isDigit_17 : decode cTP_isDigit 17 = .ok (.ireturn, 1) := by decide +kernel
theorem dVE_init_0 : decode cVE_init 0 = .ok (.aload_n 0, 1) := by decide +kernel
theorem dVE_init_1 : decode cVE_init 1 = .ok (.invokespecial 1, 3) := by decide +kernel
theorem dVE_init_4 : decode cVE_init 4 = .ok (.aload_n 0, 1) := by decide +kernel
theorem dVE_init_5 : decode cVE_init 5 = .ok (.bipush 7, 2) := by decide +kernel
theorem dVE_init_7 : decode cVE_init 7 = .ok (.newarray .long, 2) := by decide +kernel
theorem dVE_init_9 : decode cVE_init 9 = .ok (.putfield 9, 3) := by decide +kernel
theorem dVE_init_12 : decode cVE_init 12 = .ok (.aload_n 0, 1) := by decide +kernel
theorem dVE_init_13 : decode cVE_init 13 = .ok (.iconst 0, 1) := by decide +kernel
theorem dVE_init_14 : decode cVE_init 14 = .ok (.putfield 13, 3) := by decide +kernel
theorem dVE_init_17 : decode cVE_init 17 = .ok (.return_, 1) := by decide +kernel
theorem dVE_number_0 : decode cVE_number 0 = .ok (.aload_n 0, 1) := by decide +kernel
theorem dVE_number_1 : decode cVE_number 1 = .ok (.getfield 9, 3) := by decide +kernel
theorem dVE_number_4 : decode cVE_number 4 = .ok (.iload_n 1, 1) := by decide +kernel
theorem dVE_number_5 : decode cVE_number 5 = .ok (.laload, 1) := by decide +kernel
theorem dVE_number_6 : decode cVE_number 6 = .ok (.l2i, 1) := by decide +kernel
theorem dVE_number_7 : decode cVE_number 7 = .ok (.ireturn, 1) := by decide +kernel
theorem dVE_setNumbers_0 : decode cVE_setNumbers 0 = .ok (.aload_n 0, 1) := by decide +kernel
theorem dVE_setNumbers_1 : decode cVE_setNumbers 1 = .ok (.getfield 9, 3) := by decide +kernel
theorem dVE_setNumbers_4 : decode cVE_setNumbers 4 = .ok (.iconst 0, 1) := by decide +kernel
theorem dVE_setNumbers_5 : decode cVE_setNumbers 5 = .ok (.lload_n 1, 1) := by decide +kernel
theorem dVE_setNumbers_6 : decode cVE_setNumbers 6 = .ok (.lastore, 1) := by decide +kernel
theorem dVE_setNumbers_7 : decode cVE_setNumbers 7 = .ok (.aload_n 0, 1) := by decide +kernel
theorem dVE_setNumbers_8 : decode cVE_setNumbers 8 = .ok (.getfield 9, 3) := by decide +kernel
theorem dVE_setNumbers_11 : decode cVE_setNumbers 11 = .ok (.iconst 1, 1) := by decide +kernel
theorem dVE_setNumbers_12 : decode cVE_setNumbers 12 = .ok (.lload_n 3, 1) := by decide +kernel
theorem dVE_setNumbers_13 : decode cVE_setNumbers 13 = .ok (.lastore, 1) := by decide +kernel
theorem dVE_setNumbers_14 : decode cVE_setNumbers 14 = .ok (.aload_n 0, 1) := by decide +kernel
theorem dVE_setNumbers_15 : decode cVE_setNumbers 15 = .ok (.getfield 9, 3) := by decide +kernel
theorem dVE_setNumbers_18 : decode cVE_setNumbers 18 = .ok (.iconst 2, 1) := by decide +kernel
theorem dVE_setNumbers_19 : decode cVE_setNumbers 19 = .ok (.lload 5, 2) := by decide +kernel
theorem dVE_setNumbers_21 : decode cVE_setNumbers 21 = .ok (.lastore, 1) := by decide +kernel
theorem dVE_setNumbers_22 : decode cVE_setNumbers 22 = .ok (.aload_n 0, 1) := by decide +kernel
theorem dVE_setNumbers_23 : decode cVE_setNumbers 23 = .ok (.invokevirtual 17, 3) := by decide +kernel
theorem dVE_setNumbers_26 : decode cVE_setNumbers 26 = .ok (.return_, 1) := by decide +kernel
theorem dVE_dropPre_0 : decode cVE_dropPre 0 = .ok (.aload_n 0, 1) := by decide +kernel
theorem dVE_dropPre_1 : decode cVE_dropPre 1 = .ok (.iconst 0, 1) := by decide +kernel
theorem dVE_dropPre_2 : decode cVE_dropPre 2 = .ok (.putfield 13, 3) := by decide +kernel
theorem dVE_dropPre_5 : decode cVE_dropPre 5 = .ok (.aload_n 0, 1) := by decide +kernel
theorem dVE_dropPre_6 : decode cVE_dropPre 6 = .ok (.getfield 9, 3) := by decide +kernel
theorem dVE_dropPre_9 : decode cVE_dropPre 9 = .ok (.iconst 3, 1) := by decide +kernel
theorem dVE_dropPre_10 : decode cVE_dropPre 10 = .ok (.ldc2_w 20, 3) := by decide +kernel
theorem dVE_dropPre_13 : decode cVE_dropPre 13 = .ok (.lastore, 1) := by decide +kernel
theorem dVE_dropPre_14 : decode cVE_dropPre 14 = .ok (.iconst 1, 1) := by decide +kernel
theorem dVE_dropPre_15 : decode cVE_dropPre 15 = .ok (.istore_n 1, 1) := by decide +kernel
theorem dVE_dropPre_16 : decode cVE_dropPre 16 = .ok (.iload_n 1, 1) := by decide +kernel
theorem dVE_dropPre_17 : decode cVE_dropPre 17 = .ok (.iconst 4, 1) := by decide +kernel
theorem dVE_dropPre_18 : decode cVE_dropPre 18 = .ok (.if_icmp .ge 20, 3) := by decide +kernel
theorem dVE_dropPre_21 : decode cVE_dropPre 21 = .ok (.aload_n 0, 1) := by decide +kernel
theorem dVE_dropPre_22 : decode cVE_dropPre 22 = .ok (.getfield 9, 3) := by decide +kernel
theorem dVE_dropPre_25 : decode cVE_dropPre 25 = .ok (.iconst 3, 1) := by decide +kernel
theorem dVE_dropPre_26 : decode cVE_dropPre 26 = .ok (.iload_n 1, 1) := by decide +kernel
theorem dVE_dropPre_27 : decode cVE_dropPre 27 = .ok (.iadd, 1) := by decide +kernel
theorem dVE_dropPre_28 : decode cVE_dropPre 28 = .ok (.ldc2_w 22, 3) := by decide +kernel
theorem dVE_dropPre_31 : decode cVE_dropPre 31 = .ok (.lastore, 1) := by decide +kernel
theorem dVE_dropPre_32 : decode cVE_dropPre 32 = .ok (.iinc 1 1, 3) := by decide +kernel
theorem dVE_dropPre_35 : decode cVE_dropPre 35 = .ok (.goto (-19), 3) := by decide +kernel
theorem dVE_dropPre_38 : decode cVE_dropPre 38 = .ok (.return_, 1) := by decide +kernel
theorem dVE_copyFrom_0 : decode cVE_copyFrom 0 = .ok (.aload_n 1, 1) := by decide +kernel
theorem dVE_copyFrom_1 : decode cVE_copyFrom 1 = .ok (.getfield 9, 3) := by decide +kernel
theorem dVE_copyFrom_4 : decode cVE_copyFrom 4 = .ok (.iconst 0, 1) := by decide +kernel
theorem dVE_copyFrom_5 : decode cVE_copyFrom 5 = .ok (.aload_n 0, 1) := by decide +kernel
theorem dVE_copyFrom_6 : decode cVE_copyFrom 6 = .ok (.getfield 9, 3) := by decide +kernel
theorem dVE_copyFrom_9 : decode cVE_copyFrom 9 = .ok (.iconst 0, 1) := by decide +kernel
theorem dVE_copyFrom_10 : decode cVE_copyFrom 10 = .ok (.aload_n 0, 1) := by decide +kernel
theorem dVE_copyFrom_11 : decode cVE_copyFrom 11 = .ok (.getfield 9, 3) := by decide +kernel
theorem dVE_copyFrom_14 : decode cVE_copyFrom 14 = .ok (.arraylength, 1) := by decide +kernel
theorem dVE_copyFrom_15 : decode cVE_copyFrom 15 = .ok (.invokestatic 24, 3) := by decide +kernel
theorem dVE_copyFrom_18 : decode cVE_copyFrom 18 = .ok (.aload_n 0, 1) := by decide +kernel
theorem dVE_copyFrom_19 : decode cVE_copyFrom 19 = .ok (.aload_n 1, 1) := by decide +kernel
theorem dVE_copyFrom_20 : decode cVE_copyFrom 20 = .ok (.getfield 13, 3) := by decide +kernel
theorem dVE_copyFrom_23 : decode cVE_copyFrom 23 = .ok (.putfield 13, 3) := by decide +kernel
theorem dVE_copyFrom_26 : decode cVE_copyFrom 26 = .ok (.return_, 1) := by decide +kernel
theorem dVE_orderTo_0 : decode cVE_orderTo 0 = .ok (.iconst 0, 1) := by decide +kernel
theorem dVE_orderTo_1 : decode cVE_orderTo 1 = .ok (.istore_n 2, 1) := by decide +kernel
theorem dVE_orderTo_2 : decode cVE_orderTo 2 = .ok (.iload_n 2, 1) := by decide +kernel
theorem dVE_orderTo_3 : decode cVE_orderTo 3 = .ok (.aload_n 0, 1) := by decide +kernel
theorem dVE_orderTo_4 : decode cVE_orderTo 4 = .ok (.getfield 9, 3) := by decide +kernel
theorem dVE_orderTo_7 : decode cVE_orderTo 7 = .ok (.arraylength, 1) := by decide +kernel
theorem dVE_orderTo_8 : decode cVE_orderTo 8 = .ok (.if_icmp .ge 47, 3) := by decide +kernel
theorem dVE_orderTo_11 : decode cVE_orderTo 11 = .ok (.aload_n 0, 1) := by decide +kernel
theorem dVE_orderTo_12 : decode cVE_orderTo 12 = .ok (.getfield 9, 3) := by decide +kernel
theorem dVE_orderTo_15 : decode cVE_orderTo 15 = .ok (.iload_n 2, 1) := by decide +kernel
theorem dVE_orderTo_16 : decode cVE_orderTo 16 = .ok (.laload, 1) := by decide +kernel
theorem dVE_orderTo_17 : decode cVE_orderTo 17 = .ok (.aload_n 1, 1) := by decide +kernel
theorem dVE_orderTo_18 : decode cVE_orderTo 18 = .ok (.getfield 9, 3) := by decide +kernel
theorem dVE_orderTo_21 : decode cVE_orderTo 21 = .ok (.iload_n 2, 1) := by decide +kernel
theorem dVE_orderTo_22 : decode cVE_orderTo 22 = .ok (.laload, 1) := by decide +kernel
theorem dVE_orderTo_23 : decode cVE_orderTo 23 = .ok (.lcmp, 1) := by decide +kernel
theorem dVE_orderTo_24 : decode cVE_orderTo 24 = .ok (.ifCond .eq 25, 3) := by decide +kernel
theorem dVE_orderTo_27 : decode cVE_orderTo 27 = .ok (.aload_n 0, 1) := by decide +kernel
theorem dVE_orderTo_28 : decode cVE_orderTo 28 = .ok (.getfield 9, 3) := by decide +kernel
theorem dVE_orderTo_31 : decode cVE_orderTo 31 = .ok (.iload_n 2, 1) := by decide +kernel
theorem dVE_orderTo_32 : decode cVE_orderTo 32 = .ok (.laload, 1) := by decide +kernel
theorem dVE_orderTo_33 : decode cVE_orderTo 33 = .ok (.aload_n 1, 1) := by decide +kernel
theorem dVE_orderTo_34 : decode cVE_orderTo 34 = .ok (.getfield 9, 3) := by decide +kernel
theorem dVE_orderTo_37 : decode cVE_orderTo 37 = .ok (.iload_n 2, 1) := by decide +kernel
theorem dVE_orderTo_38 : decode cVE_orderTo 38 = .ok (.laload, 1) := by decide +kernel
theorem dVE_orderTo_39 : decode cVE_orderTo 39 = .ok (.lcmp, 1) := by decide +kernel
theorem dVE_orderTo_40 : decode cVE_orderTo 40 = .ok (.ifCond .ge 7, 3) := by decide +kernel
theorem dVE_orderTo_43 : decode cVE_orderTo 43 = .ok (.iconst (-1), 1) := by decide +kernel
theorem dVE_orderTo_44 : decode cVE_orderTo 44 = .ok (.goto 4, 3) := by decide +kernel
theorem dVE_orderTo_47 : decode cVE_orderTo 47 = .ok (.iconst 1, 1) := by decide +kernel
theorem dVE_orderTo_48 : decode cVE_orderTo 48 = .ok (.ireturn, 1) := by decide +kernel
theorem dVE_orderTo_49 : decode cVE_orderTo 49 = .ok (.iinc 2 1, 3) := by decide +kernel
theorem dVE_orderTo_52 : decode cVE_orderTo 52 = .ok (.goto (-50), 3) := by decide +kernel
theorem dVE_orderTo_55 : decode cVE_orderTo 55 = .ok (.iconst 0, 1) := by decide +kernel
theorem dVE_orderTo_56 : decode cVE_orderTo 56 = .ok (.ireturn, 1) := by decide +kernel
theorem dVE_readFrom_0 : decode cVE_readFrom 0 = .ok (.iconst 0, 1) := by decide +kernel
theorem dVE_readFrom_1 : decode cVE_readFrom 1 = .ok (.istore_n 2, 1) := by decide +kernel
theorem dVE_readFrom_2 : decode cVE_readFrom 2 = .ok (.iload_n 2, 1) := by decide +kernel
theorem dVE_readFrom_3 : decode cVE_readFrom 3 = .ok (.iconst 3, 1) := by decide +kernel
theorem dVE_readFrom_4 : decode cVE_readFrom 4 = .ok (.if_icmp .ge 48, 3) := by decide +kernel
theorem dVE_readFrom_7 : decode cVE_readFrom 7 = .ok (.iload_n 2, 1) := by decide +kernel
theorem dVE_readFrom_8 : decode cVE_readFrom 8 = .ok (.ifCond .le 14, 3) := by decide +kernel
theorem dVE_readFrom_11 : decode cVE_readFrom 11 = .ok (.aload_n 1, 1) := by decide +kernel
theorem dVE_readFrom_12 : decode cVE_readFrom 12 = .ok (.bipush 46, 2) := by decide +kernel
theorem dVE_readFrom_14 : decode cVE_readFrom 14 = .ok (.invokevirtual 30, 3) := by decide +kernel
theorem dVE_readFrom_17 : decode cVE_readFrom 17 = .ok (.ifCond .ne 5, 3) := by decide +kernel
theorem dVE_readFrom_20 : decode cVE_readFrom 20 = .ok (.iconst 0, 1) := by decide +kernel
theorem dVE_readFrom_21 : decode cVE_readFrom 21 = .ok (.ireturn, 1) := by decide +kernel
theorem dVE_readFrom_22 : decode cVE_readFrom 22 = .ok (.aload_n 0, 1) := by decide +kernel
theorem dVE_readFrom_23 : decode cVE_readFrom 23 = .ok (.getfield 9, 3) := by decide +kernel
theorem dVE_readFrom_26 : decode cVE_readFrom 26 = .ok (.iload_n 2, 1) := by decide +kernel
theorem dVE_readFrom_27 : decode cVE_readFrom 27 = .ok (.aload_n 1, 1) := by decide +kernel
theorem dVE_readFrom_28 : decode cVE_readFrom 28 = .ok (.invokevirtual 36, 3) := by decide +kernel
theorem dVE_readFrom_31 : decode cVE_readFrom 31 = .ok (.i2l, 1) := by decide +kernel
theorem dVE_readFrom_32 : decode cVE_readFrom 32 = .ok (.lastore, 1) := by decide +kernel
theorem dVE_readFrom_33 : decode cVE_readFrom 33 = .ok (.aload_n 0, 1) := by decide +kernel
theorem dVE_readFrom_34 : decode cVE_readFrom 34 = .ok (.getfield 9, 3) := by decide +kernel
theorem dVE_readFrom_37 : decode cVE_readFrom 37 = .ok (.iload_n 2, 1) := by decide +kernel
theorem dVE_readFrom_38 : decode cVE_readFrom 38 = .ok (.laload, 1) := by decide +kernel
theorem dVE_readFrom_39 : decode cVE_readFrom 39 = .ok (.lconst 0, 1) := by decide +kernel
theorem dVE_readFrom_40 : decode cVE_readFrom 40 = .ok (.lcmp, 1) := by decide +kernel
theorem dVE_readFrom_41 : decode cVE_readFrom 41 = .ok (.ifCond .ge 5, 3) := by decide +kernel
theorem dVE_readFrom_44 : decode cVE_readFrom 44 = .ok (.iconst 0, 1) := by decide +kernel
theorem dVE_readFrom_45 : decode cVE_readFrom 45 = .ok (.ireturn, 1) := by decide +kernel
theorem dVE_readFrom_46 : decode cVE_readFrom 46 = .ok (.iinc 2 1, 3) := by decide +kernel
theorem dVE_readFrom_49 : decode cVE_readFrom 49 = .ok (.goto (-47), 3) := by decide +kernel
theorem dVE_readFrom_52 : decode cVE_readFrom 52 = .ok (.aload_n 0, 1) := by decide +kernel
theorem dVE_readFrom_53 : decode cVE_readFrom 53 = .ok (.invokevirtual 17, 3) := by decide +kernel
theorem dVE_readFrom_56 : decode cVE_readFrom 56 = .ok (.aload_n 1, 1) := by decide +kernel
theorem dVE_readFrom_57 : decode cVE_readFrom 57 = .ok (.invokevirtual 40, 3) := by decide +kernel
theorem dVE_readFrom_60 : decode cVE_readFrom 60 = .ok (.ifCond .ne 20, 3) := by decide +kernel
theorem dVE_readFrom_63 : decode cVE_readFrom 63 = .ok (.aload_n 1, 1) := by decide +kernel
theorem dVE_readFrom_64 : decode cVE_readFrom 64 = .ok (.bipush 45, 2) := by decide +kernel
theorem dVE_readFrom_66 : decode cVE_readFrom 66 = .ok (.invokevirtual 30, 3) := by decide +kernel
theorem dVE_readFrom_69 : decode cVE_readFrom 69 = .ok (.ifCond .eq 15, 3) := by decide +kernel
theorem dVE_readFrom_72 : decode cVE_readFrom 72 = .ok (.aload_n 0, 1) := by decide +kernel
theorem dVE_readFrom_73 : decode cVE_readFrom 73 = .ok (.aload_n 1, 1) := by decide +kernel
theorem dVE_readFrom_74 : decode cVE_readFrom 74 = .ok (.invokevirtual 44, 3) := by decide +kernel
theorem dVE_readFrom_77 : decode cVE_readFrom 77 = .ok (.ifCond .eq 7, 3) := by decide +kernel
theorem dVE_readFrom_80 : decode cVE_readFrom 80 = .ok (.iconst 1, 1) := by decide +kernel
theorem dVE_readFrom_81 : decode cVE_readFrom 81 = .ok (.goto 4, 3) := by decide +kernel
theorem dVE_readFrom_84 : decode cVE_readFrom 84 = .ok (.iconst 0, 1) := by decide +kernel
theorem dVE_readFrom_85 : decode cVE_readFrom 85 = .ok (.ireturn, 1) := by decide +kernel
theorem dVE_readPre_0 : decode cVE_readPre 0 = .ok (.aload_n 0, 1) := by decide +kernel
theorem dVE_readPre_1 : decode cVE_readPre 1 = .ok (.aload_n 1, 1) := by decide +kernel
theorem dVE_readPre_2 : decode cVE_readPre 2 = .ok (.getfield 48, 3) := by decide +kernel
theorem dVE_readPre_5 : decode cVE_readPre 5 = .ok (.aload_n 1, 1) := by decide +kernel
theorem dVE_readPre_6 : decode cVE_readPre 6 = .ok (.getfield 51, 3) := by decide +kernel
theorem dVE_readPre_9 : decode cVE_readPre 9 = .ok (.isub, 1) := by decide +kernel
theorem dVE_readPre_10 : decode cVE_readPre 10 = .ok (.putfield 13, 3) := by decide +kernel
theorem dVE_readPre_13 : decode cVE_readPre 13 = .ok (.iconst 0, 1) := by decide +kernel
theorem dVE_readPre_14 : decode cVE_readPre 14 = .ok (.istore_n 2, 1) := by decide +kernel
theorem dVE_readPre_15 : decode cVE_readPre 15 = .ok (.iload_n 2, 1) := by decide +kernel
theorem dVE_readPre_16 : decode cVE_readPre 16 = .ok (.iconst 4, 1) := by decide +kernel
theorem dVE_readPre_17 : decode cVE_readPre 17 = .ok (.if_icmp .ge 60, 3) := by decide +kernel
theorem dVE_readPre_20 : decode cVE_readPre 20 = .ok (.iload_n 2, 1) := by decide +kernel
theorem dVE_readPre_21 : decode cVE_readPre 21 = .ok (.ifCond .le 14, 3) := by decide +kernel
theorem dVE_readPre_24 : decode cVE_readPre 24 = .ok (.aload_n 1, 1) := by decide +kernel
theorem dVE_readPre_25 : decode cVE_readPre 25 = .ok (.bipush 46, 2) := by decide +kernel
theorem dVE_readPre_27 : decode cVE_readPre 27 = .ok (.invokevirtual 30, 3) := by decide +kernel
theorem dVE_readPre_30 : decode cVE_readPre 30 = .ok (.ifCond .ne 5, 3) := by decide +kernel
theorem dVE_readPre_33 : decode cVE_readPre 33 = .ok (.iconst 0, 1) := by decide +kernel
theorem dVE_readPre_34 : decode cVE_readPre 34 = .ok (.ireturn, 1) := by decide +kernel
theorem dVE_readPre_35 : decode cVE_readPre 35 = .ok (.aload_n 0, 1) := by decide +kernel
theorem dVE_readPre_36 : decode cVE_readPre 36 = .ok (.getfield 9, 3) := by decide +kernel
theorem dVE_readPre_39 : decode cVE_readPre 39 = .ok (.iconst 3, 1) := by decide +kernel
theorem dVE_readPre_40 : decode cVE_readPre 40 = .ok (.iload_n 2, 1) := by decide +kernel
theorem dVE_readPre_41 : decode cVE_readPre 41 = .ok (.iadd, 1) := by decide +kernel
theorem dVE_readPre_42 : decode cVE_readPre 42 = .ok (.aload_n 1, 1) := by decide +kernel
theorem dVE_readPre_43 : decode cVE_readPre 43 = .ok (.invokevirtual 54, 3) := by decide +kernel
theorem dVE_readPre_46 : decode cVE_readPre 46 = .ok (.lastore, 1) := by decide +kernel
theorem dVE_readPre_47 : decode cVE_readPre 47 = .ok (.aload_n 0, 1) := by decide +kernel
theorem dVE_readPre_48 : decode cVE_readPre 48 = .ok (.getfield 9, 3) := by decide +kernel
theorem dVE_readPre_51 : decode cVE_readPre 51 = .ok (.iconst 3, 1) := by decide +kernel
theorem dVE_readPre_52 : decode cVE_readPre 52 = .ok (.iload_n 2, 1) := by decide +kernel
theorem dVE_readPre_53 : decode cVE_readPre 53 = .ok (.iadd, 1) := by decide +kernel
theorem dVE_readPre_54 : decode cVE_readPre 54 = .ok (.laload, 1) := by decide +kernel
theorem dVE_readPre_55 : decode cVE_readPre 55 = .ok (.lconst 0, 1) := by decide +kernel
theorem dVE_readPre_56 : decode cVE_readPre 56 = .ok (.lcmp, 1) := by decide +kernel
theorem dVE_readPre_57 : decode cVE_readPre 57 = .ok (.ifCond .ge 5, 3) := by decide +kernel
theorem dVE_readPre_60 : decode cVE_readPre 60 = .ok (.iconst 0, 1) := by decide +kernel
theorem dVE_readPre_61 : decode cVE_readPre 61 = .ok (.ireturn, 1) := by decide +kernel
theorem dVE_readPre_62 : decode cVE_readPre 62 = .ok (.aload_n 1, 1) := by decide +kernel
theorem dVE_readPre_63 : decode cVE_readPre 63 = .ok (.invokevirtual 40, 3) := by decide +kernel
theorem dVE_readPre_66 : decode cVE_readPre 66 = .ok (.ifCond .eq 5, 3) := by decide +kernel
theorem dVE_readPre_69 : decode cVE_readPre 69 = .ok (.iconst 1, 1) := by decide +kernel
theorem dVE_readPre_70 : decode cVE_readPre 70 = .ok (.ireturn, 1) := by decide +kernel
theorem dVE_readPre_71 : decode cVE_readPre 71 = .ok (.iinc 2 1, 3) := by decide +kernel
theorem dVE_readPre_74 : decode cVE_readPre 74 = .ok (.goto (-59), 3) := by decide +kernel
theorem dVE_readPre_77 : decode cVE_readPre 77 = .ok (.iconst 0, 1) := by decide +kernel
theorem dVE_readPre_78 : decode cVE_readPre 78 = .ok (.ireturn, 1) := by decide +kernel
