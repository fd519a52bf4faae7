theorem dSU_compress_0 : decode cSU_compress 0 = .ok (.iload_n 2, 1) := by decide +kernel
theorem dSU_compress_1 : decode cSU_compress 1 = .ok (.newarray .byte, 2) := by decide +kernel
theorem dSU_compress_3 : decode cSU_compress 3 = .ok (.astore_n 3, 1) := by decide +kernel
theorem dSU_compress_4 : decode cSU_compress 4 = .ok (.aload_n 0, 1) := by decide +kernel
theorem dSU_compress_5 : decode cSU_compress 5 = .ok (.iload_n 1, 1) := by decide +kernel
theorem dSU_compress_6 : decode cSU_compress 6 = .ok (.aload_n 3, 1) := by decide +kernel
theorem dSU_compress_7 : decode cSU_compress 7 = .ok (.iconst 0, 1) := by decide +kernel
theorem dSU_compress_8 : decode cSU_compress 8 = .ok (.iload_n 2, 1) := by decide +kernel
theorem dSU_compress_9 : decode cSU_compress 9 = .ok (.invokestatic 115, 3) := by decide +kernel
theorem dSU_compress_12 : decode cSU_compress 12 = .ok (.istore 4, 2) := by decide +kernel
theorem dSU_compress_14 : decode cSU_compress 14 = .ok (.iload 4, 2) := by decide +kernel
theorem dSU_compress_16 : decode cSU_compress 16 = .ok (.iload_n 2, 1) := by decide +kernel
theorem dSU_compress_17 : decode cSU_compress 17 = .ok (.if_icmp .eq 40, 3) := by decide +kernel
theorem dSU_compress_20 : decode cSU_compress 20 = .ok (.aload_n 0, 1) := by decide +kernel
theorem dSU_compress_21 : decode cSU_compress 21 = .ok (.iload_n 1, 1) := by decide +kernel
theorem dSU_compress_22 : decode cSU_compress 22 = .ok (.iload_n 2, 1) := by decide +kernel
theorem dSU_compress_23 : decode cSU_compress 23 = .ok (.invokestatic 119, 3) := by decide +kernel
theorem dSU_compress_26 : decode cSU_compress 26 = .ok (.astore 5, 2) := by decide +kernel
theorem dSU_compress_28 : decode cSU_compress 28 = .ok (.aload 5, 2) := by decide +kernel
theorem dSU_compress_30 : decode cSU_compress 30 = .ok (.iload 4, 2) := by decide +kernel
theorem dSU_compress_32 : decode cSU_compress 32 = .ok (.invokestatic 71, 3) := by decide +kernel
theorem dSU_compress_35 : decode cSU_compress 35 = .ok (.sipush 255, 3) := by decide +kernel
theorem dSU_compress_38 : decode cSU_compress 38 = .ok (.if_icmp .gt 16, 3) := by decide +kernel
theorem dSU_compress_41 : decode cSU_compress 41 = .ok (.aload 5, 2) := by decide +kernel
theorem dSU_compress_43 : decode cSU_compress 43 = .ok (.iconst 0, 1) := by decide +kernel
theorem dSU_compress_44 : decode cSU_compress 44 = .ok (.aload_n 3, 1) := by decide +kernel
theorem dSU_compress_45 : decode cSU_compress 45 = .ok (.iconst 0, 1) := by decide +kernel
theorem dSU_compress_46 : decode cSU_compress 46 = .ok (.iload_n 2, 1) := by decide +kernel
theorem dSU_compress_47 : decode cSU_compress 47 = .ok (.invokestatic 123, 3) := by decide +kernel
theorem dSU_compress_50 : decode cSU_compress 50 = .ok (.iload_n 2, 1) := by decide +kernel
theorem dSU_compress_51 : decode cSU_compress 51 = .ok (.if_icmp .eq 6, 3) := by decide +kernel
theorem dSU_compress_54 : decode cSU_compress 54 = .ok (.aload 5, 2) := by decide +kernel
theorem dSU_compress_56 : decode cSU_compress 56 = .ok (.areturn, 1) := by decide +kernel
theorem dSU_compress_57 : decode cSU_compress 57 = .ok (.aload_n 3, 1) := by decide +kernel
theorem dSU_compress_58 : decode cSU_compress 58 = .ok (.areturn, 1) := by decide +kernel
theorem dSU_compress2_0 : decode cSU_compress2 0 = .ok (.iconst 0, 1) := by decide +kernel
theorem dSU_compress2_1 : decode cSU_compress2 1 = .ok (.istore 5, 2) := by decide +kernel
theorem dSU_compress2_3 : decode cSU_compress2 3 = .ok (.iload 5, 2) := by decide +kernel
theorem dSU_compress2_5 : decode cSU_compress2 5 = .ok (.iload 4, 2) := by decide +kernel
theorem dSU_compress2_7 : decode cSU_compress2 7 = .ok (.if_icmp .ge 37, 3) := by decide +kernel
theorem dSU_compress2_10 : decode cSU_compress2 10 = .ok (.aload_n 0, 1) := by decide +kernel
theorem dSU_compress2_11 : decode cSU_compress2 11 = .ok (.iload_n 1, 1) := by decide +kernel
theorem dSU_compress2_12 : decode cSU_compress2 12 = .ok (.caload, 1) := by decide +kernel
theorem dSU_compress2_13 : decode cSU_compress2 13 = .ok (.istore 6, 2) := by decide +kernel
theorem dSU_compress2_15 : decode cSU_compress2 15 = .ok (.iload 6, 2) := by decide +kernel
theorem dSU_compress2_17 : decode cSU_compress2 17 = .ok (.sipush 255, 3) := by decide +kernel
theorem dSU_compress2_20 : decode cSU_compress2 20 = .ok (.if_icmp .le 6, 3) := by decide +kernel
theorem dSU_compress2_23 : decode cSU_compress2 23 = .ok (.iload 5, 2) := by decide +kernel
theorem dSU_compress2_25 : decode cSU_compress2 25 = .ok (.ireturn, 1) := by decide +kernel
theorem dSU_compress2_26 : decode cSU_compress2 26 = .ok (.aload_n 2, 1) := by decide +kernel
theorem dSU_compress2_27 : decode cSU_compress2 27 = .ok (.iload_n 3, 1) := by decide +kernel
theorem dSU_compress2_28 : decode cSU_compress2 28 = .ok (.iload 6, 2) := by decide +kernel
theorem dSU_compress2_30 : decode cSU_compress2 30 = .ok (.i2b, 1) := by decide +kernel
theorem dSU_compress2_31 : decode cSU_compress2 31 = .ok (.bastore, 1) := by decide +kernel
theorem dSU_compress2_32 : decode cSU_compress2 32 = .ok (.iinc 1 1, 3) := by decide +kernel
theorem dSU_compress2_35 : decode cSU_compress2 35 = .ok (.iinc 3 1, 3) := by decide +kernel
theorem dSU_compress2_38 : decode cSU_compress2 38 = .ok (.iinc 5 1, 3) := by decide +kernel
theorem dSU_compress2_41 : decode cSU_compress2 41 = .ok (.goto (-38), 3) := by decide +kernel
theorem dSU_compress2_44 : decode cSU_compress2 44 = .ok (.iload 4, 2) := by decide +kernel
theorem dSU_compress2_46 : decode cSU_compress2 46 = .ok (.ireturn, 1) := by decide +kernel
theorem dSU_toBytes_0 : decode cSU_toBytes 0 = .ok (.iload_n 2, 1) := by decide +kernel
theorem dSU_toBytes_1 : decode cSU_toBytes 1 = .ok (.invokestatic 107, 3) := by decide +kernel
theorem dSU_toBytes_4 : decode cSU_toBytes 4 = .ok (.astore_n 3, 1) := by decide +kernel
theorem dSU_toBytes_5 : decode cSU_toBytes 5 = .ok (.iconst 0, 1) := by decide +kernel
theorem dSU_toBytes_6 : decode cSU_toBytes 6 = .ok (.istore 4, 2) := by decide +kernel
theorem dSU_toBytes_8 : decode cSU_toBytes 8 = .ok (.iload 4, 2) := by decide +kernel
theorem dSU_toBytes_10 : decode cSU_toBytes 10 = .ok (.iload_n 2, 1) := by decide +kernel
theorem dSU_toBytes_11 : decode cSU_toBytes 11 = .ok (.if_icmp .ge 21, 3) := by decide +kernel
theorem dSU_toBytes_14 : decode cSU_toBytes 14 = .ok (.aload_n 3, 1) := by decide +kernel
theorem dSU_toBytes_15 : decode cSU_toBytes 15 = .ok (.iload 4, 2) := by decide +kernel
theorem dSU_toBytes_17 : decode cSU_toBytes 17 = .ok (.aload_n 0, 1) := by decide +kernel
theorem dSU_toBytes_18 : decode cSU_toBytes 18 = .ok (.iload_n 1, 1) := by decide +kernel
theorem dSU_toBytes_19 : decode cSU_toBytes 19 = .ok (.caload, 1) := by decide +kernel
theorem dSU_toBytes_20 : decode cSU_toBytes 20 = .ok (.invokestatic 111, 3) := by decide +kernel
theorem dSU_toBytes_23 : decode cSU_toBytes 23 = .ok (.iinc 1 1, 3) := by decide +kernel
theorem dSU_toBytes_26 : decode cSU_toBytes 26 = .ok (.iinc 4 1, 3) := by decide +kernel
theorem dSU_toBytes_29 : decode cSU_toBytes 29 = .ok (.goto (-21), 3) := by decide +kernel
theorem dSU_toBytes_32 : decode cSU_toBytes 32 = .ok (.aload_n 3, 1) := by decide +kernel
theorem dSU_toBytes_33 : decode cSU_toBytes 33 = .ok (.areturn, 1) := by decide +kernel
theorem dSU_newBytesFor_0 : decode cSU_newBytesFor 0 = .ok (.iload_n 0, 1) := by decide +kernel
theorem dSU_newBytesFor_1 : decode cSU_newBytesFor 1 = .ok (.invokestatic 11, 3) := by decide +kernel
theorem dSU_newBytesFor_4 : decode cSU_newBytesFor 4 = .ok (.newarray .byte, 2) := by decide +kernel
theorem dSU_newBytesFor_6 : decode cSU_newBytesFor 6 = .ok (.areturn, 1) := by decide +kernel
theorem dSU_newBytesLength_0 : decode cSU_newBytesLength 0 = .ok (.iload_n 0, 1) := by decide +kernel
theorem dSU_newBytesLength_1 : decode cSU_newBytesLength 1 = .ok (.ifCond .ge 11, 3) := by decide +kernel
theorem dSU_newBytesLength_4 : decode cSU_newBytesLength 4 = .ok (.new 17, 3) := by decide +kernel
theorem dSU_newBytesLength_7 : decode cSU_newBytesLength 7 = .ok (.dup, 1) := by decide +kernel
theorem dSU_newBytesLength_8 : decode cSU_newBytesLength 8 = .ok (.invokespecial 19, 3) := by decide +kernel
theorem dSU_newBytesLength_11 : decode cSU_newBytesLength 11 = .ok (.athrow, 1) := by decide +kernel
theorem dSU_newBytesLength_12 : decode cSU_newBytesLength 12 = .ok (.iload_n 0, 1) := by decide +kernel
theorem dSU_newBytesLength_13 : decode cSU_newBytesLength 13 = .ok (.ldc 20, 2) := by decide +kernel
theorem dSU_newBytesLength_15 : decode cSU_newBytesLength 15 = .ok (.if_icmp .lt 40, 3) := by decide +kernel
theorem dSU_newBytesLength_18 : decode cSU_newBytesLength 18 = .ok (.new 21, 3) := by decide +kernel
theorem dSU_newBytesLength_21 : decode cSU_newBytesLength 21 = .ok (.dup, 1) := by decide +kernel
theorem dSU_newBytesLength_22 : decode cSU_newBytesLength 22 = .ok (.new 23, 3) := by decide +kernel
theorem dSU_newBytesLength_25 : decode cSU_newBytesLength 25 = .ok (.dup, 1) := by decide +kernel
theorem dSU_newBytesLength_26 : decode cSU_newBytesLength 26 = .ok (.invokespecial 25, 3) := by decide +kernel
theorem dSU_newBytesLength_29 : decode cSU_newBytesLength 29 = .ok (.ldc 26, 2) := by decide +kernel
theorem dSU_newBytesLength_31 : decode cSU_newBytesLength 31 = .ok (.invokevirtual 28, 3) := by decide +kernel
theorem dSU_newBytesLength_34 : decode cSU_newBytesLength 34 = .ok (.iload_n 0, 1) := by decide +kernel
theorem dSU_newBytesLength_35 : decode cSU_newBytesLength 35 = .ok (.invokevirtual 32, 3) := by decide +kernel
theorem dSU_newBytesLength_38 : decode cSU_newBytesLength 38 = .ok (.ldc 35, 2) := by decide +kernel
theorem dSU_newBytesLength_40 : decode cSU_newBytesLength 40 = .ok (.invokevirtual 28, 3) := by decide +kernel
theorem dSU_newBytesLength_43 : decode cSU_newBytesLength 43 = .ok (.ldc 20, 2) := by decide +kernel
theorem dSU_newBytesLength_45 : decode cSU_newBytesLength 45 = .ok (.invokevirtual 32, 3) := by decide +kernel
theorem dSU_newBytesLength_48 : decode cSU_newBytesLength 48 = .ok (.invokevirtual 37, 3) := by decide +kernel
theorem dSU_newBytesLength_51 : decode cSU_newBytesLength 51 = .ok (.invokespecial 41, 3) := by decide +kernel
theorem dSU_newBytesLength_54 : decode cSU_newBytesLength 54 = .ok (.athrow, 1) := by decide +kernel
theorem dSU_newBytesLength_55 : decode cSU_newBytesLength 55 = .ok (.iload_n 0, 1) := by decide +kernel
theorem dSU_newBytesLength_56 : decode cSU_newBytesLength 56 = .ok (.iconst 1, 1) := by decide +kernel
theorem dSU_newBytesLength_57 : decode cSU_newBytesLength 57 = .ok (.ishl, 1) := by decide +kernel
theorem dSU_newBytesLength_58 : decode cSU_newBytesLength 58 = .ok (.ireturn, 1) := by decide +kernel
theorem dSU_putChar_0 : decode cSU_putChar 0 = .ok (.getstatic 44, 3) := by decide +kernel
theorem dSU_putChar_3 : decode cSU_putChar 3 = .ok (.ifCond .ne 25, 3) := by decide +kernel
theorem dSU_putChar_6 : decode cSU_putChar 6 = .ok (.iload_n 1, 1) := by decide +kernel
theorem dSU_putChar_7 : decode cSU_putChar 7 = .ok (.ifCond .lt 11, 3) := by decide +kernel
theorem dSU_putChar_10 : decode cSU_putChar 10 = .ok (.iload_n 1, 1) := by decide +kernel
theorem dSU_putChar_11 : decode cSU_putChar 11 = .ok (.aload_n 0, 1) := by decide +kernel
theorem dSU_putChar_12 : decode cSU_putChar 12 = .ok (.invokestatic 48, 3) := by decide +kernel
theorem dSU_putChar_15 : decode cSU_putChar 15 = .ok (.if_icmp .lt 13, 3) := by decide +kernel
theorem dSU_putChar_18 : decode cSU_putChar 18 = .ok (.new 52, 3) := by decide +kernel
theorem dSU_putChar_21 : decode cSU_putChar 21 = .ok (.dup, 1) := by decide +kernel
theorem dSU_putChar_22 : decode cSU_putChar 22 = .ok (.ldc 54, 2) := by decide +kernel
theorem dSU_putChar_24 : decode cSU_putChar 24 = .ok (.invokespecial 56, 3) := by decide +kernel
theorem dSU_putChar_27 : decode cSU_putChar 27 = .ok (.athrow, 1) := by decide +kernel
theorem dSU_putChar_28 : decode cSU_putChar 28 = .ok (.iload_n 1, 1) := by decide +kernel
theorem dSU_putChar_29 : decode cSU_putChar 29 = .ok (.iconst 1, 1) := by decide +kernel
theorem dSU_putChar_30 : decode cSU_putChar 30 = .ok (.ishl, 1) := by decide +kernel
theorem dSU_putChar_31 : decode cSU_putChar 31 = .ok (.istore_n 1, 1) := by decide +kernel
theorem dSU_putChar_32 : decode cSU_putChar 32 = .ok (.aload_n 0, 1) := by decide +kernel
theorem dSU_putChar_33 : decode cSU_putChar 33 = .ok (.iload_n 1, 1) := by decide +kernel
theorem dSU_putChar_34 : decode cSU_putChar 34 = .ok (.iinc 1 1, 3) := by decide +kernel
theorem dSU_putChar_37 : decode cSU_putChar 37 = .ok (.iload_n 2, 1) := by decide +kernel
theorem dSU_putChar_38 : decode cSU_putChar 38 = .ok (.getstatic 59, 3) := by decide +kernel
theorem dSU_putChar_41 : decode cSU_putChar 41 = .ok (.ishr, 1) := by decide +kernel
theorem dSU_putChar_42 : decode cSU_putChar 42 = .ok (.i2b, 1) := by decide +kernel
theorem dSU_putChar_43 : decode cSU_putChar 43 = .ok (.bastore, 1) := by decide +kernel
theorem dSU_putChar_44 : decode cSU_putChar 44 = .ok (.aload_n 0, 1) := by decide +kernel
theorem dSU_putChar_45 : decode cSU_putChar 45 = .ok (.iload_n 1, 1) := by decide +kernel
theorem dSU_putChar_46 : decode cSU_putChar 46 = .ok (.iload_n 2, 1) := by decide +kernel
theorem dSU_putChar_47 : decode cSU_putChar 47 = .ok (.getstatic 63, 3) := by decide +kernel
theorem dSU_putChar_50 : decode cSU_putChar 50 = .ok (.ishr, 1) := by decide +kernel
theorem dSU_putChar_51 : decode cSU_putChar 51 = .ok (.i2b, 1) := by decide +kernel
theorem dSU_putChar_52 : decode cSU_putChar 52 = .ok (.bastore, 1) := by decide +kernel
theorem dSU_putChar_53 : decode cSU_putChar 53 = .ok (.return_, 1) := by decide +kernel
theorem dSU_length_0 : decode cSU_length 0 = .ok (.aload_n 0, 1) := by decide +kernel
theorem dSU_length_1 : decode cSU_length 1 = .ok (.arraylength, 1) := by decide +kernel
theorem dSU_length_2 : decode cSU_length 2 = .ok (.iconst 1, 1) := by decide +kernel
theorem dSU_length_3 : decode cSU_length 3 = .ok (.ishr, 1) := by decide +kernel
theorem dSU_length_4 : decode cSU_length 4 = .ok (.ireturn, 1) := by decide +kernel
theorem dSU_getChar_0 : decode cSU_getChar 0 = .ok (.getstatic 44, 3) := by decide +kernel
theorem dSU_getChar_3 : decode cSU_getChar 3 = .ok (.ifCond .ne 25, 3) := by decide +kernel
theorem dSU_getChar_6 : decode cSU_getChar 6 = .ok (.iload_n 1, 1) := by decide +kernel
theorem dSU_getChar_7 : decode cSU_getChar 7 = .ok (.ifCond .lt 11, 3) := by decide +kernel
theorem dSU_getChar_10 : decode cSU_getChar 10 = .ok (.iload_n 1, 1) := by decide +kernel
theorem dSU_getChar_11 : decode cSU_getChar 11 = .ok (.aload_n 0, 1) := by decide +kernel
theorem dSU_getChar_12 : decode cSU_getChar 12 = .ok (.invokestatic 48, 3) := by decide +kernel
theorem dSU_getChar_15 : decode cSU_getChar 15 = .ok (.if_icmp .lt 13, 3) := by decide +kernel
theorem dSU_getChar_18 : decode cSU_getChar 18 = .ok (.new 52, 3) := by decide +kernel
theorem dSU_getChar_21 : decode cSU_getChar 21 = .ok (.dup, 1) := by decide +kernel
theorem dSU_getChar_22 : decode cSU_getChar 22 = .ok (.ldc 54, 2) := by decide +kernel
theorem dSU_getChar_24 : decode cSU_getChar 24 = .ok (.invokespecial 56, 3) := by decide +kernel
theorem dSU_getChar_27 : decode cSU_getChar 27 = .ok (.athrow, 1) := by decide +kernel
theorem dSU_getChar_28 : decode cSU_getChar 28 = .ok (.iload_n 1, 1) := by decide +kernel
theorem dSU_getChar_29 : decode cSU_getChar 29 = .ok (.iconst 1, 1) := by decide +kernel
theorem dSU_getChar_30 : decode cSU_getChar 30 = .ok (.ishl, 1) := by decide +kernel
theorem dSU_getChar_31 : decode cSU_getChar 31 = .ok (.istore_n 1, 1) := by decide +kernel
theorem dSU_getChar_32 : decode cSU_getChar 32 = .ok (.aload_n 0, 1) := by decide +kernel
theorem dSU_getChar_33 : decode cSU_getChar 33 = .ok (.iload_n 1, 1) := by decide +kernel
theorem dSU_getChar_34 : decode cSU_getChar 34 = .ok (.iinc 1 1, 3) := by decide +kernel
theorem dSU_getChar_37 : decode cSU_getChar 37 = .ok (.baload, 1) := by decide +kernel
theorem dSU_getChar_38 : decode cSU_getChar 38 = .ok (.sipush 255, 3) := by decide +kernel
theorem dSU_getChar_41 : decode cSU_getChar 41 = .ok (.iand, 1) := by decide +kernel
theorem dSU_getChar_42 : decode cSU_getChar 42 = .ok (.getstatic 59, 3) := by decide +kernel
theorem dSU_getChar_45 : decode cSU_getChar 45 = .ok (.ishl, 1) := by decide +kernel
theorem dSU_getChar_46 : decode cSU_getChar 46 = .ok (.aload_n 0, 1) := by decide +kernel
theorem dSU_getChar_47 : decode cSU_getChar 47 = .ok (.iload_n 1, 1) := by decide +kernel
theorem dSU_getChar_48 : decode cSU_getChar 48 = .ok (.baload, 1) := by decide +kernel
theorem dSU_getChar_49 : decode cSU_getChar 49 = .ok (.sipush 255, 3) := by decide +kernel
theorem dSU_getChar_52 : decode cSU_getChar 52 = .ok (.iand, 1) := by decide +kernel
theorem dSU_getChar_53 : decode cSU_getChar 53 = .ok (.getstatic 63, 3) := by decide +kernel
theorem dSU_getChar_56 : decode cSU_getChar 56 = .ok (.ishl, 1) := by decide +kernel
theorem dSU_getChar_57 : decode cSU_getChar 57 = .ok (.ior, 1) := by decide +kernel
theorem dSU_getChar_58 : decode cSU_getChar 58 = .ok (.i2c, 1) := by decide +kernel
theorem dSU_getChar_59 : decode cSU_getChar 59 = .ok (.ireturn, 1) := by decide +kernel
theorem dSU_compress3_0 : decode cSU_compress3 0 = .ok (.iload_n 1, 1) := by decide +kernel
theorem dSU_compress3_1 : decode cSU_compress3 1 = .ok (.iload 4, 2) := by decide +kernel
theorem dSU_compress3_3 : decode cSU_compress3 3 = .ok (.aload_n 0, 1) := by decide +kernel
theorem dSU_compress3_4 : decode cSU_compress3 4 = .ok (.invokestatic 173, 3) := by decide +kernel
theorem dSU_compress3_7 : decode cSU_compress3 7 = .ok (.iconst 0, 1) := by decide +kernel
theorem dSU_compress3_8 : decode cSU_compress3 8 = .ok (.istore 5, 2) := by decide +kernel
theorem dSU_compress3_10 : decode cSU_compress3 10 = .ok (.iload 5, 2) := by decide +kernel
theorem dSU_compress3_12 : decode cSU_compress3 12 = .ok (.iload 4, 2) := by decide +kernel
theorem dSU_compress3_14 : decode cSU_compress3 14 = .ok (.if_icmp .ge 39, 3) := by decide +kernel
theorem dSU_compress3_17 : decode cSU_compress3 17 = .ok (.aload_n 0, 1) := by decide +kernel
theorem dSU_compress3_18 : decode cSU_compress3 18 = .ok (.iload_n 1, 1) := by decide +kernel
theorem dSU_compress3_19 : decode cSU_compress3 19 = .ok (.invokestatic 71, 3) := by decide +kernel
theorem dSU_compress3_22 : decode cSU_compress3 22 = .ok (.istore 6, 2) := by decide +kernel
theorem dSU_compress3_24 : decode cSU_compress3 24 = .ok (.iload 6, 2) := by decide +kernel
theorem dSU_compress3_26 : decode cSU_compress3 26 = .ok (.sipush 255, 3) := by decide +kernel
theorem dSU_compress3_29 : decode cSU_compress3 29 = .ok (.if_icmp .le 6, 3) := by decide +kernel
theorem dSU_compress3_32 : decode cSU_compress3 32 = .ok (.iload 5, 2) := by decide +kernel
theorem dSU_compress3_34 : decode cSU_compress3 34 = .ok (.ireturn, 1) := by decide +kernel
theorem dSU_compress3_35 : decode cSU_compress3 35 = .ok (.aload_n 2, 1) := by decide +kernel
theorem dSU_compress3_36 : decode cSU_compress3 36 = .ok (.iload_n 3, 1) := by decide +kernel
theorem dSU_compress3_37 : decode cSU_compress3 37 = .ok (.iload 6, 2) := by decide +kernel
theorem dSU_compress3_39 : decode cSU_compress3 39 = .ok (.i2b, 1) := by decide +kernel
theorem dSU_compress3_40 : decode cSU_compress3 40 = .ok (.bastore, 1) := by decide +kernel
theorem dSU_compress3_41 : decode cSU_compress3 41 = .ok (.iinc 1 1, 3) := by decide +kernel
theorem dSU_compress3_44 : decode cSU_compress3 44 = .ok (.iinc 3 1, 3) := by decide +kernel
theorem dSU_compress3_47 : decode cSU_compress3 47 = .ok (.iinc 5 1, 3) := by decide +kernel
theorem dSU_compress3_50 : decode cSU_compress3 50 = .ok (.goto (-40), 3) := by decide +kernel
theorem dSU_compress3_53 : decode cSU_compress3 53 = .ok (.iload 4, 2) := by decide +kernel
theorem dSU_compress3_55 : decode cSU_compress3 55 = .ok (.ireturn, 1) := by decide +kernel
theorem dSU_checkBoundsOffCount_0 : decode cSU_checkBoundsOffCount 0 = .ok (.iload_n 0, 1) := by decide +kernel
theorem dSU_checkBoundsOffCount_1 : decode cSU_checkBoundsOffCount 1 = .ok (.iload_n 1, 1) := by decide +kernel
theorem dSU_checkBoundsOffCount_2 : decode cSU_checkBoundsOffCount 2 = .ok (.aload_n 2, 1) := by decide +kernel
theorem dSU_checkBoundsOffCount_3 : decode cSU_checkBoundsOffCount 3 = .ok (.invokestatic 48, 3) := by decide +kernel
theorem dSU_checkBoundsOffCount_6 : decode cSU_checkBoundsOffCount 6 = .ok (.invokestatic 419, 3) := by decide +kernel
theorem dSU_checkBoundsOffCount_9 : decode cSU_checkBoundsOffCount 9 = .ok (.pop, 1) := by decide +kernel
theorem dSU_checkBoundsOffCount_10 : decode cSU_checkBoundsOffCount 10 = .ok (.return_, 1) := by decide +kernel
theorem dSU_coderFromArrayLen_0 : decode cSU_coderFromArrayLen 0 = .ok (.iload_n 1, 1) := by decide +kernel
theorem dSU_coderFromArrayLen_1 : decode cSU_coderFromArrayLen 1 = .ok (.aload_n 0, 1) := by decide +kernel
theorem dSU_coderFromArrayLen_2 : decode cSU_coderFromArrayLen 2 = .ok (.arraylength, 1) := by decide +kernel
theorem dSU_coderFromArrayLen_3 : decode cSU_coderFromArrayLen 3 = .ok (.isub, 1) := by decide +kernel
theorem dSU_coderFromArrayLen_4 : decode cSU_coderFromArrayLen 4 = .ok (.bipush 31, 2) := by decide +kernel
theorem dSU_coderFromArrayLen_6 : decode cSU_coderFromArrayLen 6 = .ok (.iushr, 1) := by decide +kernel
theorem dSU_coderFromArrayLen_7 : decode cSU_coderFromArrayLen 7 = .ok (.i2b, 1) := by decide +kernel
theorem dSU_coderFromArrayLen_8 : decode cSU_coderFromArrayLen 8 = .ok (.ireturn, 1) := by decide +kernel
theorem dSU_charAt_0 : decode cSU_charAt 0 = .ok (.iload_n 1, 1) := by decide +kernel
theorem dSU_charAt_1 : decode cSU_charAt 1 = .ok (.aload_n 0, 1) := by decide +kernel
theorem dSU_charAt_2 : decode cSU_charAt 2 = .ok (.invokestatic 67, 3) := by decide +kernel
theorem dSU_charAt_5 : decode cSU_charAt 5 = .ok (.aload_n 0, 1) := by decide +kernel
theorem dSU_charAt_6 : decode cSU_charAt 6 = .ok (.iload_n 1, 1) := by decide +kernel
theorem dSU_charAt_7 : decode cSU_charAt 7 = .ok (.invokestatic 71, 3) := by decide +kernel
theorem dSU_charAt_10 : decode cSU_charAt 10 = .ok (.ireturn, 1) := by decide +kernel
theorem dSU_checkIndex_0 : decode cSU_checkIndex 0 = .ok (.iload_n 0, 1) := by decide +kernel
theorem dSU_checkIndex_1 : decode cSU_checkIndex 1 = .ok (.aload_n 1, 1) := by decide +kernel
theorem dSU_checkIndex_2 : decode cSU_checkIndex 2 = .ok (.invokestatic 48, 3) := by decide +kernel
theorem dSU_checkIndex_5 : decode cSU_checkIndex 5 = .ok (.invokestatic 414, 3) := by decide +kernel
theorem dSU_checkIndex_8 : decode cSU_checkIndex 8 = .ok (.return_, 1) := by decide +kernel
theorem dSU_newString_0 : decode cSU_newString 0 = .ok (.iload_n 2, 1) := by decide +kernel
theorem dSU_newString_1 : decode cSU_newString 1 = .ok (.ifCond .ne 7, 3) := by decide +kernel
theorem dSU_newString_4 : decode cSU_newString 4 = .ok (.ldc_w 295, 3) := by decide +kernel
theorem dSU_newString_7 : decode cSU_newString 7 = .ok (.areturn, 1) := by decide +kernel
theorem dSU_newString_8 : decode cSU_newString 8 = .ok (.getstatic 251, 3) := by decide +kernel
theorem dSU_newString_11 : decode cSU_newString 11 = .ok (.ifCond .eq 28, 3) := by decide +kernel
theorem dSU_newString_14 : decode cSU_newString 14 = .ok (.aload_n 0, 1) := by decide +kernel
theorem dSU_newString_15 : decode cSU_newString 15 = .ok (.iload_n 1, 1) := by decide +kernel
theorem dSU_newString_16 : decode cSU_newString 16 = .ok (.iload_n 2, 1) := by decide +kernel
theorem dSU_newString_17 : decode cSU_newString 17 = .ok (.invokestatic 257, 3) := by decide +kernel
theorem dSU_newString_20 : decode cSU_newString 20 = .ok (.astore_n 3, 1) := by decide +kernel
theorem dSU_newString_21 : decode cSU_newString 21 = .ok (.aload_n 3, 1) := by decide +kernel
theorem dSU_newString_22 : decode cSU_newString 22 = .ok (.iload_n 2, 1) := by decide +kernel
theorem dSU_newString_23 : decode cSU_newString 23 = .ok (.invokestatic 259, 3) := by decide +kernel
theorem dSU_newString_26 : decode cSU_newString 26 = .ok (.istore 4, 2) := by decide +kernel
theorem dSU_newString_28 : decode cSU_newString 28 = .ok (.new 3, 3) := by decide +kernel
theorem dSU_newString_31 : decode cSU_newString 31 = .ok (.dup, 1) := by decide +kernel
theorem dSU_newString_32 : decode cSU_newString 32 = .ok (.aload_n 3, 1) := by decide +kernel
theorem dSU_newString_33 : decode cSU_newString 33 = .ok (.iload 4, 2) := by decide +kernel
theorem dSU_newString_35 : decode cSU_newString 35 = .ok (.invokespecial 263, 3) := by decide +kernel
theorem dSU_newString_38 : decode cSU_newString 38 = .ok (.areturn, 1) := by decide +kernel
theorem dSU_newString_39 : decode cSU_newString 39 = .ok (.iload_n 1, 1) := by decide +kernel
theorem dSU_newString_40 : decode cSU_newString 40 = .ok (.iload_n 2, 1) := by decide +kernel
theorem dSU_newString_41 : decode cSU_newString 41 = .ok (.iadd, 1) := by decide +kernel
theorem dSU_newString_42 : decode cSU_newString 42 = .ok (.istore_n 3, 1) := by decide +kernel
theorem dSU_newString_43 : decode cSU_newString 43 = .ok (.new 3, 3) := by decide +kernel
theorem dSU_newString_46 : decode cSU_newString 46 = .ok (.dup, 1) := by decide +kernel
theorem dSU_newString_47 : decode cSU_newString 47 = .ok (.aload_n 0, 1) := by decide +kernel
theorem dSU_newString_48 : decode cSU_newString 48 = .ok (.iload_n 1, 1) := by decide +kernel
theorem dSU_newString_49 : decode cSU_newString 49 = .ok (.iconst 1, 1) := by decide +kernel
theorem dSU_newString_50 : decode cSU_newString 50 = .ok (.ishl, 1) := by decide +kernel
theorem dSU_newString_51 : decode cSU_newString 51 = .ok (.iload_n 3, 1) := by decide +kernel
theorem dSU_newString_52 : decode cSU_newString 52 = .ok (.iconst 1, 1) := by decide +kernel
theorem dSU_newString_53 : decode cSU_newString 53 = .ok (.ishl, 1) := by decide +kernel
theorem dSU_newString_54 : decode cSU_newString 54 = .ok (.invokestatic 126, 3) := by decide +kernel
theorem dSU_newString_57 : decode cSU_newString 57 = .ok (.iconst 1, 1) := by decide +kernel
theorem dSU_newString_58 : decode cSU_newString 58 = .ok (.invokespecial 263, 3) := by decide +kernel
theorem dSU_newString_61 : decode cSU_newString 61 = .ok (.areturn, 1) := by decide +kernel
theorem dSU_compress4_0 : decode cSU_compress4 0 = .ok (.iload_n 2, 1) := by decide +kernel
theorem dSU_compress4_1 : decode cSU_compress4 1 = .ok (.newarray .byte, 2) := by decide +kernel
theorem dSU_compress4_3 : decode cSU_compress4 3 = .ok (.astore_n 3, 1) := by decide +kernel
theorem dSU_compress4_4 : decode cSU_compress4 4 = .ok (.aload_n 0, 1) := by decide +kernel
theorem dSU_compress4_5 : decode cSU_compress4 5 = .ok (.iload_n 1, 1) := by decide +kernel
theorem dSU_compress4_6 : decode cSU_compress4 6 = .ok (.aload_n 3, 1) := by decide +kernel
theorem dSU_compress4_7 : decode cSU_compress4 7 = .ok (.iconst 0, 1) := by decide +kernel
theorem dSU_compress4_8 : decode cSU_compress4 8 = .ok (.iload_n 2, 1) := by decide +kernel
theorem dSU_compress4_9 : decode cSU_compress4 9 = .ok (.invokestatic 123, 3) := by decide +kernel
theorem dSU_compress4_12 : decode cSU_compress4 12 = .ok (.istore 4, 2) := by decide +kernel
theorem dSU_compress4_14 : decode cSU_compress4 14 = .ok (.iload 4, 2) := by decide +kernel
theorem dSU_compress4_16 : decode cSU_compress4 16 = .ok (.iload_n 2, 1) := by decide +kernel
theorem dSU_compress4_17 : decode cSU_compress4 17 = .ok (.if_icmp .eq 47, 3) := by decide +kernel
theorem dSU_compress4_20 : decode cSU_compress4 20 = .ok (.aload_n 0, 1) := by decide +kernel
theorem dSU_compress4_21 : decode cSU_compress4 21 = .ok (.iload_n 1, 1) := by decide +kernel
theorem dSU_compress4_22 : decode cSU_compress4 22 = .ok (.iconst 1, 1) := by decide +kernel
theorem dSU_compress4_23 : decode cSU_compress4 23 = .ok (.ishl, 1) := by decide +kernel
theorem dSU_compress4_24 : decode cSU_compress4 24 = .ok (.iload_n 1, 1) := by decide +kernel
theorem dSU_compress4_25 : decode cSU_compress4 25 = .ok (.iload_n 2, 1) := by decide +kernel
theorem dSU_compress4_26 : decode cSU_compress4 26 = .ok (.iadd, 1) := by decide +kernel
theorem dSU_compress4_27 : decode cSU_compress4 27 = .ok (.invokestatic 11, 3) := by decide +kernel
theorem dSU_compress4_30 : decode cSU_compress4 30 = .ok (.invokestatic 126, 3) := by decide +kernel
theorem dSU_compress4_33 : decode cSU_compress4 33 = .ok (.astore 5, 2) := by decide +kernel
theorem dSU_compress4_35 : decode cSU_compress4 35 = .ok (.aload 5, 2) := by decide +kernel
theorem dSU_compress4_37 : decode cSU_compress4 37 = .ok (.iload 4, 2) := by decide +kernel
theorem dSU_compress4_39 : decode cSU_compress4 39 = .ok (.invokestatic 71, 3) := by decide +kernel
theorem dSU_compress4_42 : decode cSU_compress4 42 = .ok (.sipush 255, 3) := by decide +kernel
theorem dSU_compress4_45 : decode cSU_compress4 45 = .ok (.if_icmp .gt 16, 3) := by decide +kernel
theorem dSU_compress4_48 : decode cSU_compress4 48 = .ok (.aload 5, 2) := by decide +kernel
theorem dSU_compress4_50 : decode cSU_compress4 50 = .ok (.iconst 0, 1) := by decide +kernel
theorem dSU_compress4_51 : decode cSU_compress4 51 = .ok (.aload_n 3, 1) := by decide +kernel
theorem dSU_compress4_52 : decode cSU_compress4 52 = .ok (.iconst 0, 1) := by decide +kernel
theorem dSU_compress4_53 : decode cSU_compress4 53 = .ok (.iload_n 2, 1) := by decide +kernel
theorem dSU_compress4_54 : decode cSU_compress4 54 = .ok (.invokestatic 123, 3) := by decide +kernel
theorem dSU_compress4_57 : decode cSU_compress4 57 = .ok (.iload_n 2, 1) := by decide +kernel
theorem dSU_compress4_58 : decode cSU_compress4 58 = .ok (.if_icmp .eq 6, 3) := by decide +kernel
theorem dSU_compress4_61 : decode cSU_compress4 61 = .ok (.aload 5, 2) := by decide +kernel
theorem dSU_compress4_63 : decode cSU_compress4 63 = .ok (.areturn, 1) := by decide +kernel
theorem dSU_compress4_64 : decode cSU_compress4 64 = .ok (.aload_n 3, 1) := by decide +kernel
theorem dSU_compress4_65 : decode cSU_compress4 65 = .ok (.areturn, 1) := by decide +kernel
set_option maxHeartbeats 800000 in
set_option maxRecDepth 100000 in
theorem mSL_newString0 (l : Launch) (g : kG) (μ : km_M) {va i : Nat} : Met l ySL_newString (Cond.code ySL_newString cSL_newString 3 (some (.object "java/lang/String")) :: Wd) ({ frames := 0, cells := 0, slots := 0, locals := 0 } : Room) (kPre g μ [.ref va, .int (nI i), .int (nI 0)]) (kQr g (fun (r : Nat) (μ1 : km_M) => r = g.2.2.2.2.1 0 ∧ μ1 = μ)) 0 0 (kF g) := by
  refine k_met (by decide) (Nat.le_of_ble_eq_true rfl) ?_
  intro p e s m below meth c hx hb hr hlocks hml hown hnm hW ls hl H locs hM
  have hl : lv_has ls 3 [(0, .ref va), (1, .int (nI i)), (2, .int (nI 0))] := hl
  refine lv_iload_n hx hb dSL_newString_0 rfl (lv_at hl 2 rfl) ?_
  refine lv_if_ne (tgt := 7) hx hb dSL_newString_1 (by decide) (fun h => absurd (by decide) h) (fun _ => ?_)
  refine va_ldcS hx hb hown (hM.2.1.2.2.2.2.1 ("java/lang/StringLatin1", 151, "", 0) (by decide +kernel)) dSL_newString_4 ?_
  exact kr_r hx hb hr (Or.inl ⟨_, rfl⟩) hlocks hM dSL_newString_6 (⟨rfl, rfl⟩)
set_option maxHeartbeats 800000 in
set_option maxRecDepth 100000 in
theorem mST_substring (l : Launch) (g : kG) (μ : km_M) {a va n : Nat} {f : Nat → Nat} (hs : μ a = some (.inr (7, [.ref va, .int (nI 0), .int (nI 0), .int (nI 0)]))) (hv : μ va = some (.inl (g.2.2.1 0, n, .inl (fun j => sb (f j))))) (hf : ∀ k, f k < 256) (hn : n ≤ 400) {i tt : Nat} (hi : i ≤ tt) (hj : tt ≤ n) : Met l yST_substring (Cond.code yST_substring cST_substring 5 (some (.object "java/lang/String")) :: Wd) ({ frames := 4, cells := 2, slots := 4 + (tt - i), locals := 108 } : Room) (kPre g μ [.ref a, .int (nI i), .int (nI tt)]) (kQr g (fun (r : Nat) (μ1 : km_M) => (i = 0 ∧ tt = n ∧ r = a ∧ μ1 = μ) ∨ (¬ (i = 0 ∧ tt = n) ∧ i = tt ∧ r = g.2.2.2.2.1 0 ∧ μ1 = μ) ∨ (¬ (i = 0 ∧ tt = n) ∧ i < tt ∧ ∃ vb, μ r = none ∧ μ vb = none ∧ vb ≠ r ∧ μ1 = km_up (km_up μ r (.inr (7, [.ref vb, .int (nI 0), .int (nI 0), .int (nI 0)]))) vb (.inl (g.2.2.1 0, (tt - i), .inl (fun j => sb ((sbs f i (tt - i)) j))))))) 2 (4 + (tt - i)) (kF g) := by
  refine k_met (by decide) (Nat.le_of_ble_eq_true rfl) ?_
  intro p e s m below meth c hx hb hr hlocks hml hown hnm hW ls hl H locs hM
  have hl : lv_has ls 5 [(0, .ref a), (1, .int (nI i)), (2, .int (nI tt))] := hl
  refine lv_aload_n hx hb dST_substring_0 rfl (lv_at hl 0 rfl) ?_
  refine kc_i (va_runV (C := RST) (As := []) (b := a) (rest := []) (Ts := Wd) ⟨hx, hb, hml, hown, hW⟩ (mST_length l g μ hs hv hf (by omega)) (cwV 0 hW (k_gV w_469 w_431 w_432 w_9 w_433) rfl rfl rfl (by decide +kernel) ⟨Nat.le_of_ble_eq_true rfl, Nat.le_of_ble_eq_true rfl⟩) (k_preV (q := (RST, TST, 4)) hM hs rfl) rfl rfl hl.1 rfl (lv_room (Nat.le_of_ble_eq_true rfl)) dST_substring_1 ⟨Nat.zero_le _, Nat.zero_le _⟩) hM (fun r μ1 H locs hp hM => ?_)
  obtain ⟨rfl, hmu⟩ := hp
  rw [hmu] at hM
  refine lv_istore_n (lv' := [(3, .int (nI n)), (0, .ref a), (1, .int (nI i)), (2, .int (nI tt))]) hx hb dST_substring_4 rfl hl (by decide) rfl (fun ls hl => ?_)
  refine lv_iload_n hx hb dST_substring_5 rfl (lv_at hl 2 rfl) ?_
  refine lv_iload_n hx hb dST_substring_6 rfl (lv_at hl 3 rfl) ?_
  refine lv_iload_n hx hb dST_substring_7 rfl (lv_at hl 0 rfl) ?_
  refine kc_v (va_runS (As := [.int (nI i), .int (nI tt), .int (nI n)]) (rest := []) (Ts := Wd) ⟨hx, hb, hml, hown, hW⟩ (mST_checkBoundsBeginEnd l g μ (i := i) (j := tt) (n := n) (by omega) (by omega) (by omega)) (va_cwS 3 hW (k_gS w_470 w_471 w_9 w_472) rfl rfl rfl (by decide +kernel) ⟨Nat.le_of_ble_eq_true rfl, Nat.le_of_ble_eq_true rfl⟩) (k_preS hM) rfl rfl hl.1 rfl (lv_room (Nat.le_of_ble_eq_true rfl)) dST_substring_8 ⟨Nat.zero_le _, Nat.zero_le _⟩) hM (fun μ1 H locs hp hM => ?_)
  rw [hp] at hM
  refine lv_iload_n hx hb dST_substring_11 rfl (lv_at hl 2 rfl) ?_
  refine lv_if_ne (tgt := 22) hx hb dST_substring_12 (by decide) (fun h12 => ?_) (fun h12 => ?_)
  · have h12 := (nJ_ne_t (a := i) (b := 0) (by omega) (by omega)).mp h12
    refine lv_iload_n hx hb dST_substring_22 rfl (lv_at hl 3 rfl) ?_
    refine lv_iload_n hx hb dST_substring_23 rfl (lv_at hl 2 rfl) ?_
    refine lv_isub hx hb dST_substring_24 ?_
    refine topi_eq (y := nI (tt - i)) (pk_sub (a := tt) (b := i) (by omega)) ?_
    refine lv_istore (lv' := [(4, .int (nI (tt - i))), (3, .int (nI n)), (0, .ref a), (1, .int (nI i)), (2, .int (nI tt))]) hx hb dST_substring_25 hl (by decide) rfl (fun ls hl => ?_)
    refine lv_aload_n hx hb dST_substring_27 rfl (lv_at hl 2 rfl) ?_
    refine kc_i (va_runV (C := RST) (As := []) (b := a) (rest := []) (Ts := Wd) ⟨hx, hb, hml, hown, hW⟩ (mST_isLatin1 l g μ hs) (cwV 0 hW (k_gV w_442 w_443 w_444 w_9 w_445) rfl rfl rfl (by decide +kernel) ⟨Nat.le_of_ble_eq_true rfl, Nat.le_of_ble_eq_true rfl⟩) (k_preV (q := (RST, TST, 4)) hM hs rfl) rfl rfl hl.1 rfl (lv_room (Nat.le_of_ble_eq_true rfl)) dST_substring_28 ⟨Nat.zero_le _, Nat.zero_le _⟩) hM (fun r μ1 H locs hp hM => ?_)
    obtain ⟨rfl, hmu⟩ := hp
    rw [hmu] at hM
    refine lv_if_eq (tgt := 47) hx hb dST_substring_31 (by decide) (fun h => absurd h (by decide)) (fun _ => ?_)
    refine lv_aload_n hx hb dST_substring_34 rfl (lv_at hl 2 rfl) ?_
    refine k_get (own := RST) (ref := RST) (C := RST) (T := TST) (N := 4) (ci := 7) (v := .ref va) hx hb hW inST hown hM hs rfl 0 (by decide) (hW _ w_398) (fun _ h => h) rfl dST_substring_35 ?_
    refine lv_iload_n hx hb dST_substring_38 rfl (lv_at hl 3 rfl) ?_
    refine lv_iload hx hb dST_substring_39 (lv_at hl 0 rfl) ?_
    rcases Nat.eq_or_lt_of_le hi with hz | hz
    · refine topi_eq (y := nI 0) (congrArg nI (by omega)) ?_
      refine kc_r (va_runS (As := [.ref va, .int (nI i), .int (nI 0)]) (rest := []) (Ts := Wd) ⟨hx, hb, hml, hown, hW⟩ (mSL_newString0 l g μ (va := va) (i := i)) (va_cwS 3 hW (k_gS w_476 w_477 w_13 w_478) rfl rfl rfl (by decide +kernel) ⟨Nat.le_of_ble_eq_true rfl, Nat.le_of_ble_eq_true rfl⟩) (k_preS hM) rfl rfl hl.1 rfl (lv_room (Nat.le_of_ble_eq_true rfl)) dST_substring_41 ⟨Nat.zero_le _, Nat.zero_le _⟩) hM (fun r μ1 H locs hp hM => ?_)
      obtain ⟨rfl, hmu⟩ := hp
      rw [hmu] at hM
      refine lv_goto (tgt := 57) hx hb dST_substring_44 (by decide) ?_
      refine W.widen (k := 2) (n := 4 + (tt - i)) (by omega) (by omega) ?_
      exact kr_r hx hb hr (Or.inl ⟨_, rfl⟩) hlocks hM dST_substring_57 (Or.inr (Or.inl ⟨(by omega), hz, rfl, rfl⟩))
    · skip
      refine kc_r (va_runS (As := [.ref va, .int (nI i), .int (nI (tt - i))]) (rest := []) (Ts := Wd) ⟨hx, hb, hml, hown, hW⟩ (mSL_newString l g μ hv (by omega) (i := i) (k := tt - i) (by omega) (by omega) (by omega)) (va_cwS 3 hW (k_gS w_476 w_477 w_13 w_478) rfl rfl rfl (by decide +kernel) ⟨Nat.le_of_ble_eq_true rfl, Nat.le_of_ble_eq_true rfl⟩) (k_preS hM) rfl rfl hl.1 rfl (lv_room (Nat.le_of_ble_eq_true rfl)) dST_substring_41 ⟨(show 0 + 2 ≤ 2 by omega), (show 0 + (4 + (tt - i)) ≤ 4 + (tt - i) by omega)⟩) hM (fun c2 μ1 H locs hp hM => ?_)
      obtain ⟨d2, hwa2, hwb2, hwn2, hmu⟩ := hp
      rw [hmu] at hM
      refine W.widen (k := 2) (n := 4 + (tt - i)) (by omega) (by omega) ?_
      have ne_a_c2 : a ≠ c2 := km_apF hs hwa2
      have ne_va_c2 : va ≠ c2 := km_apF hv hwa2
      have ne_a_d2 : a ≠ d2 := km_apF hs hwb2
      have ne_va_d2 : va ≠ d2 := km_apF hv hwb2
      have hM : kS g (km_up (km_up μ c2 (.inr (7, [.ref d2, .int (nI 0), .int (nI 0), .int (nI 0)]))) d2 (.inl (g.2.2.1 0, (tt - i), .inl (fun j => sb ((sbs f i (tt - i)) j))))) s H locs := hM
      refine lv_goto (tgt := 57) hx hb dST_substring_44 (by decide) ?_
      exact kr_r hx hb hr (Or.inl ⟨_, rfl⟩) hlocks hM dST_substring_57 (Or.inr (Or.inr ⟨(by omega), hz, d2, hwa2, hwb2, hwn2, rfl⟩))
  · have h12 := (nJ_ne_f (a := i) (b := 0) (by omega) (by omega)).mp h12
    refine lv_iload_n hx hb dST_substring_15 rfl (lv_at hl 3 rfl) ?_
    refine lv_iload_n hx hb dST_substring_16 rfl (lv_at hl 0 rfl) ?_
    refine lv_icmp_ne (tgt := 22) hx hb dST_substring_17 (by decide) (fun h17 => ?_) (fun h17 => ?_)
    · have h17 := (nJ_ne_t (a := tt) (b := n) (by omega) (by omega)).mp h17
      refine lv_iload_n hx hb dST_substring_22 rfl (lv_at hl 3 rfl) ?_
      refine lv_iload_n hx hb dST_substring_23 rfl (lv_at hl 2 rfl) ?_
      refine lv_isub hx hb dST_substring_24 ?_
      refine topi_eq (y := nI (tt - i)) (pk_sub (a := tt) (b := i) (by omega)) ?_
      refine lv_istore (lv' := [(4, .int (nI (tt - i))), (3, .int (nI n)), (0, .ref a), (1, .int (nI i)), (2, .int (nI tt))]) hx hb dST_substring_25 hl (by decide) rfl (fun ls hl => ?_)
      refine lv_aload_n hx hb dST_substring_27 rfl (lv_at hl 2 rfl) ?_
      refine kc_i (va_runV (C := RST) (As := []) (b := a) (rest := []) (Ts := Wd) ⟨hx, hb, hml, hown, hW⟩ (mST_isLatin1 l g μ hs) (cwV 0 hW (k_gV w_442 w_443 w_444 w_9 w_445) rfl rfl rfl (by decide +kernel) ⟨Nat.le_of_ble_eq_true rfl, Nat.le_of_ble_eq_true rfl⟩) (k_preV (q := (RST, TST, 4)) hM hs rfl) rfl rfl hl.1 rfl (lv_room (Nat.le_of_ble_eq_true rfl)) dST_substring_28 ⟨Nat.zero_le _, Nat.zero_le _⟩) hM (fun r μ1 H locs hp hM => ?_)
      obtain ⟨rfl, hmu⟩ := hp
      rw [hmu] at hM
      refine lv_if_eq (tgt := 47) hx hb dST_substring_31 (by decide) (fun h => absurd h (by decide)) (fun _ => ?_)
      refine lv_aload_n hx hb dST_substring_34 rfl (lv_at hl 2 rfl) ?_
      refine k_get (own := RST) (ref := RST) (C := RST) (T := TST) (N := 4) (ci := 7) (v := .ref va) hx hb hW inST hown hM hs rfl 0 (by decide) (hW _ w_398) (fun _ h => h) rfl dST_substring_35 ?_
      refine lv_iload_n hx hb dST_substring_38 rfl (lv_at hl 3 rfl) ?_
      refine lv_iload hx hb dST_substring_39 (lv_at hl 0 rfl) ?_
      rcases Nat.eq_or_lt_of_le hi with hz | hz
      · refine topi_eq (y := nI 0) (congrArg nI (by omega)) ?_
        refine kc_r (va_runS (As := [.ref va, .int (nI i), .int (nI 0)]) (rest := []) (Ts := Wd) ⟨hx, hb, hml, hown, hW⟩ (mSL_newString0 l g μ (va := va) (i := i)) (va_cwS 3 hW (k_gS w_476 w_477 w_13 w_478) rfl rfl rfl (by decide +kernel) ⟨Nat.le_of_ble_eq_true rfl, Nat.le_of_ble_eq_true rfl⟩) (k_preS hM) rfl rfl hl.1 rfl (lv_room (Nat.le_of_ble_eq_true rfl)) dST_substring_41 ⟨Nat.zero_le _, Nat.zero_le _⟩) hM (fun r μ1 H locs hp hM => ?_)
        obtain ⟨rfl, hmu⟩ := hp
        rw [hmu] at hM
        refine lv_goto (tgt := 57) hx hb dST_substring_44 (by decide) ?_
        refine W.widen (k := 2) (n := 4 + (tt - i)) (by omega) (by omega) ?_
        exact kr_r hx hb hr (Or.inl ⟨_, rfl⟩) hlocks hM dST_substring_57 (Or.inr (Or.inl ⟨(by omega), hz, rfl, rfl⟩))
      · skip
        refine kc_r (va_runS (As := [.ref va, .int (nI i), .int (nI (tt - i))]) (rest := []) (Ts := Wd) ⟨hx, hb, hml, hown, hW⟩ (mSL_newString l g μ hv (by omega) (i := i) (k := tt - i) (by omega) (by omega) (by omega)) (va_cwS 3 hW (k_gS w_476 w_477 w_13 w_478) rfl rfl rfl (by decide +kernel) ⟨Nat.le_of_ble_eq_true rfl, Nat.le_of_ble_eq_true rfl⟩) (k_preS hM) rfl rfl hl.1 rfl (lv_room (Nat.le_of_ble_eq_true rfl)) dST_substring_41 ⟨(show 0 + 2 ≤ 2 by omega), (show 0 + (4 + (tt - i)) ≤ 4 + (tt - i) by omega)⟩) hM (fun c4 μ1 H locs hp hM => ?_)
        obtain ⟨d4, hwa4, hwb4, hwn4, hmu⟩ := hp
        rw [hmu] at hM
        refine W.widen (k := 2) (n := 4 + (tt - i)) (by omega) (by omega) ?_
        have ne_a_c4 : a ≠ c4 := km_apF hs hwa4
        have ne_va_c4 : va ≠ c4 := km_apF hv hwa4
        have ne_a_d4 : a ≠ d4 := km_apF hs hwb4
        have ne_va_d4 : va ≠ d4 := km_apF hv hwb4
        have hM : kS g (km_up (km_up μ c4 (.inr (7, [.ref d4, .int (nI 0), .int (nI 0), .int (nI 0)]))) d4 (.inl (g.2.2.1 0, (tt - i), .inl (fun j => sb ((sbs f i (tt - i)) j))))) s H locs := hM
        refine lv_goto (tgt := 57) hx hb dST_substring_44 (by decide) ?_
        exact kr_r hx hb hr (Or.inl ⟨_, rfl⟩) hlocks hM dST_substring_57 (Or.inr (Or.inr ⟨(by omega), hz, d4, hwa4, hwb4, hwn4, rfl⟩))
    · have h17 := (nJ_ne_f (a := tt) (b := n) (by omega) (by omega)).mp h17
      refine lv_aload_n hx hb dST_substring_20 rfl (lv_at hl 1 rfl) ?_
      refine W.widen (k := 2) (n := 4 + (tt - i)) (by omega) (by omega) ?_
      exact kr_r hx hb hr (Or.inl ⟨_, rfl⟩) hlocks hM dST_substring_21 (Or.inl ⟨h12, h17, rfl, rfl⟩)
set_option maxHeartbeats 800000 in
set_option maxRecDepth 100000 in
theorem mST_rangeCheck (l : Launch) (g : kG) (μ : km_M) {ca cn : Nat} {C : Nat → Nat} (hca : μ ca = some (.inl (g.2.2.1 3, cn, .inl (fun j => nI (C j))))) (hcn : cn ≤ 400) {i k : Nat} (hik : i + k ≤ cn) : Met l yST_rangeCheck (Cond.code yST_rangeCheck cST_rangeCheck 3 (some (.object "java/lang/Void")) :: Wd) ({ frames := 2, cells := 0, slots := 0, locals := 45 } : Room) (kPre g μ [.ref ca, .int (nI i), .int (nI k)]) (kQq g (fun (r : Option Nat) (μ1 : km_M) => r = none ∧ μ1 = μ)) 0 0 (kF g) := by
  refine k_met (by decide) (Nat.le_of_ble_eq_true rfl) ?_
  intro p e s m below meth c hx hb hr hlocks hml hown hnm hW ls hl H locs hM
  have hl : lv_has ls 3 [(0, .ref ca), (1, .int (nI i)), (2, .int (nI k))] := hl
  refine lv_iload_n hx hb dST_rangeCheck_0 rfl (lv_at hl 1 rfl) ?_
  refine lv_iload_n hx hb dST_rangeCheck_1 rfl (lv_at hl 2 rfl) ?_
  refine lv_aload_n hx hb dST_rangeCheck_2 rfl (lv_at hl 0 rfl) ?_
  refine k_alen hx hb hM 3 hca rfl dST_rangeCheck_3 ?_
  refine kc_i (va_runS (As := [.int (nI i), .int (nI k), .int (nI cn)]) (rest := []) (Ts := Wd) ⟨hx, hb, hml, hown, hW⟩ (mST_checkBoundsOffCount l g μ (i := i) (k := k) (n := cn) (by omega) (by omega)) (va_cwS 3 hW (k_gS w_341 w_342 w_9 w_343) rfl rfl rfl (by decide +kernel) ⟨Nat.le_of_ble_eq_true rfl, Nat.le_of_ble_eq_true rfl⟩) (k_preS hM) rfl rfl hl.1 rfl (lv_room (Nat.le_of_ble_eq_true rfl)) dST_rangeCheck_4 ⟨Nat.zero_le _, Nat.zero_le _⟩) hM (fun r μ1 H locs hp hM => ?_)
  obtain ⟨rfl, hmu⟩ := hp
  rw [hmu] at hM
  refine lv_pop hx hb dST_rangeCheck_7 rfl ?_
  refine lv_null hx hb dST_rangeCheck_8 ?_
  exact kr_q (v := none) hx hb hr (Or.inl ⟨_, rfl⟩) hlocks hM dST_rangeCheck_9 (⟨rfl, rfl⟩)
set_option maxHeartbeats 800000 in
set_option maxRecDepth 100000 in
theorem mSU_compress2 (l : Launch) (g : kG) (μ : km_M) {ca cn : Nat} {C : Nat → Nat} (hca : μ ca = some (.inl (g.2.2.1 3, cn, .inl (fun j => nI (C j))))) (hC : ∀ k, C k < 256) (hcn : cn ≤ 400) {i k : Nat} (hik : i + k ≤ cn) {da dn : Nat} {D : Nat → Nat} (hda : μ da = some (.inl (g.2.2.1 0, dn, .inl (fun j => sb (D j))))) (hD : ∀ k, D k < 256) (hdn : k ≤ dn) (hd4 : dn ≤ 400) (ncd : ca ≠ da) : Met l ySU_compress2 (Cond.code ySU_compress2 cSU_compress2 7 (some .int) :: Wd) ({ frames := 0, cells := 0, slots := 0, locals := 0 } : Room) (kPre g μ [.ref ca, .int (nI i), .ref da, .int (nI 0), .int (nI k)]) (kQi g (fun (r : Int32) (μ1 : km_M) => r = nI k ∧ ∃ h : Nat → Nat, μ1 = km_up μ da (.inl (g.2.2.1 0, dn, .inl (fun j => sb (h j)))) ∧ (∀ j, j < k → h j = C (i + j)) ∧ ∀ q, h q < 256)) 0 0 (kF g) := by
  refine k_met (by decide) (Nat.le_of_ble_eq_true rfl) ?_
  intro p e s m below meth c hx hb hr hlocks hml hown hnm hW ls hl H locs hM
  have hl : lv_has ls 7 [(0, .ref ca), (1, .int (nI i)), (2, .ref da), (3, .int (nI 0)), (4, .int (nI k))] := hl
  have cut3 : ∀ (n : Nat), ∀ (q : Nat) (h : Nat → Nat), k - q < n → q ≤ k → (∀ j, j < q → h j = C (i + j)) → (∀ z, h z < 256) → ∀ (ls : Array Slot) (H : Heap) (locs : List Loc), lv_has ls 7 [(0, .ref ca), (1, .int (nI (i + q))), (2, .ref da), (3, .int (nI q)), (4, .int (nI k)), (5, .int (nI q))] → kS g (km_up μ da (.inl (g.2.2.1 0, dn, .inl (fun j => sb (h j))))) s H locs → W p l e ({ frames := 0, cells := 0, slots := 0, locals := 0 } : Room) s m [.ref ca, .int (nI i), .ref da, .int (nI 0), .int (nI k)].toArray below meth c H locs 0 0 (MQ below (kQi g (fun (r : Int32) (μ1 : km_M) => r = nI k ∧ ∃ h : Nat → Nat, μ1 = km_up μ da (.inl (g.2.2.1 0, dn, .inl (fun j => sb (h j)))) ∧ (∀ j, j < k → h j = C (i + j)) ∧ ∀ q, h q < 256)) [.ref ca, .int (nI i), .ref da, .int (nI 0), .int (nI k)].toArray s 0 0 (kF g)) (F0 m 3 ls []) := by
    intro n
    induction n with
    | zero => intro q h hlt; exact absurd hlt (Nat.not_lt_zero _)
    | succ n ih =>
      intro q h hlt hq hh hlt ls H locs hl hM
      refine lv_iload hx hb dSU_compress2_3 (lv_at hl 5 rfl) ?_
      refine lv_iload hx hb dSU_compress2_5 (lv_at hl 4 rfl) ?_
      refine lv_icmp_ge (tgt := 44) hx hb dSU_compress2_7 (by decide) (fun h7 => ?_) (fun h7 => ?_)
      · have h7 := (nJ_ge_t (a := q) (b := k) (by omega) (by omega)).mp h7
        refine lv_iload hx hb dSU_compress2_44 (lv_at hl 4 rfl) ?_
        exact kr_i hx hb hr hlocks hM dSU_compress2_46 (⟨rfl, h, rfl, by rw [show k = q by omega]; exact hh, hlt⟩)
      · have h7 := (nJ_ge_f (a := q) (b := k) (by omega) (by omega)).mp h7
        refine lv_aload_n hx hb dSU_compress2_10 rfl (lv_at hl 0 rfl) ?_
        refine lv_iload_n hx hb dSU_compress2_11 rfl (lv_at hl 1 rfl) ?_
        refine k_cald (i := i + q) hx hb hM 3 ((km_n ncd).trans hca) rfl (by omega) (by omega) dSU_compress2_12 ?_
        refine lv_istore (lv' := [(6, .int (nI (C (i + q)))), (0, .ref ca), (1, .int (nI (i + q))), (2, .ref da), (3, .int (nI q)), (4, .int (nI k)), (5, .int (nI q))]) hx hb dSU_compress2_13 hl (by decide) rfl (fun ls hl => ?_)
        have hc9 := hC (i + q)
        refine lv_iload hx hb dSU_compress2_15 (lv_at hl 0 rfl) ?_
        refine lv_sipush (v := nI 255) hx hb dSU_compress2_17 (by decide) ?_
        refine lv_icmp_le (tgt := 26) hx hb dSU_compress2_20 (by decide) (fun h20 => ?_) (fun h20 => ?_)
        · skip
          refine lv_aload_n hx hb dSU_compress2_26 rfl (lv_at hl 3 rfl) ?_
          refine lv_iload_n hx hb dSU_compress2_27 rfl (lv_at hl 4 rfl) ?_
          refine lv_iload hx hb dSU_compress2_28 (lv_at hl 0 rfl) ?_
          refine lv_i2b (v := sb (C (i + q))) hx hb dSU_compress2_30 rfl ?_
          refine k_bast (i := q) (f1 := (fun j => sb ((va_up h q (C (i + q))) j))) hx hb hM 0 (km_s _ _ _) rfl (by omega) (by omega) updsb_at dSU_compress2_31 (fun H locs hM => ?_)
          have hM : kS g (km_up μ da (.inl (g.2.2.1 0, dn, .inl (fun j => sb ((va_up h q (C (i + q))) j))))) s H locs := kS_eq (km_u1 _ _ _ _) hM
          refine lv_iinc (v := nI (i + q + 1)) (lv' := [(1, .int (nI (i + q + 1))), (6, .int (nI (C (i + q)))), (0, .ref ca), (2, .ref da), (3, .int (nI q)), (4, .int (nI k)), (5, .int (nI q))]) (k := 2) hx hb dSU_compress2_32 hl rfl (ii1 (i + q)) (by decide) rfl (fun ls hl => ?_)
          refine lv_iinc (v := nI (q + 1)) (lv' := [(3, .int (nI (q + 1))), (1, .int (nI (i + q + 1))), (6, .int (nI (C (i + q)))), (0, .ref ca), (2, .ref da), (4, .int (nI k)), (5, .int (nI q))]) (k := 4) hx hb dSU_compress2_35 hl rfl (ii1 q) (by decide) rfl (fun ls hl => ?_)
          refine lv_iinc (v := nI (q + 1)) (lv' := [(5, .int (nI (q + 1))), (3, .int (nI (q + 1))), (1, .int (nI (i + q + 1))), (6, .int (nI (C (i + q)))), (0, .ref ca), (2, .ref da), (4, .int (nI k))]) (k := 6) hx hb dSU_compress2_38 hl rfl (ii1 q) (by decide) rfl (fun ls hl => ?_)
          refine lv_goto (tgt := 3) hx hb dSU_compress2_41 (by decide) ?_
          exact ih (q + 1) (va_up h q (C (i + q))) (by omega) (by first | assumption | omega | exact rfl) (by exact cmp_up hh) (by exact up_lt hlt (hC _)) ls H locs (lv_sub hl [4, 2, 5, 1, 6, 0] rfl) hM
        · have h20 := (nJ_le_f (a := C (i + q)) (b := 255) (by omega) (by omega)).mp h20
          exact absurd h20 (by omega)
  refine lv_iconst (v := nI 0) hx hb dSU_compress2_0 (by decide) ?_
  refine lv_istore (lv' := [(5, .int (nI 0)), (0, .ref ca), (1, .int (nI i)), (2, .ref da), (3, .int (nI 0)), (4, .int (nI k))]) hx hb dSU_compress2_1 hl (by decide) rfl (fun ls hl => ?_)
  have hM : kS g (km_up μ da (.inl (g.2.2.1 0, dn, .inl (fun j => sb (D j))))) s H locs := kS_eq (km_id hda).symm hM
  exact cut3 _ 0 D (Nat.lt_succ_self _) (by first | assumption | omega | exact rfl) (by exact fun j hj => absurd hj (Nat.not_lt_zero _)) (by exact hD) ls H locs (lv_sub hl [1, 2, 3, 4, 5, 0] rfl) hM
set_option maxHeartbeats 800000 in
set_option maxRecDepth 100000 in
theorem mSU_compress (l : Launch) (g : kG) (μ : km_M) {ca cn : Nat} {C : Nat → Nat} (hca : μ ca = some (.inl (g.2.2.1 3, cn, .inl (fun j => nI (C j))))) (hC : ∀ k, C k < 256) (hcn : cn ≤ 400) {i k : Nat} (hik : i + k ≤ cn) : Met l ySU_compress (Cond.code ySU_compress cSU_compress 6 (some (.array .byte)) :: Wd) ({ frames := 1, cells := 1, slots := k, locals := 26 } : Room) (kPre g μ [.ref ca, .int (nI i), .int (nI k)]) (kQr g (fun (r : Nat) (μ1 : km_M) => ∃ h : Nat → Nat, μ r = none ∧ μ1 = km_up μ r (.inl (g.2.2.1 0, k, .inl (fun j => sb (h j)))) ∧ (∀ j, j < k → h j = C (i + j)) ∧ ∀ q, h q < 256)) 1 k (kF g) := by
  refine k_met (by decide) (Nat.le_of_ble_eq_true rfl) ?_
  intro p e s m below meth c hx hb hr hlocks hml hown hnm hW ls hl H locs hM
  have hl : lv_has ls 6 [(0, .ref ca), (1, .int (nI i)), (2, .int (nI k))] := hl
  refine lv_iload_n hx hb dSU_compress_0 rfl (lv_at hl 2 rfl) ?_
  refine k_newa (atype := .byte) (a0 := (k, .inl (fun j => sb ((fun _ => 0) j)))) (N' := k) hx hb (hW _ w_56) rfl hM 0 rfl (fun cA => kz_s cA _) (by omega) (by show _ * 1 ≤ _; omega) (show 0 + 1 ≤ 1 by omega) (show 0 + k ≤ k by omega) dSU_compress_1 (fun q1 H hnq1 hM => ?_)
  have ne_ca_q1 : ca ≠ q1 := km_apF hca hnq1
  have hM : kS g (km_up μ q1 (.inl (g.2.2.1 0, k, .inl (fun j => sb ((fun _ => 0) j))))) s H locs := hM
  refine W.widen (k := 1) (n := k) (by omega) (by omega) ?_
  refine lv_astore_n (lv' := [(3, .ref q1), (0, .ref ca), (1, .int (nI i)), (2, .int (nI k))]) hx hb dSU_compress_3 rfl hl (by decide) rfl (fun ls hl => ?_)
  refine lv_aload_n hx hb dSU_compress_4 rfl (lv_at hl 1 rfl) ?_
  refine lv_iload_n hx hb dSU_compress_5 rfl (lv_at hl 2 rfl) ?_
  refine lv_aload_n hx hb dSU_compress_6 rfl (lv_at hl 0 rfl) ?_
  refine lv_iconst (v := nI 0) hx hb dSU_compress_7 (by decide) ?_
  refine lv_iload_n hx hb dSU_compress_8 rfl (lv_at hl 3 rfl) ?_
  refine kc_i (va_runS (As := [.ref ca, .int (nI i), .ref q1, .int (nI 0), .int (nI k)]) (rest := []) (Ts := Wd) ⟨hx, hb, hml, hown, hW⟩ (mSU_compress2 l g (km_up μ q1 (.inl (g.2.2.1 0, k, .inl (fun j => sb ((fun _ => 0) j))))) ((km_n ne_ca_q1).trans hca) hC hcn (i := i) (k := k) hik (km_s _ _ _) (fun _ => (by decide : (0 : Nat) < 256)) (by omega) (by omega) ne_ca_q1) (va_cwS 5 hW (k_gS w_359 w_360 w_11 w_361) rfl rfl rfl (by decide +kernel) ⟨Nat.le_of_ble_eq_true rfl, Nat.le_of_ble_eq_true rfl⟩) (k_preS hM) rfl rfl hl.1 rfl (lv_room (Nat.le_of_ble_eq_true rfl)) dSU_compress_9 ⟨(show 1 + 0 ≤ 1 by omega), (show k + 0 ≤ k by omega)⟩) hM (fun r μ1 H locs hp hM => ?_)
  obtain ⟨rfl, h, hmu, hh, hlt⟩ := hp
  rw [hmu] at hM
  have hM : kS g (km_up (km_up μ q1 (.inl (g.2.2.1 0, k, .inl (fun j => sb ((fun _ => 0) j))))) q1 (.inl (g.2.2.1 0, k, .inl (fun j => sb (h j))))) s H locs := hM
  have hM : kS g (km_up μ q1 (.inl (g.2.2.1 0, k, .inl (fun j => sb (h j))))) s H locs := kS_eq (km_u1 _ _ _ _) hM
  refine lv_istore (lv' := [(4, .int (nI k)), (3, .ref q1), (0, .ref ca), (1, .int (nI i)), (2, .int (nI k))]) hx hb dSU_compress_12 hl (by decide) rfl (fun ls hl => ?_)
  refine lv_iload hx hb dSU_compress_14 (lv_at hl 0 rfl) ?_
  refine lv_iload_n hx hb dSU_compress_16 rfl (lv_at hl 4 rfl) ?_
  refine lv_icmp_eq (tgt := 57) hx hb dSU_compress_17 (by decide) (fun h17 => ?_) (fun h17 => ?_)
  · skip
    refine lv_aload_n hx hb dSU_compress_57 rfl (lv_at hl 1 rfl) ?_
    exact kr_r hx hb hr (Or.inr ⟨_, rfl⟩) hlocks hM dSU_compress_58 (⟨h, hnq1, rfl, hh, hlt⟩)
  · exact absurd rfl h17
set_option maxHeartbeats 800000 in
set_option maxRecDepth 100000 in
theorem mSU_coderFromArrayLen (l : Launch) (g : kG) (μ : km_M) {va n : Nat} {f : Nat → Nat} (hv : μ va = some (.inl (g.2.2.1 0, n, .inl (fun j => sb (f j))))) : Met l ySU_coderFromArrayLen (Cond.code ySU_coderFromArrayLen cSU_coderFromArrayLen 2 (some .byte) :: Wd) ({ frames := 0, cells := 0, slots := 0, locals := 0 } : Room) (kPre g μ [.ref va, .int (nI n)]) (kQi g (fun (r : Int32) (μ1 : km_M) => r = nI 0 ∧ μ1 = μ)) 0 0 (kF g) := by
  refine k_met (by decide) (Nat.le_of_ble_eq_true rfl) ?_
  intro p e s m below meth c hx hb hr hlocks hml hown hnm hW ls hl H locs hM
  have hl : lv_has ls 2 [(0, .ref va), (1, .int (nI n))] := hl
  refine lv_iload_n hx hb dSU_coderFromArrayLen_0 rfl (lv_at hl 1 rfl) ?_
  refine lv_aload_n hx hb dSU_coderFromArrayLen_1 rfl (lv_at hl 0 rfl) ?_
  refine k_alen hx hb hM 0 hv rfl dSU_coderFromArrayLen_2 ?_
  refine lv_isub hx hb dSU_coderFromArrayLen_3 ?_
  refine topi_eq (y := nI 0) ((pk_sub (Nat.le_refl _)).trans (congrArg nI (Nat.sub_self _))) ?_
  refine lv_bipush (v := nI 31) hx hb dSU_coderFromArrayLen_4 (by decide) ?_
  refine lv_iushr (v := nI 0) hx hb dSU_coderFromArrayLen_6 cod_0 ?_
  refine lv_i2b (v := nI 0) hx hb dSU_coderFromArrayLen_7 (by decide) ?_
  exact kr_z hx hb hr (by decide) hlocks hM dSU_coderFromArrayLen_8 (⟨rfl, rfl⟩)
set_option maxHeartbeats 800000 in
set_option maxRecDepth 100000 in
theorem mST_init2 (l : Launch) (g : kG) (μ : km_M) {ca cn : Nat} {C : Nat → Nat} (hca : μ ca = some (.inl (g.2.2.1 3, cn, .inl (fun j => nI (C j))))) (hC : ∀ k, C k < 256) (hcn : cn ≤ 400) {i k : Nat} (hik : i + k ≤ cn) (hk : 0 < k) {a : Nat} (ha : μ a = some (.inr (7, [.null, .int (nI 0), .int (nI 0), .int (nI 0)]))) : Met l yST_init2 (Cond.code yST_init2 cST_init2 6 none :: Wd) ({ frames := 2, cells := 1, slots := k, locals := 51 } : Room) (kPre g μ [.ref a, .ref ca, .int (nI i), .int (nI k), .null]) (kQv g (fun (μ1 : km_M) => ∃ (vb : Nat) (h : Nat → Nat), μ vb = none ∧ μ1 = km_up (km_up μ vb (.inl (g.2.2.1 0, k, .inl (fun j => sb (h j))))) a (.inr (7, [.ref vb, .int (nI 0), .int (nI 0), .int (nI 0)])) ∧ (∀ j, j < k → h j = C (i + j)) ∧ ∀ q, h q < 256)) 1 k (kF g) := by
  refine k_met (by decide) (Nat.le_of_ble_eq_true rfl) ?_
  intro p e s m below meth c hx hb hr hlocks hml hown hnm hW ls hl H locs hM
  have hl : lv_has ls 6 [(0, .ref a), (1, .ref ca), (2, .int (nI i)), (3, .int (nI k)), (4, .null)] := hl
  refine lv_aload_n hx hb dST_init2_0 rfl (lv_at hl 0 rfl) ?_
  refine W.objInit hx hb hown (hW _ w_352) (hW _ w_26) (hW _ w_27) rfl (by rw [hml]; exact hl.1) rfl dST_init2_1 (Nat.le_of_ble_eq_true rfl) (Nat.le_of_ble_eq_true rfl) ?_
  refine W.eq (g2 := F0 m 4 ls []) rfl ?_
  refine lv_iload_n hx hb dST_init2_4 rfl (lv_at hl 3 rfl) ?_
  refine lv_if_ne (tgt := 27) hx hb dST_init2_5 (by decide) (fun h5 => ?_) (fun h5 => ?_)
  · skip
    refine va_gets (C := "java/lang/String") (n := "COMPACT_STRINGS") (d := "Z") (v := .int (nI 1)) hx hb (hM.2.1.2.2.2.2.2.1 ("java/lang/String", "COMPACT_STRINGS", "Z", 1) (by decide +kernel)) hM.2.2.2 hown (hW _ w_354) (fun _ h => h) dST_init2_27 ?_
    refine lv_if_eq (tgt := 58) hx hb dST_init2_30 (by decide) (fun h => absurd h (by decide)) (fun _ => ?_)
    refine lv_aload_n hx hb dST_init2_33 rfl (lv_at hl 1 rfl) ?_
    refine lv_iload_n hx hb dST_init2_34 rfl (lv_at hl 2 rfl) ?_
    refine lv_iload_n hx hb dST_init2_35 rfl (lv_at hl 3 rfl) ?_
    refine kc_r (va_runS (As := [.ref ca, .int (nI i), .int (nI k)]) (rest := []) (Ts := Wd) ⟨hx, hb, hml, hown, hW⟩ (mSU_compress l g μ hca hC hcn (i := i) (k := k) hik) (va_cwS 3 hW (k_gS w_356 w_357 w_11 w_358) rfl rfl rfl (by decide +kernel) ⟨Nat.le_of_ble_eq_true rfl, Nat.le_of_ble_eq_true rfl⟩) (k_preS hM) rfl rfl hl.1 rfl (lv_room (Nat.le_of_ble_eq_true rfl)) dST_init2_36 ⟨(show 0 + 1 ≤ 1 by omega), (show 0 + k ≤ k by omega)⟩) hM (fun c1 μ1 H locs hp hM => ?_)
    obtain ⟨h, hw1, hmu, hh, hlt⟩ := hp
    rw [hmu] at hM
    refine W.widen (k := 1) (n := k) (by omega) (by omega) ?_
    have ne_ca_c1 : ca ≠ c1 := km_apF hca hw1
    have ne_a_c1 : a ≠ c1 := km_apF ha hw1
    have hM : kS g (km_up μ c1 (.inl (g.2.2.1 0, k, .inl (fun j => sb (h j))))) s H locs := hM
    refine lv_astore (lv' := [(5, .ref c1), (0, .ref a), (1, .ref ca), (2, .int (nI i)), (3, .int (nI k)), (4, .null)]) hx hb dST_init2_39 hl (by decide) rfl (fun ls hl => ?_)
    refine lv_aload_n hx hb dST_init2_41 rfl (lv_at hl 1 rfl) ?_
    refine lv_aload hx hb dST_init2_42 (lv_at hl 0 rfl) ?_
    refine lv_iload_n hx hb dST_init2_44 rfl (lv_at hl 4 rfl) ?_
    refine kc_i (va_runS (As := [.ref c1, .int (nI k)]) (rest := [.ref a]) (Ts := Wd) ⟨hx, hb, hml, hown, hW⟩ (mSU_coderFromArrayLen l g (km_up μ c1 (.inl (g.2.2.1 0, k, .inl (fun j => sb (h j))))) (km_s _ _ _)) (va_cwS 2 hW (k_gS w_394 w_395 w_11 w_396) rfl rfl rfl (by decide +kernel) ⟨Nat.le_of_ble_eq_true rfl, Nat.le_of_ble_eq_true rfl⟩) (k_preS hM) rfl rfl hl.1 rfl (lv_room (Nat.le_of_ble_eq_true rfl)) dST_init2_45 ⟨(show 1 + 0 ≤ 1 by omega), (show k + 0 ≤ k by omega)⟩) hM (fun r μ1 H locs hp hM => ?_)
    obtain ⟨rfl, hmu⟩ := hp
    rw [hmu] at hM
    refine k_putF (own := RST) (ref := RST) (C := RST) (T := TST) (N := 4) (ci := 7) (v := .int (nI 0)) (ty := .byte) (fs' := [.null, .int (nI 0), .int (nI 0), .int (nI 0)]) hx hb hW inST tyST tyokST nmokST hown hM ((km_n ne_a_c1).trans ha) rfl 1 (by decide) (hW _ w_399) (fun _ h => h) rfl hnm rfl (by decide +kernel) (by decide) rfl (Nat.le_of_ble_eq_true rfl) dST_init2_48 rfl (fun H locs hM => ?_)
    have hM : kS g (km_up (km_up μ c1 (.inl (g.2.2.1 0, k, .inl (fun j => sb (h j))))) a (.inr (7, [.null, .int (nI 0), .int (nI 0), .int (nI 0)]))) s H locs := hM
    refine lv_aload_n hx hb dST_init2_51 rfl (lv_at hl 1 rfl) ?_
    refine lv_aload hx hb dST_init2_52 (lv_at hl 0 rfl) ?_
    refine k_putF (own := RST) (ref := RST) (C := RST) (T := TST) (N := 4) (ci := 7) (v := .ref c1) (ty := .array .byte) (fs' := [.ref c1, .int (nI 0), .int (nI 0), .int (nI 0)]) hx hb hW inST tyST tyokST nmokST hown hM (km_s _ _ _) rfl 0 (by decide) (hW _ w_398) (fun _ h => h) rfl hnm rfl (by decide +kernel) rfl rfl (Nat.le_of_ble_eq_true rfl) dST_init2_54 rfl (fun H locs hM => ?_)
    have hM : kS g (km_up (km_up μ c1 (.inl (g.2.2.1 0, k, .inl (fun j => sb (h j))))) a (.inr (7, [.ref c1, .int (nI 0), .int (nI 0), .int (nI 0)]))) s H locs := kS_eq (km_u1 _ _ _ _) hM
    exact kr_v hx hb hr hlocks hM dST_init2_57 (⟨_, h, hw1, rfl, hh, hlt⟩)
  · exact absurd ((nJ_eq_t (a := k) (b := 0) (by omega) (by omega)).mp h5) (by omega)
set_option maxHeartbeats 800000 in
set_option maxRecDepth 100000 in
theorem mST_init (l : Launch) (g : kG) (μ : km_M) {ca cn : Nat} {C : Nat → Nat} (hca : μ ca = some (.inl (g.2.2.1 3, cn, .inl (fun j => nI (C j))))) (hC : ∀ k, C k < 256) (hcn : cn ≤ 400) {i k : Nat} (hik : i + k ≤ cn) (hk : 0 < k) {a : Nat} (ha : μ a = some (.inr (7, [.null, .int (nI 0), .int (nI 0), .int (nI 0)]))) : Met l yST_init (Cond.code yST_init cST_init 4 none :: Wd) ({ frames := 3, cells := 1, slots := k, locals := 76 } : Room) (kPre g μ [.ref a, .ref ca, .int (nI i), .int (nI k)]) (kQv g (fun (μ1 : km_M) => ∃ (vb : Nat) (h : Nat → Nat), μ vb = none ∧ μ1 = km_up (km_up μ vb (.inl (g.2.2.1 0, k, .inl (fun j => sb (h j))))) a (.inr (7, [.ref vb, .int (nI 0), .int (nI 0), .int (nI 0)])) ∧ (∀ j, j < k → h j = C (i + j)) ∧ ∀ q, h q < 256)) 1 k (kF g) := by
  refine k_met (by decide) (Nat.le_of_ble_eq_true rfl) ?_
  intro p e s m below meth c hx hb hr hlocks hml hown hnm hW ls hl H locs hM
  have hl : lv_has ls 4 [(0, .ref a), (1, .ref ca), (2, .int (nI i)), (3, .int (nI k))] := hl
  refine lv_aload_n hx hb dST_init_0 rfl (lv_at hl 0 rfl) ?_
  refine lv_aload_n hx hb dST_init_1 rfl (lv_at hl 1 rfl) ?_
  refine lv_iload_n hx hb dST_init_2 rfl (lv_at hl 2 rfl) ?_
  refine lv_iload_n hx hb dST_init_3 rfl (lv_at hl 3 rfl) ?_
  refine lv_aload_n hx hb dST_init_4 rfl (lv_at hl 1 rfl) ?_
  refine lv_iload_n hx hb dST_init_5 rfl (lv_at hl 2 rfl) ?_
  refine lv_iload_n hx hb dST_init_6 rfl (lv_at hl 3 rfl) ?_
  refine kc_q (va_runS (As := [.ref ca, .int (nI i), .int (nI k)]) (rest := [.int (nI k), .int (nI i), .ref ca, .ref a]) (Ts := Wd) ⟨hx, hb, hml, hown, hW⟩ (mST_rangeCheck l g μ hca hcn (i := i) (k := k) hik) (va_cwS 3 hW (k_gS w_338 w_339 w_9 w_340) rfl rfl rfl (by decide +kernel) ⟨Nat.le_of_ble_eq_true rfl, Nat.le_of_ble_eq_true rfl⟩) (k_preS hM) rfl rfl hl.1 rfl (lv_room (Nat.le_of_ble_eq_true rfl)) dST_init_7 ⟨Nat.zero_le _, Nat.zero_le _⟩) hM (fun r μ1 H locs hp hM => ?_)
  obtain ⟨rfl, hmu⟩ := hp
  rw [hmu] at hM
  refine kc_v (va_runI (As := [.ref ca, .int (nI i), .int (nI k), .null]) (b := a) (rest := []) (Ts := Wd) ⟨hx, hb, hml, hown, hW⟩ (mST_init2 l g μ hca hC hcn (i := i) (k := k) hik hk ha) (cwI 4 hW (k_gC w_351) rfl rfl rfl (hW _ w_9) (hW _ w_349) (hW _ w_350) rfl (by decide +kernel) ⟨Nat.le_of_ble_eq_true rfl, Nat.le_of_ble_eq_true rfl⟩) (k_preS hM) rfl rfl hl.1 rfl (lv_room (Nat.le_of_ble_eq_true rfl)) dST_init_10 ⟨(show 0 + 1 ≤ 1 by omega), (show 0 + k ≤ k by omega)⟩) hM (fun μ1 H locs hp hM => ?_)
  obtain ⟨vb, h, hwv, hmu, hh, hlt⟩ := hp
  rw [hmu] at hM
  refine W.widen (k := 1) (n := k) (by omega) (by omega) ?_
  have ne_ca_vb : ca ≠ vb := km_apF hca hwv
  have ne_a_vb : a ≠ vb := km_apF ha hwv
  have hM : kS g (km_up (km_up μ vb (.inl (g.2.2.1 0, k, .inl (fun j => sb (h j))))) a (.inr (7, [.ref vb, .int (nI 0), .int (nI 0), .int (nI 0)]))) s H locs := hM
  exact kr_v hx hb hr hlocks hM dST_init_13 (⟨_, h, hwv, rfl, hh, hlt⟩)
