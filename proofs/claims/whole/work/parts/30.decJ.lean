-- chars and bytes
theorem sb_255 : ∀ n, n < 256 → sb n &&& nI 255 = nI n := by decide +kernel
theorem nI_c {n : Nat} (h : n < 65536) : ((nI n).toUInt32 % 65536).toInt32 = nI n := by
  rw [pk_char, pk_tn (by omega), Nat.mod_eq_of_lt h]
theorem shr_0 {n : Nat} (h : n < 2 ^ 31) : nI n >>> (nI 0 &&& 31) = nI n := by
  rw [pk_shrN h (nI 0 &&& 31) 0 (by decide), Nat.pow_zero, Nat.div_one]
theorem or_lt {a b : Nat} (ha : a < 2 ^ 30) (hb : b < 2 ^ 30) : a ||| b < 2 ^ 30 := Nat.or_lt_two_pow ha hb
theorem or_nI {a b : Nat} (ha : a < 2 ^ 30) (hb : b < 2 ^ 30) : nI a ||| nI b = nI (a ||| b) := by
  apply Int32.toBitVec_inj.mp
  apply BitVec.eq_of_toNat_eq
  have h := or_lt ha hb
  rw [Int32.toBitVec_or, BitVec.toNat_or, pk_tn (by omega), pk_tn (by omega), pk_tn (by omega)]
theorem dST_init_0 : decode cST_init 0 = .ok (.aload_n 0, 1) := by decide +kernel
theorem dST_init_1 : decode cST_init 1 = .ok (.aload_n 1, 1) := by decide +kernel
theorem dST_init_2 : decode cST_init 2 = .ok (.iload_n 2, 1) := by decide +kernel
theorem dST_init_3 : decode cST_init 3 = .ok (.iload_n 3, 1) := by decide +kernel
theorem dST_init_4 : decode cST_init 4 = .ok (.aload_n 1, 1) := by decide +kernel
theorem dST_init_5 : decode cST_init 5 = .ok (.iload_n 2, 1) := by decide +kernel
theorem dST_init_6 : decode cST_init 6 = .ok (.iload_n 3, 1) := by decide +kernel
theorem dST_init_7 : decode cST_init 7 = .ok (.invokestatic 30, 3) := by decide +kernel
theorem dST_init_10 : decode cST_init 10 = .ok (.invokespecial 27, 3) := by decide +kernel
theorem dST_init_13 : decode cST_init 13 = .ok (.return_, 1) := by decide +kernel
theorem dST_rangeCheck_0 : decode cST_rangeCheck 0 = .ok (.iload_n 1, 1) := by decide +kernel
theorem dST_rangeCheck_1 : decode cST_rangeCheck 1 = .ok (.iload_n 2, 1) := by decide +kernel
theorem dST_rangeCheck_2 : decode cST_rangeCheck 2 = .ok (.aload_n 0, 1) := by decide +kernel
theorem dST_rangeCheck_3 : decode cST_rangeCheck 3 = .ok (.arraylength, 1) := by decide +kernel
theorem dST_rangeCheck_4 : decode cST_rangeCheck 4 = .ok (.invokestatic 34, 3) := by decide +kernel
theorem dST_rangeCheck_7 : decode cST_rangeCheck 7 = .ok (.pop, 1) := by decide +kernel
theorem dST_rangeCheck_8 : decode cST_rangeCheck 8 = .ok (.aconst_null, 1) := by decide +kernel
theorem dST_rangeCheck_9 : decode cST_rangeCheck 9 = .ok (.areturn, 1) := by decide +kernel
theorem dST_checkBoundsOffCount_0 : decode cST_checkBoundsOffCount 0 = .ok (.iload_n 0, 1) := by decide +kernel
theorem dST_checkBoundsOffCount_1 : decode cST_checkBoundsOffCount 1 = .ok (.iload_n 1, 1) := by decide +kernel
theorem dST_checkBoundsOffCount_2 : decode cST_checkBoundsOffCount 2 = .ok (.iload_n 2, 1) := by decide +kernel
theorem dST_checkBoundsOffCount_3 : decode cST_checkBoundsOffCount 3 = .ok (.getstatic 1053, 3) := by decide +kernel
theorem dST_checkBoundsOffCount_6 : decode cST_checkBoundsOffCount 6 = .ok (.invokestatic 1065, 3) := by decide +kernel
theorem dST_checkBoundsOffCount_9 : decode cST_checkBoundsOffCount 9 = .ok (.ireturn, 1) := by decide +kernel
theorem dPC_checkFromIndexSize_0 : decode cPC_checkFromIndexSize 0 = .ok (.iload_n 2, 1) := by decide +kernel
theorem dPC_checkFromIndexSize_1 : decode cPC_checkFromIndexSize 1 = .ok (.iload_n 0, 1) := by decide +kernel
theorem dPC_checkFromIndexSize_2 : decode cPC_checkFromIndexSize 2 = .ok (.ior, 1) := by decide +kernel
theorem dPC_checkFromIndexSize_3 : decode cPC_checkFromIndexSize 3 = .ok (.iload_n 1, 1) := by decide +kernel
theorem dPC_checkFromIndexSize_4 : decode cPC_checkFromIndexSize 4 = .ok (.ior, 1) := by decide +kernel
theorem dPC_checkFromIndexSize_5 : decode cPC_checkFromIndexSize 5 = .ok (.ifCond .lt 10, 3) := by decide +kernel
theorem dPC_checkFromIndexSize_8 : decode cPC_checkFromIndexSize 8 = .ok (.iload_n 1, 1) := by decide +kernel
theorem dPC_checkFromIndexSize_9 : decode cPC_checkFromIndexSize 9 = .ok (.iload_n 2, 1) := by decide +kernel
theorem dPC_checkFromIndexSize_10 : decode cPC_checkFromIndexSize 10 = .ok (.iload_n 0, 1) := by decide +kernel
theorem dPC_checkFromIndexSize_11 : decode cPC_checkFromIndexSize 11 = .ok (.isub, 1) := by decide +kernel
theorem dPC_checkFromIndexSize_12 : decode cPC_checkFromIndexSize 12 = .ok (.if_icmp .le 11, 3) := by decide +kernel
theorem dPC_checkFromIndexSize_15 : decode cPC_checkFromIndexSize 15 = .ok (.aload_n 3, 1) := by decide +kernel
theorem dPC_checkFromIndexSize_16 : decode cPC_checkFromIndexSize 16 = .ok (.iload_n 0, 1) := by decide +kernel
theorem dPC_checkFromIndexSize_17 : decode cPC_checkFromIndexSize 17 = .ok (.iload_n 1, 1) := by decide +kernel
theorem dPC_checkFromIndexSize_18 : decode cPC_checkFromIndexSize 18 = .ok (.iload_n 2, 1) := by decide +kernel
theorem dPC_checkFromIndexSize_19 : decode cPC_checkFromIndexSize 19 = .ok (.invokestatic 103, 3) := by decide +kernel
theorem dPC_checkFromIndexSize_22 : decode cPC_checkFromIndexSize 22 = .ok (.athrow, 1) := by decide +kernel
theorem dPC_checkFromIndexSize_23 : decode cPC_checkFromIndexSize 23 = .ok (.iload_n 0, 1) := by decide +kernel
theorem dPC_checkFromIndexSize_24 : decode cPC_checkFromIndexSize 24 = .ok (.ireturn, 1) := by decide +kernel
theorem dST_init2_0 : decode cST_init2 0 = .ok (.aload_n 0, 1) := by decide +kernel
theorem dST_init2_1 : decode cST_init2 1 = .ok (.invokespecial 1, 3) := by decide +kernel
theorem dST_init2_4 : decode cST_init2 4 = .ok (.iload_n 3, 1) := by decide +kernel
theorem dST_init2_5 : decode cST_init2 5 = .ok (.ifCond .ne 22, 3) := by decide +kernel
theorem dST_init2_8 : decode cST_init2 8 = .ok (.aload_n 0, 1) := by decide +kernel
theorem dST_init2_9 : decode cST_init2 9 = .ok (.ldc 7, 2) := by decide +kernel
theorem dST_init2_11 : decode cST_init2 11 = .ok (.getfield 9, 3) := by decide +kernel
theorem dST_init2_14 : decode cST_init2 14 = .ok (.putfield 9, 3) := by decide +kernel
theorem dST_init2_17 : decode cST_init2 17 = .ok (.aload_n 0, 1) := by decide +kernel
theorem dST_init2_18 : decode cST_init2 18 = .ok (.ldc 7, 2) := by decide +kernel
theorem dST_init2_20 : decode cST_init2 20 = .ok (.getfield 15, 3) := by decide +kernel
theorem dST_init2_23 : decode cST_init2 23 = .ok (.putfield 15, 3) := by decide +kernel
theorem dST_init2_26 : decode cST_init2 26 = .ok (.return_, 1) := by decide +kernel
theorem dST_init2_27 : decode cST_init2 27 = .ok (.getstatic 38, 3) := by decide +kernel
theorem dST_init2_30 : decode cST_init2 30 = .ok (.ifCond .eq 28, 3) := by decide +kernel
theorem dST_init2_33 : decode cST_init2 33 = .ok (.aload_n 1, 1) := by decide +kernel
theorem dST_init2_34 : decode cST_init2 34 = .ok (.iload_n 2, 1) := by decide +kernel
theorem dST_init2_35 : decode cST_init2 35 = .ok (.iload_n 3, 1) := by decide +kernel
theorem dST_init2_36 : decode cST_init2 36 = .ok (.invokestatic 177, 3) := by decide +kernel
theorem dST_init2_39 : decode cST_init2 39 = .ok (.astore 5, 2) := by decide +kernel
theorem dST_init2_41 : decode cST_init2 41 = .ok (.aload_n 0, 1) := by decide +kernel
theorem dST_init2_42 : decode cST_init2 42 = .ok (.aload 5, 2) := by decide +kernel
theorem dST_init2_44 : decode cST_init2 44 = .ok (.iload_n 3, 1) := by decide +kernel
theorem dST_init2_45 : decode cST_init2 45 = .ok (.invokestatic 47, 3) := by decide +kernel
theorem dST_init2_48 : decode cST_init2 48 = .ok (.putfield 15, 3) := by decide +kernel
theorem dST_init2_51 : decode cST_init2 51 = .ok (.aload_n 0, 1) := by decide +kernel
theorem dST_init2_52 : decode cST_init2 52 = .ok (.aload 5, 2) := by decide +kernel
theorem dST_init2_54 : decode cST_init2 54 = .ok (.putfield 9, 3) := by decide +kernel
theorem dST_init2_57 : decode cST_init2 57 = .ok (.return_, 1) := by decide +kernel
theorem dST_init2_58 : decode cST_init2 58 = .ok (.aload_n 0, 1) := by decide +kernel
theorem dST_init2_59 : decode cST_init2 59 = .ok (.iconst 1, 1) := by decide +kernel
theorem dST_init2_60 : decode cST_init2 60 = .ok (.putfield 15, 3) := by decide +kernel
theorem dST_init2_63 : decode cST_init2 63 = .ok (.aload_n 0, 1) := by decide +kernel
theorem dST_init2_64 : decode cST_init2 64 = .ok (.aload_n 1, 1) := by decide +kernel
theorem dST_init2_65 : decode cST_init2 65 = .ok (.iload_n 2, 1) := by decide +kernel
theorem dST_init2_66 : decode cST_init2 66 = .ok (.iload_n 3, 1) := by decide +kernel
theorem dST_init2_67 : decode cST_init2 67 = .ok (.invokestatic 180, 3) := by decide +kernel
theorem dST_init2_70 : decode cST_init2 70 = .ok (.putfield 9, 3) := by decide +kernel
theorem dST_init2_73 : decode cST_init2 73 = .ok (.return_, 1) := by decide +kernel
theorem dST_length_0 : decode cST_length 0 = .ok (.aload_n 0, 1) := by decide +kernel
theorem dST_length_1 : decode cST_length 1 = .ok (.getfield 9, 3) := by decide +kernel
theorem dST_length_4 : decode cST_length 4 = .ok (.arraylength, 1) := by decide +kernel
theorem dST_length_5 : decode cST_length 5 = .ok (.aload_n 0, 1) := by decide +kernel
theorem dST_length_6 : decode cST_length 6 = .ok (.invokevirtual 335, 3) := by decide +kernel
theorem dST_length_9 : decode cST_length 9 = .ok (.ishr, 1) := by decide +kernel
theorem dST_length_10 : decode cST_length 10 = .ok (.ireturn, 1) := by decide +kernel
theorem dST_coder_0 : decode cST_coder 0 = .ok (.getstatic 38, 3) := by decide +kernel
theorem dST_coder_3 : decode cST_coder 3 = .ok (.ifCond .eq 10, 3) := by decide +kernel
theorem dST_coder_6 : decode cST_coder 6 = .ok (.aload_n 0, 1) := by decide +kernel
theorem dST_coder_7 : decode cST_coder 7 = .ok (.getfield 15, 3) := by decide +kernel
theorem dST_coder_10 : decode cST_coder 10 = .ok (.goto 4, 3) := by decide +kernel
theorem dST_coder_13 : decode cST_coder 13 = .ok (.iconst 1, 1) := by decide +kernel
theorem dST_coder_14 : decode cST_coder 14 = .ok (.ireturn, 1) := by decide +kernel
theorem dST_charAt_0 : decode cST_charAt 0 = .ok (.aload_n 0, 1) := by decide +kernel
theorem dST_charAt_1 : decode cST_charAt 1 = .ok (.invokevirtual 492, 3) := by decide +kernel
theorem dST_charAt_4 : decode cST_charAt 4 = .ok (.ifCond .eq 12, 3) := by decide +kernel
theorem dST_charAt_7 : decode cST_charAt 7 = .ok (.aload_n 0, 1) := by decide +kernel
theorem dST_charAt_8 : decode cST_charAt 8 = .ok (.getfield 9, 3) := by decide +kernel
theorem dST_charAt_11 : decode cST_charAt 11 = .ok (.iload_n 1, 1) := by decide +kernel
theorem dST_charAt_12 : decode cST_charAt 12 = .ok (.invokestatic 495, 3) := by decide +kernel
theorem dST_charAt_15 : decode cST_charAt 15 = .ok (.ireturn, 1) := by decide +kernel
theorem dST_charAt_16 : decode cST_charAt 16 = .ok (.aload_n 0, 1) := by decide +kernel
theorem dST_charAt_17 : decode cST_charAt 17 = .ok (.getfield 9, 3) := by decide +kernel
theorem dST_charAt_20 : decode cST_charAt 20 = .ok (.iload_n 1, 1) := by decide +kernel
theorem dST_charAt_21 : decode cST_charAt 21 = .ok (.invokestatic 498, 3) := by decide +kernel
theorem dST_charAt_24 : decode cST_charAt 24 = .ok (.ireturn, 1) := by decide +kernel
theorem dST_isLatin1_0 : decode cST_isLatin1 0 = .ok (.getstatic 38, 3) := by decide +kernel
theorem dST_isLatin1_3 : decode cST_isLatin1 3 = .ok (.ifCond .eq 14, 3) := by decide +kernel
theorem dST_isLatin1_6 : decode cST_isLatin1 6 = .ok (.aload_n 0, 1) := by decide +kernel
theorem dST_isLatin1_7 : decode cST_isLatin1 7 = .ok (.getfield 15, 3) := by decide +kernel
theorem dST_isLatin1_10 : decode cST_isLatin1 10 = .ok (.ifCond .ne 7, 3) := by decide +kernel
theorem dST_isLatin1_13 : decode cST_isLatin1 13 = .ok (.iconst 1, 1) := by decide +kernel
theorem dST_isLatin1_14 : decode cST_isLatin1 14 = .ok (.goto 4, 3) := by decide +kernel
theorem dST_isLatin1_17 : decode cST_isLatin1 17 = .ok (.iconst 0, 1) := by decide +kernel
theorem dST_isLatin1_18 : decode cST_isLatin1 18 = .ok (.ireturn, 1) := by decide +kernel
theorem dSL_charAt_0 : decode cSL_charAt 0 = .ok (.iload_n 1, 1) := by decide +kernel
theorem dSL_charAt_1 : decode cSL_charAt 1 = .ok (.aload_n 0, 1) := by decide +kernel
theorem dSL_charAt_2 : decode cSL_charAt 2 = .ok (.arraylength, 1) := by decide +kernel
theorem dSL_charAt_3 : decode cSL_charAt 3 = .ok (.invokestatic 9, 3) := by decide +kernel
theorem dSL_charAt_6 : decode cSL_charAt 6 = .ok (.aload_n 0, 1) := by decide +kernel
theorem dSL_charAt_7 : decode cSL_charAt 7 = .ok (.iload_n 1, 1) := by decide +kernel
theorem dSL_charAt_8 : decode cSL_charAt 8 = .ok (.baload, 1) := by decide +kernel
theorem dSL_charAt_9 : decode cSL_charAt 9 = .ok (.sipush 255, 3) := by decide +kernel
theorem dSL_charAt_12 : decode cSL_charAt 12 = .ok (.iand, 1) := by decide +kernel
theorem dSL_charAt_13 : decode cSL_charAt 13 = .ok (.i2c, 1) := by decide +kernel
theorem dSL_charAt_14 : decode cSL_charAt 14 = .ok (.ireturn, 1) := by decide +kernel
theorem dST_checkIndex_0 : decode cST_checkIndex 0 = .ok (.iload_n 0, 1) := by decide +kernel
theorem dST_checkIndex_1 : decode cST_checkIndex 1 = .ok (.iload_n 1, 1) := by decide +kernel
theorem dST_checkIndex_2 : decode cST_checkIndex 2 = .ok (.getstatic 1053, 3) := by decide +kernel
theorem dST_checkIndex_5 : decode cST_checkIndex 5 = .ok (.invokestatic 1059, 3) := by decide +kernel
theorem dST_checkIndex_8 : decode cST_checkIndex 8 = .ok (.pop, 1) := by decide +kernel
theorem dST_checkIndex_9 : decode cST_checkIndex 9 = .ok (.return_, 1) := by decide +kernel
theorem dPC_checkIndex_0 : decode cPC_checkIndex 0 = .ok (.iload_n 0, 1) := by decide +kernel
theorem dPC_checkIndex_1 : decode cPC_checkIndex 1 = .ok (.ifCond .lt 8, 3) := by decide +kernel
theorem dPC_checkIndex_4 : decode cPC_checkIndex 4 = .ok (.iload_n 0, 1) := by decide +kernel
theorem dPC_checkIndex_5 : decode cPC_checkIndex 5 = .ok (.iload_n 1, 1) := by decide +kernel
theorem dPC_checkIndex_6 : decode cPC_checkIndex 6 = .ok (.if_icmp .lt 10, 3) := by decide +kernel
theorem dPC_checkIndex_9 : decode cPC_checkIndex 9 = .ok (.aload_n 2, 1) := by decide +kernel
theorem dPC_checkIndex_10 : decode cPC_checkIndex 10 = .ok (.iload_n 0, 1) := by decide +kernel
theorem dPC_checkIndex_11 : decode cPC_checkIndex 11 = .ok (.iload_n 1, 1) := by decide +kernel
theorem dPC_checkIndex_12 : decode cPC_checkIndex 12 = .ok (.invokestatic 95, 3) := by decide +kernel
theorem dPC_checkIndex_15 : decode cPC_checkIndex 15 = .ok (.athrow, 1) := by decide +kernel
theorem dPC_checkIndex_16 : decode cPC_checkIndex 16 = .ok (.iload_n 0, 1) := by decide +kernel
theorem dPC_checkIndex_17 : decode cPC_checkIndex 17 = .ok (.ireturn, 1) := by decide +kernel
theorem dST_substring_0 : decode cST_substring 0 = .ok (.aload_n 0, 1) := by decide +kernel
theorem dST_substring_1 : decode cST_substring 1 = .ok (.invokevirtual 505, 3) := by decide +kernel
theorem dST_substring_4 : decode cST_substring 4 = .ok (.istore_n 3, 1) := by decide +kernel
theorem dST_substring_5 : decode cST_substring 5 = .ok (.iload_n 1, 1) := by decide +kernel
theorem dST_substring_6 : decode cST_substring 6 = .ok (.iload_n 2, 1) := by decide +kernel
theorem dST_substring_7 : decode cST_substring 7 = .ok (.iload_n 3, 1) := by decide +kernel
theorem dST_substring_8 : decode cST_substring 8 = .ok (.invokestatic 521, 3) := by decide +kernel
theorem dST_substring_11 : decode cST_substring 11 = .ok (.iload_n 1, 1) := by decide +kernel
theorem dST_substring_12 : decode cST_substring 12 = .ok (.ifCond .ne 10, 3) := by decide +kernel
theorem dST_substring_15 : decode cST_substring 15 = .ok (.iload_n 2, 1) := by decide +kernel
theorem dST_substring_16 : decode cST_substring 16 = .ok (.iload_n 3, 1) := by decide +kernel
theorem dST_substring_17 : decode cST_substring 17 = .ok (.if_icmp .ne 5, 3) := by decide +kernel
theorem dST_substring_20 : decode cST_substring 20 = .ok (.aload_n 0, 1) := by decide +kernel
theorem dST_substring_21 : decode cST_substring 21 = .ok (.areturn, 1) := by decide +kernel
theorem dST_substring_22 : decode cST_substring 22 = .ok (.iload_n 2, 1) := by decide +kernel
theorem dST_substring_23 : decode cST_substring 23 = .ok (.iload_n 1, 1) := by decide +kernel
theorem dST_substring_24 : decode cST_substring 24 = .ok (.isub, 1) := by decide +kernel
theorem dST_substring_25 : decode cST_substring 25 = .ok (.istore 4, 2) := by decide +kernel
theorem dST_substring_27 : decode cST_substring 27 = .ok (.aload_n 0, 1) := by decide +kernel
theorem dST_substring_28 : decode cST_substring 28 = .ok (.invokevirtual 492, 3) := by decide +kernel
theorem dST_substring_31 : decode cST_substring 31 = .ok (.ifCond .eq 16, 3) := by decide +kernel
theorem dST_substring_34 : decode cST_substring 34 = .ok (.aload_n 0, 1) := by decide +kernel
theorem dST_substring_35 : decode cST_substring 35 = .ok (.getfield 9, 3) := by decide +kernel
theorem dST_substring_38 : decode cST_substring 38 = .ok (.iload_n 1, 1) := by decide +kernel
theorem dST_substring_39 : decode cST_substring 39 = .ok (.iload 4, 2) := by decide +kernel
theorem dST_substring_41 : decode cST_substring 41 = .ok (.invokestatic 685, 3) := by decide +kernel
theorem dST_substring_44 : decode cST_substring 44 = .ok (.goto 13, 3) := by decide +kernel
theorem dST_substring_47 : decode cST_substring 47 = .ok (.aload_n 0, 1) := by decide +kernel
theorem dST_substring_48 : decode cST_substring 48 = .ok (.getfield 9, 3) := by decide +kernel
theorem dST_substring_51 : decode cST_substring 51 = .ok (.iload_n 1, 1) := by decide +kernel
theorem dST_substring_52 : decode cST_substring 52 = .ok (.iload 4, 2) := by decide +kernel
theorem dST_substring_54 : decode cST_substring 54 = .ok (.invokestatic 689, 3) := by decide +kernel
theorem dST_substring_57 : decode cST_substring 57 = .ok (.areturn, 1) := by decide +kernel
theorem dST_checkBoundsBeginEnd_0 : decode cST_checkBoundsBeginEnd 0 = .ok (.iload_n 0, 1) := by decide +kernel
theorem dST_checkBoundsBeginEnd_1 : decode cST_checkBoundsBeginEnd 1 = .ok (.iload_n 1, 1) := by decide +kernel
theorem dST_checkBoundsBeginEnd_2 : decode cST_checkBoundsBeginEnd 2 = .ok (.iload_n 2, 1) := by decide +kernel
theorem dST_checkBoundsBeginEnd_3 : decode cST_checkBoundsBeginEnd 3 = .ok (.getstatic 1053, 3) := by decide +kernel
theorem dST_checkBoundsBeginEnd_6 : decode cST_checkBoundsBeginEnd 6 = .ok (.invokestatic 1062, 3) := by decide +kernel
theorem dST_checkBoundsBeginEnd_9 : decode cST_checkBoundsBeginEnd 9 = .ok (.pop, 1) := by decide +kernel
theorem dST_checkBoundsBeginEnd_10 : decode cST_checkBoundsBeginEnd 10 = .ok (.return_, 1) := by decide +kernel
theorem dPC_checkFromToIndex_0 : decode cPC_checkFromToIndex 0 = .ok (.iload_n 0, 1) := by decide +kernel
theorem dPC_checkFromToIndex_1 : decode cPC_checkFromToIndex 1 = .ok (.ifCond .lt 13, 3) := by decide +kernel
theorem dPC_checkFromToIndex_4 : decode cPC_checkFromToIndex 4 = .ok (.iload_n 0, 1) := by decide +kernel
theorem dPC_checkFromToIndex_5 : decode cPC_checkFromToIndex 5 = .ok (.iload_n 1, 1) := by decide +kernel
theorem dPC_checkFromToIndex_6 : decode cPC_checkFromToIndex 6 = .ok (.if_icmp .gt 8, 3) := by decide +kernel
theorem dPC_checkFromToIndex_9 : decode cPC_checkFromToIndex 9 = .ok (.iload_n 1, 1) := by decide +kernel
theorem dPC_checkFromToIndex_10 : decode cPC_checkFromToIndex 10 = .ok (.iload_n 2, 1) := by decide +kernel
theorem dPC_checkFromToIndex_11 : decode cPC_checkFromToIndex 11 = .ok (.if_icmp .le 11, 3) := by decide +kernel
theorem dPC_checkFromToIndex_14 : decode cPC_checkFromToIndex 14 = .ok (.aload_n 3, 1) := by decide +kernel
theorem dPC_checkFromToIndex_15 : decode cPC_checkFromToIndex 15 = .ok (.iload_n 0, 1) := by decide +kernel
theorem dPC_checkFromToIndex_16 : decode cPC_checkFromToIndex 16 = .ok (.iload_n 1, 1) := by decide +kernel
theorem dPC_checkFromToIndex_17 : decode cPC_checkFromToIndex 17 = .ok (.iload_n 2, 1) := by decide +kernel
theorem dPC_checkFromToIndex_18 : decode cPC_checkFromToIndex 18 = .ok (.invokestatic 99, 3) := by decide +kernel
theorem dPC_checkFromToIndex_21 : decode cPC_checkFromToIndex 21 = .ok (.athrow, 1) := by decide +kernel
theorem dPC_checkFromToIndex_22 : decode cPC_checkFromToIndex 22 = .ok (.iload_n 0, 1) := by decide +kernel
theorem dPC_checkFromToIndex_23 : decode cPC_checkFromToIndex 23 = .ok (.ireturn, 1) := by decide +kernel
theorem dSL_newString_0 : decode cSL_newString 0 = .ok (.iload_n 2, 1) := by decide +kernel
theorem dSL_newString_1 : decode cSL_newString 1 = .ok (.ifCond .ne 6, 3) := by decide +kernel
theorem dSL_newString_4 : decode cSL_newString 4 = .ok (.ldc 151, 2) := by decide +kernel
theorem dSL_newString_6 : decode cSL_newString 6 = .ok (.areturn, 1) := by decide +kernel
theorem dSL_newString_7 : decode cSL_newString 7 = .ok (.new 1, 3) := by decide +kernel
theorem dSL_newString_10 : decode cSL_newString 10 = .ok (.dup, 1) := by decide +kernel
theorem dSL_newString_11 : decode cSL_newString 11 = .ok (.aload_n 0, 1) := by decide +kernel
theorem dSL_newString_12 : decode cSL_newString 12 = .ok (.iload_n 1, 1) := by decide +kernel
theorem dSL_newString_13 : decode cSL_newString 13 = .ok (.iload_n 1, 1) := by decide +kernel
theorem dSL_newString_14 : decode cSL_newString 14 = .ok (.iload_n 2, 1) := by decide +kernel
theorem dSL_newString_15 : decode cSL_newString 15 = .ok (.iadd, 1) := by decide +kernel
theorem dSL_newString_16 : decode cSL_newString 16 = .ok (.invokestatic 232, 3) := by decide +kernel
theorem dSL_newString_19 : decode cSL_newString 19 = .ok (.iconst 0, 1) := by decide +kernel
theorem dSL_newString_20 : decode cSL_newString 20 = .ok (.invokespecial 112, 3) := by decide +kernel
theorem dSL_newString_23 : decode cSL_newString 23 = .ok (.areturn, 1) := by decide +kernel
theorem dAR_copyOfRange_0 : decode cAR_copyOfRange 0 = .ok (.iload_n 1, 1) := by decide +kernel
theorem dAR_copyOfRange_1 : decode cAR_copyOfRange 1 = .ok (.ifCond .ne 9, 3) := by decide +kernel
theorem dAR_copyOfRange_4 : decode cAR_copyOfRange 4 = .ok (.iload_n 2, 1) := by decide +kernel
theorem dAR_copyOfRange_5 : decode cAR_copyOfRange 5 = .ok (.aload_n 0, 1) := by decide +kernel
theorem dAR_copyOfRange_6 : decode cAR_copyOfRange 6 = .ok (.arraylength, 1) := by decide +kernel
theorem dAR_copyOfRange_7 : decode cAR_copyOfRange 7 = .ok (.if_icmp .eq 10, 3) := by decide +kernel
theorem dAR_copyOfRange_10 : decode cAR_copyOfRange 10 = .ok (.aload_n 0, 1) := by decide +kernel
theorem dAR_copyOfRange_11 : decode cAR_copyOfRange 11 = .ok (.iload_n 1, 1) := by decide +kernel
theorem dAR_copyOfRange_12 : decode cAR_copyOfRange 12 = .ok (.iload_n 2, 1) := by decide +kernel
theorem dAR_copyOfRange_13 : decode cAR_copyOfRange 13 = .ok (.invokestatic 339, 3) := by decide +kernel
theorem dAR_copyOfRange_16 : decode cAR_copyOfRange 16 = .ok (.areturn, 1) := by decide +kernel
theorem dAR_copyOfRange_17 : decode cAR_copyOfRange 17 = .ok (.aload_n 0, 1) := by decide +kernel
theorem dAR_copyOfRange_18 : decode cAR_copyOfRange 18 = .ok (.invokevirtual 310, 3) := by decide +kernel
theorem dAR_copyOfRange_21 : decode cAR_copyOfRange 21 = .ok (.checkcast 311, 3) := by decide +kernel
theorem dAR_copyOfRange_24 : decode cAR_copyOfRange 24 = .ok (.areturn, 1) := by decide +kernel
theorem dAR_copyOfRangeByte_0 : decode cAR_copyOfRangeByte 0 = .ok (.iload_n 1, 1) := by decide +kernel
theorem dAR_copyOfRangeByte_1 : decode cAR_copyOfRangeByte 1 = .ok (.iload_n 2, 1) := by decide +kernel
theorem dAR_copyOfRangeByte_2 : decode cAR_copyOfRangeByte 2 = .ok (.invokestatic 343, 3) := by decide +kernel
theorem dAR_copyOfRangeByte_5 : decode cAR_copyOfRangeByte 5 = .ok (.iload_n 2, 1) := by decide +kernel
theorem dAR_copyOfRangeByte_6 : decode cAR_copyOfRangeByte 6 = .ok (.iload_n 1, 1) := by decide +kernel
theorem dAR_copyOfRangeByte_7 : decode cAR_copyOfRangeByte 7 = .ok (.isub, 1) := by decide +kernel
theorem dAR_copyOfRangeByte_8 : decode cAR_copyOfRangeByte 8 = .ok (.istore_n 3, 1) := by decide +kernel
theorem dAR_copyOfRangeByte_9 : decode cAR_copyOfRangeByte 9 = .ok (.iload_n 3, 1) := by decide +kernel
theorem dAR_copyOfRangeByte_10 : decode cAR_copyOfRangeByte 10 = .ok (.newarray .byte, 2) := by decide +kernel
theorem dAR_copyOfRangeByte_12 : decode cAR_copyOfRangeByte 12 = .ok (.astore 4, 2) := by decide +kernel
theorem dAR_copyOfRangeByte_14 : decode cAR_copyOfRangeByte 14 = .ok (.aload_n 0, 1) := by decide +kernel
theorem dAR_copyOfRangeByte_15 : decode cAR_copyOfRangeByte 15 = .ok (.iload_n 1, 1) := by decide +kernel
theorem dAR_copyOfRangeByte_16 : decode cAR_copyOfRangeByte 16 = .ok (.aload 4, 2) := by decide +kernel
theorem dAR_copyOfRangeByte_18 : decode cAR_copyOfRangeByte 18 = .ok (.iconst 0, 1) := by decide +kernel
theorem dAR_copyOfRangeByte_19 : decode cAR_copyOfRangeByte 19 = .ok (.aload_n 0, 1) := by decide +kernel
theorem dAR_copyOfRangeByte_20 : decode cAR_copyOfRangeByte 20 = .ok (.arraylength, 1) := by decide +kernel
theorem dAR_copyOfRangeByte_21 : decode cAR_copyOfRangeByte 21 = .ok (.iload_n 1, 1) := by decide +kernel
theorem dAR_copyOfRangeByte_22 : decode cAR_copyOfRangeByte 22 = .ok (.isub, 1) := by decide +kernel
theorem dAR_copyOfRangeByte_23 : decode cAR_copyOfRangeByte 23 = .ok (.iload_n 3, 1) := by decide +kernel
theorem dAR_copyOfRangeByte_24 : decode cAR_copyOfRangeByte 24 = .ok (.invokestatic 304, 3) := by decide +kernel
theorem dAR_copyOfRangeByte_27 : decode cAR_copyOfRangeByte 27 = .ok (.invokestatic 150, 3) := by decide +kernel
theorem dAR_copyOfRangeByte_30 : decode cAR_copyOfRangeByte 30 = .ok (.aload 4, 2) := by decide +kernel
theorem dAR_copyOfRangeByte_32 : decode cAR_copyOfRangeByte 32 = .ok (.areturn, 1) := by decide +kernel
theorem dAR_checkLength_0 : decode cAR_checkLength 0 = .ok (.iload_n 1, 1) := by decide +kernel
theorem dAR_checkLength_1 : decode cAR_checkLength 1 = .ok (.iload_n 0, 1) := by decide +kernel
theorem dAR_checkLength_2 : decode cAR_checkLength 2 = .ok (.if_icmp .ge 35, 3) := by decide +kernel
theorem dAR_checkLength_5 : decode cAR_checkLength 5 = .ok (.new 43, 3) := by decide +kernel
theorem dAR_checkLength_8 : decode cAR_checkLength 8 = .ok (.dup, 1) := by decide +kernel
theorem dAR_checkLength_9 : decode cAR_checkLength 9 = .ok (.new 45, 3) := by decide +kernel
theorem dAR_checkLength_12 : decode cAR_checkLength 12 = .ok (.dup, 1) := by decide +kernel
theorem dAR_checkLength_13 : decode cAR_checkLength 13 = .ok (.invokespecial 47, 3) := by decide +kernel
theorem dAR_checkLength_16 : decode cAR_checkLength 16 = .ok (.iload_n 0, 1) := by decide +kernel
theorem dAR_checkLength_17 : decode cAR_checkLength 17 = .ok (.invokevirtual 54, 3) := by decide +kernel
theorem dAR_checkLength_20 : decode cAR_checkLength 20 = .ok (.ldc_w 337, 3) := by decide +kernel
theorem dAR_checkLength_23 : decode cAR_checkLength 23 = .ok (.invokevirtual 50, 3) := by decide +kernel
theorem dAR_checkLength_26 : decode cAR_checkLength 26 = .ok (.iload_n 1, 1) := by decide +kernel
theorem dAR_checkLength_27 : decode cAR_checkLength 27 = .ok (.invokevirtual 54, 3) := by decide +kernel
theorem dAR_checkLength_30 : decode cAR_checkLength 30 = .ok (.invokevirtual 61, 3) := by decide +kernel
theorem dAR_checkLength_33 : decode cAR_checkLength 33 = .ok (.invokespecial 65, 3) := by decide +kernel
theorem dAR_checkLength_36 : decode cAR_checkLength 36 = .ok (.athrow, 1) := by decide +kernel
theorem dAR_checkLength_37 : decode cAR_checkLength 37 = .ok (.return_, 1) := by decide +kernel
theorem dMA_min_0 : decode cMA_min 0 = .ok (.iload_n 0, 1) := by decide +kernel
theorem dMA_min_1 : decode cMA_min 1 = .ok (.iload_n 1, 1) := by decide +kernel
theorem dMA_min_2 : decode cMA_min 2 = .ok (.if_icmp .gt 7, 3) := by decide +kernel
theorem dMA_min_5 : decode cMA_min 5 = .ok (.iload_n 0, 1) := by decide +kernel
theorem dMA_min_6 : decode cMA_min 6 = .ok (.goto 4, 3) := by decide +kernel
theorem dMA_min_9 : decode cMA_min 9 = .ok (.iload_n 1, 1) := by decide +kernel
theorem dMA_min_10 : decode cMA_min 10 = .ok (.ireturn, 1) := by decide +kernel
theorem dST_init3_0 : decode cST_init3 0 = .ok (.aload_n 0, 1) := by decide +kernel
theorem dST_init3_1 : decode cST_init3 1 = .ok (.invokespecial 1, 3) := by decide +kernel
theorem dST_init3_4 : decode cST_init3 4 = .ok (.aload_n 0, 1) := by decide +kernel
theorem dST_init3_5 : decode cST_init3 5 = .ok (.aload_n 1, 1) := by decide +kernel
theorem dST_init3_6 : decode cST_init3 6 = .ok (.putfield 9, 3) := by decide +kernel
theorem dST_init3_9 : decode cST_init3 9 = .ok (.aload_n 0, 1) := by decide +kernel
theorem dST_init3_10 : decode cST_init3 10 = .ok (.iload_n 2, 1) := by decide +kernel
theorem dST_init3_11 : decode cST_init3 11 = .ok (.putfield 15, 3) := by decide +kernel
theorem dST_init3_14 : decode cST_init3 14 = .ok (.return_, 1) := by decide +kernel
theorem dST_equals_0 : decode cST_equals 0 = .ok (.aload_n 0, 1) := by decide +kernel
theorem dST_equals_1 : decode cST_equals 1 = .ok (.aload_n 1, 1) := by decide +kernel
theorem dST_equals_2 : decode cST_equals 2 = .ok (.if_acmp .ne 5, 3) := by decide +kernel
theorem dST_equals_5 : decode cST_equals 5 = .ok (.iconst 1, 1) := by decide +kernel
theorem dST_equals_6 : decode cST_equals 6 = .ok (.ireturn, 1) := by decide +kernel
theorem dST_equals_7 : decode cST_equals 7 = .ok (.aload_n 1, 1) := by decide +kernel
theorem dST_equals_8 : decode cST_equals 8 = .ok (.instanceof 10, 3) := by decide +kernel
theorem dST_equals_11 : decode cST_equals 11 = .ok (.ifCond .eq 43, 3) := by decide +kernel
theorem dST_equals_14 : decode cST_equals 14 = .ok (.aload_n 1, 1) := by decide +kernel
theorem dST_equals_15 : decode cST_equals 15 = .ok (.checkcast 10, 3) := by decide +kernel
theorem dST_equals_18 : decode cST_equals 18 = .ok (.astore_n 2, 1) := by decide +kernel
theorem dST_equals_19 : decode cST_equals 19 = .ok (.getstatic 38, 3) := by decide +kernel
theorem dST_equals_22 : decode cST_equals 22 = .ok (.ifCond .eq 14, 3) := by decide +kernel
theorem dST_equals_25 : decode cST_equals 25 = .ok (.aload_n 0, 1) := by decide +kernel
theorem dST_equals_26 : decode cST_equals 26 = .ok (.getfield 15, 3) := by decide +kernel
theorem dST_equals_29 : decode cST_equals 29 = .ok (.aload_n 2, 1) := by decide +kernel
theorem dST_equals_30 : decode cST_equals 30 = .ok (.getfield 15, 3) := by decide +kernel
theorem dST_equals_33 : decode cST_equals 33 = .ok (.if_icmp .ne 21, 3) := by decide +kernel
theorem dST_equals_36 : decode cST_equals 36 = .ok (.aload_n 0, 1) := by decide +kernel
theorem dST_equals_37 : decode cST_equals 37 = .ok (.getfield 9, 3) := by decide +kernel
theorem dST_equals_40 : decode cST_equals 40 = .ok (.aload_n 2, 1) := by decide +kernel
theorem dST_equals_41 : decode cST_equals 41 = .ok (.getfield 9, 3) := by decide +kernel
theorem dST_equals_44 : decode cST_equals 44 = .ok (.invokestatic 541, 3) := by decide +kernel
theorem dST_equals_47 : decode cST_equals 47 = .ok (.ifCond .eq 7, 3) := by decide +kernel
theorem dST_equals_50 : decode cST_equals 50 = .ok (.iconst 1, 1) := by decide +kernel
theorem dST_equals_51 : decode cST_equals 51 = .ok (.goto 4, 3) := by decide +kernel
theorem dST_equals_54 : decode cST_equals 54 = .ok (.iconst 0, 1) := by decide +kernel
theorem dST_equals_55 : decode cST_equals 55 = .ok (.ireturn, 1) := by decide +kernel
theorem dSL_equals_0 : decode cSL_equals 0 = .ok (.aload_n 0, 1) := by decide +kernel
theorem dSL_equals_1 : decode cSL_equals 1 = .ok (.arraylength, 1) := by decide +kernel
theorem dSL_equals_2 : decode cSL_equals 2 = .ok (.aload_n 1, 1) := by decide +kernel
theorem dSL_equals_3 : decode cSL_equals 3 = .ok (.arraylength, 1) := by decide +kernel
theorem dSL_equals_4 : decode cSL_equals 4 = .ok (.if_icmp .ne 30, 3) := by decide +kernel
theorem dSL_equals_7 : decode cSL_equals 7 = .ok (.iconst 0, 1) := by decide +kernel
theorem dSL_equals_8 : decode cSL_equals 8 = .ok (.istore_n 2, 1) := by decide +kernel
theorem dSL_equals_9 : decode cSL_equals 9 = .ok (.iload_n 2, 1) := by decide +kernel
theorem dSL_equals_10 : decode cSL_equals 10 = .ok (.aload_n 0, 1) := by decide +kernel
theorem dSL_equals_11 : decode cSL_equals 11 = .ok (.arraylength, 1) := by decide +kernel
theorem dSL_equals_12 : decode cSL_equals 12 = .ok (.if_icmp .ge 20, 3) := by decide +kernel
theorem dSL_equals_15 : decode cSL_equals 15 = .ok (.aload_n 0, 1) := by decide +kernel
theorem dSL_equals_16 : decode cSL_equals 16 = .ok (.iload_n 2, 1) := by decide +kernel
theorem dSL_equals_17 : decode cSL_equals 17 = .ok (.baload, 1) := by decide +kernel
theorem dSL_equals_18 : decode cSL_equals 18 = .ok (.aload_n 1, 1) := by decide +kernel
theorem dSL_equals_19 : decode cSL_equals 19 = .ok (.iload_n 2, 1) := by decide +kernel
theorem dSL_equals_20 : decode cSL_equals 20 = .ok (.baload, 1) := by decide +kernel
theorem dSL_equals_21 : decode cSL_equals 21 = .ok (.if_icmp .eq 5, 3) := by decide +kernel
theorem dSL_equals_24 : decode cSL_equals 24 = .ok (.iconst 0, 1) := by decide +kernel
theorem dSL_equals_25 : decode cSL_equals 25 = .ok (.ireturn, 1) := by decide +kernel
theorem dSL_equals_26 : decode cSL_equals 26 = .ok (.iinc 2 1, 3) := by decide +kernel
theorem dSL_equals_29 : decode cSL_equals 29 = .ok (.goto (-20), 3) := by decide +kernel
theorem dSL_equals_32 : decode cSL_equals 32 = .ok (.iconst 1, 1) := by decide +kernel
theorem dSL_equals_33 : decode cSL_equals 33 = .ok (.ireturn, 1) := by decide +kernel
theorem dSL_equals_34 : decode cSL_equals 34 = .ok (.iconst 0, 1) := by decide +kernel
theorem dSL_equals_35 : decode cSL_equals 35 = .ok (.ireturn, 1) := by decide +kernel
theorem dST_startsWith_0 : decode cST_startsWith 0 = .ok (.aload_n 0, 1) := by decide +kernel
theorem dST_startsWith_1 : decode cST_startsWith 1 = .ok (.aload_n 1, 1) := by decide +kernel
theorem dST_startsWith_2 : decode cST_startsWith 2 = .ok (.iconst 0, 1) := by decide +kernel
theorem dST_startsWith_3 : decode cST_startsWith 3 = .ok (.invokevirtual 624, 3) := by decide +kernel
theorem dST_startsWith_6 : decode cST_startsWith 6 = .ok (.ireturn, 1) := by decide +kernel
theorem dST_startsWith2_0 : decode cST_startsWith2 0 = .ok (.iload_n 2, 1) := by decide +kernel
theorem dST_startsWith2_1 : decode cST_startsWith2 1 = .ok (.ifCond .lt 16, 3) := by decide +kernel
theorem dST_startsWith2_4 : decode cST_startsWith2 4 = .ok (.iload_n 2, 1) := by decide +kernel
theorem dST_startsWith2_5 : decode cST_startsWith2 5 = .ok (.aload_n 0, 1) := by decide +kernel
theorem dST_startsWith2_6 : decode cST_startsWith2 6 = .ok (.invokevirtual 505, 3) := by decide +kernel
theorem dST_startsWith2_9 : decode cST_startsWith2 9 = .ok (.aload_n 1, 1) := by decide +kernel
theorem dST_startsWith2_10 : decode cST_startsWith2 10 = .ok (.invokevirtual 505, 3) := by decide +kernel
theorem dST_startsWith2_13 : decode cST_startsWith2 13 = .ok (.isub, 1) := by decide +kernel
theorem dST_startsWith2_14 : decode cST_startsWith2 14 = .ok (.if_icmp .le 5, 3) := by decide +kernel
theorem dST_startsWith2_17 : decode cST_startsWith2 17 = .ok (.iconst 0, 1) := by decide +kernel
theorem dST_startsWith2_18 : decode cST_startsWith2 18 = .ok (.ireturn, 1) := by decide +kernel
theorem dST_startsWith2_19 : decode cST_startsWith2 19 = .ok (.aload_n 0, 1) := by decide +kernel
theorem dST_startsWith2_20 : decode cST_startsWith2 20 = .ok (.getfield 9, 3) := by decide +kernel
theorem dST_startsWith2_23 : decode cST_startsWith2 23 = .ok (.astore_n 3, 1) := by decide +kernel
theorem dST_startsWith2_24 : decode cST_startsWith2 24 = .ok (.aload_n 1, 1) := by decide +kernel
theorem dST_startsWith2_25 : decode cST_startsWith2 25 = .ok (.getfield 9, 3) := by decide +kernel
theorem dST_startsWith2_28 : decode cST_startsWith2 28 = .ok (.astore 4, 2) := by decide +kernel
theorem dST_startsWith2_30 : decode cST_startsWith2 30 = .ok (.iconst 0, 1) := by decide +kernel
theorem dST_startsWith2_31 : decode cST_startsWith2 31 = .ok (.istore 5, 2) := by decide +kernel
theorem dST_startsWith2_33 : decode cST_startsWith2 33 = .ok (.aload 4, 2) := by decide +kernel
theorem dST_startsWith2_35 : decode cST_startsWith2 35 = .ok (.arraylength, 1) := by decide +kernel
theorem dST_startsWith2_36 : decode cST_startsWith2 36 = .ok (.istore 6, 2) := by decide +kernel
theorem dST_startsWith2_38 : decode cST_startsWith2 38 = .ok (.aload_n 0, 1) := by decide +kernel
theorem dST_startsWith2_39 : decode cST_startsWith2 39 = .ok (.invokevirtual 335, 3) := by decide +kernel
theorem dST_startsWith2_42 : decode cST_startsWith2 42 = .ok (.istore 7, 2) := by decide +kernel
theorem dST_startsWith2_44 : decode cST_startsWith2 44 = .ok (.iload 7, 2) := by decide +kernel
theorem dST_startsWith2_46 : decode cST_startsWith2 46 = .ok (.aload_n 1, 1) := by decide +kernel
theorem dST_startsWith2_47 : decode cST_startsWith2 47 = .ok (.invokevirtual 335, 3) := by decide +kernel
theorem dST_startsWith2_50 : decode cST_startsWith2 50 = .ok (.if_icmp .ne 32, 3) := by decide +kernel
theorem dST_startsWith2_53 : decode cST_startsWith2 53 = .ok (.iload 7, 2) := by decide +kernel
theorem dST_startsWith2_55 : decode cST_startsWith2 55 = .ok (.iconst 1, 1) := by decide +kernel
theorem dST_startsWith2_56 : decode cST_startsWith2 56 = .ok (.if_icmp .ne 7, 3) := by decide +kernel
theorem dST_startsWith2_59 : decode cST_startsWith2 59 = .ok (.iload_n 2, 1) := by decide +kernel
theorem dST_startsWith2_60 : decode cST_startsWith2 60 = .ok (.iconst 1, 1) := by decide +kernel
theorem dST_startsWith2_61 : decode cST_startsWith2 61 = .ok (.ishl, 1) := by decide +kernel
theorem dST_startsWith2_62 : decode cST_startsWith2 62 = .ok (.istore_n 2, 1) := by decide +kernel
theorem dST_startsWith2_63 : decode cST_startsWith2 63 = .ok (.aload_n 3, 1) := by decide +kernel
theorem dST_startsWith2_64 : decode cST_startsWith2 64 = .ok (.iload_n 2, 1) := by decide +kernel
theorem dST_startsWith2_65 : decode cST_startsWith2 65 = .ok (.aload 4, 2) := by decide +kernel
theorem dST_startsWith2_67 : decode cST_startsWith2 67 = .ok (.iconst 0, 1) := by decide +kernel
theorem dST_startsWith2_68 : decode cST_startsWith2 68 = .ok (.iload 6, 2) := by decide +kernel
theorem dST_startsWith2_70 : decode cST_startsWith2 70 = .ok (.invokestatic 607, 3) := by decide +kernel
theorem dST_startsWith2_73 : decode cST_startsWith2 73 = .ok (.ifCond .ge 7, 3) := by decide +kernel
theorem dST_startsWith2_76 : decode cST_startsWith2 76 = .ok (.iconst 1, 1) := by decide +kernel
theorem dST_startsWith2_77 : decode cST_startsWith2 77 = .ok (.goto 4, 3) := by decide +kernel
theorem dST_startsWith2_80 : decode cST_startsWith2 80 = .ok (.iconst 0, 1) := by decide +kernel
theorem dST_startsWith2_81 : decode cST_startsWith2 81 = .ok (.ireturn, 1) := by decide +kernel
theorem dST_startsWith2_82 : decode cST_startsWith2 82 = .ok (.iload 7, 2) := by decide +kernel
theorem dST_startsWith2_84 : decode cST_startsWith2 84 = .ok (.ifCond .ne 5, 3) := by decide +kernel
theorem dST_startsWith2_87 : decode cST_startsWith2 87 = .ok (.iconst 0, 1) := by decide +kernel
theorem dST_startsWith2_88 : decode cST_startsWith2 88 = .ok (.ireturn, 1) := by decide +kernel
theorem dST_startsWith2_89 : decode cST_startsWith2 89 = .ok (.iload 5, 2) := by decide +kernel
theorem dST_startsWith2_91 : decode cST_startsWith2 91 = .ok (.iload 6, 2) := by decide +kernel
theorem dST_startsWith2_93 : decode cST_startsWith2 93 = .ok (.if_icmp .ge 28, 3) := by decide +kernel
theorem dST_startsWith2_96 : decode cST_startsWith2 96 = .ok (.aload_n 3, 1) := by decide +kernel
theorem dST_startsWith2_97 : decode cST_startsWith2 97 = .ok (.iload_n 2, 1) := by decide +kernel
theorem dST_startsWith2_98 : decode cST_startsWith2 98 = .ok (.iinc 2 1, 3) := by decide +kernel
theorem dST_startsWith2_101 : decode cST_startsWith2 101 = .ok (.invokestatic 360, 3) := by decide +kernel
theorem dST_startsWith2_104 : decode cST_startsWith2 104 = .ok (.aload 4, 2) := by decide +kernel
theorem dST_startsWith2_106 : decode cST_startsWith2 106 = .ok (.iload 5, 2) := by decide +kernel
theorem dST_startsWith2_108 : decode cST_startsWith2 108 = .ok (.iinc 5 1, 3) := by decide +kernel
theorem dST_startsWith2_111 : decode cST_startsWith2 111 = .ok (.baload, 1) := by decide +kernel
theorem dST_startsWith2_112 : decode cST_startsWith2 112 = .ok (.sipush 255, 3) := by decide +kernel
theorem dST_startsWith2_115 : decode cST_startsWith2 115 = .ok (.iand, 1) := by decide +kernel
theorem dST_startsWith2_116 : decode cST_startsWith2 116 = .ok (.if_icmp .eq (-27), 3) := by decide +kernel
theorem dST_startsWith2_119 : decode cST_startsWith2 119 = .ok (.iconst 0, 1) := by decide +kernel
theorem dST_startsWith2_120 : decode cST_startsWith2 120 = .ok (.ireturn, 1) := by decide +kernel
theorem dST_startsWith2_121 : decode cST_startsWith2 121 = .ok (.iconst 1, 1) := by decide +kernel
theorem dST_startsWith2_122 : decode cST_startsWith2 122 = .ok (.ireturn, 1) := by decide +kernel
