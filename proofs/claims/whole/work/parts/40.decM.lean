/-- what the reference's number answers -/
def nRm (m : Nat) (xs : List Nat) : Int32 := if xs.all dD = true ∧ 1 ≤ xs.length ∧ xs.length ≤ m ∧ ¬ (1 < xs.length ∧ xs.head? = some 48) then nI (vN 0 xs) else (-1)
theorem nRm_ok {f : Nat → Nat} {m i n : Nat} (h0 : (sg f i n).all dD = true) (h1 : 1 ≤ n) (h2 : n ≤ m) (h3 : ¬ (1 < n ∧ f i = 48)) : nRm m (sg f i n) = nI (vN 0 (sg f i n)) := by
  obtain ⟨k, rfl⟩ : ∃ k, n = k + 1 := ⟨n - 1, by omega⟩
  unfold nRm
  rw [sg_len, sg_head, if_pos]
  exact ⟨h0, h1, h2, fun z => h3 ⟨z.1, Option.some.inj z.2⟩⟩
theorem nRm_no {f : Nat → Nat} {m i n : Nat} (h : ¬ (sg f i n).all dD = true ∨ n < 1 ∨ m < n ∨ (1 < n ∧ f i = 48)) : nRm m (sg f i n) = (-1) := by
  unfold nRm
  rw [sg_len, if_neg]
  rintro ⟨h0, h1, h2, h3⟩
  obtain ⟨k, rfl⟩ : ∃ k, n = k + 1 := ⟨n - 1, by omega⟩
  rw [sg_head] at h3
  rcases h with h | h | h | h
  · exact h h0
  · omega
  · omega
  · exact h3 ⟨h.1, by rw [h.2]⟩
theorem dMD_init_0 : decode cMD_init 0 = .ok (.aload_n 0, 1) := by decide +kernel
theorem dMD_init_1 : decode cMD_init 1 = .ok (.invokespecial 1, 3) := by decide +kernel
theorem dMD_init_4 : decode cMD_init 4 = .ok (.aload_n 0, 1) := by decide +kernel
theorem dMD_init_5 : decode cMD_init 5 = .ok (.sipush 400, 3) := by decide +kernel
theorem dMD_init_8 : decode cMD_init 8 = .ok (.newarray .char, 2) := by decide +kernel
theorem dMD_init_10 : decode cMD_init 10 = .ok (.putfield 9, 3) := by decide +kernel
theorem dMD_init_13 : decode cMD_init 13 = .ok (.aload_n 0, 1) := by decide +kernel
theorem dMD_init_14 : decode cMD_init 14 = .ok (.sipush 400, 3) := by decide +kernel
theorem dMD_init_17 : decode cMD_init 17 = .ok (.anewarray 13, 3) := by decide +kernel
theorem dMD_init_20 : decode cMD_init 20 = .ok (.putfield 15, 3) := by decide +kernel
theorem dMD_init_23 : decode cMD_init 23 = .ok (.aload_n 0, 1) := by decide +kernel
theorem dMD_init_24 : decode cMD_init 24 = .ok (.bipush 12, 2) := by decide +kernel
theorem dMD_init_26 : decode cMD_init 26 = .ok (.anewarray 19, 3) := by decide +kernel
theorem dMD_init_29 : decode cMD_init 29 = .ok (.putfield 21, 3) := by decide +kernel
theorem dMD_init_32 : decode cMD_init 32 = .ok (.return_, 1) := by decide +kernel
theorem dMD_put_0 : decode cMD_put 0 = .ok (.bipush 24, 2) := by decide +kernel
theorem dMD_put_2 : decode cMD_put 2 = .ok (.istore_n 2, 1) := by decide +kernel
theorem dMD_put_3 : decode cMD_put 3 = .ok (.iload_n 2, 1) := by decide +kernel
theorem dMD_put_4 : decode cMD_put 4 = .ok (.ifCond .lt 36, 3) := by decide +kernel
theorem dMD_put_7 : decode cMD_put 7 = .ok (.aload_n 0, 1) := by decide +kernel
theorem dMD_put_8 : decode cMD_put 8 = .ok (.getfield 9, 3) := by decide +kernel
theorem dMD_put_11 : decode cMD_put 11 = .ok (.aload_n 0, 1) := by decide +kernel
theorem dMD_put_12 : decode cMD_put 12 = .ok (.getfield 25, 3) := by decide +kernel
theorem dMD_put_15 : decode cMD_put 15 = .ok (.iload_n 1, 1) := by decide +kernel
theorem dMD_put_16 : decode cMD_put 16 = .ok (.iload_n 2, 1) := by decide +kernel
theorem dMD_put_17 : decode cMD_put 17 = .ok (.ishr, 1) := by decide +kernel
theorem dMD_put_18 : decode cMD_put 18 = .ok (.sipush 255, 3) := by decide +kernel
theorem dMD_put_21 : decode cMD_put 21 = .ok (.iand, 1) := by decide +kernel
theorem dMD_put_22 : decode cMD_put 22 = .ok (.i2c, 1) := by decide +kernel
theorem dMD_put_23 : decode cMD_put 23 = .ok (.castore, 1) := by decide +kernel
theorem dMD_put_24 : decode cMD_put 24 = .ok (.aload_n 0, 1) := by decide +kernel
theorem dMD_put_25 : decode cMD_put 25 = .ok (.dup, 1) := by decide +kernel
theorem dMD_put_26 : decode cMD_put 26 = .ok (.getfield 25, 3) := by decide +kernel
theorem dMD_put_29 : decode cMD_put 29 = .ok (.iconst 1, 1) := by decide +kernel
theorem dMD_put_30 : decode cMD_put 30 = .ok (.iadd, 1) := by decide +kernel
theorem dMD_put_31 : decode cMD_put 31 = .ok (.putfield 25, 3) := by decide +kernel
theorem dMD_put_34 : decode cMD_put 34 = .ok (.iinc 2 (-8), 3) := by decide +kernel
theorem dMD_put_37 : decode cMD_put 37 = .ok (.goto (-34), 3) := by decide +kernel
theorem dMD_put_40 : decode cMD_put 40 = .ok (.return_, 1) := by decide +kernel
theorem dMD_feed_0 : decode cMD_feed 0 = .ok (.aload_n 0, 1) := by decide +kernel
theorem dMD_feed_1 : decode cMD_feed 1 = .ok (.getfield 25, 3) := by decide +kernel
theorem dMD_feed_4 : decode cMD_feed 4 = .ok (.bipush 20, 2) := by decide +kernel
theorem dMD_feed_6 : decode cMD_feed 6 = .ok (.iadd, 1) := by decide +kernel
theorem dMD_feed_7 : decode cMD_feed 7 = .ok (.sipush 400, 3) := by decide +kernel
theorem dMD_feed_10 : decode cMD_feed 10 = .ok (.if_icmp .le 6, 3) := by decide +kernel
theorem dMD_feed_13 : decode cMD_feed 13 = .ok (.bipush (-3), 2) := by decide +kernel
theorem dMD_feed_15 : decode cMD_feed 15 = .ok (.ireturn, 1) := by decide +kernel
theorem dMD_feed_16 : decode cMD_feed 16 = .ok (.aload_n 0, 1) := by decide +kernel
theorem dMD_feed_17 : decode cMD_feed 17 = .ok (.iload_n 1, 1) := by decide +kernel
theorem dMD_feed_18 : decode cMD_feed 18 = .ok (.invokevirtual 29, 3) := by decide +kernel
theorem dMD_feed_21 : decode cMD_feed 21 = .ok (.aload_n 0, 1) := by decide +kernel
theorem dMD_feed_22 : decode cMD_feed 22 = .ok (.iload_n 2, 1) := by decide +kernel
theorem dMD_feed_23 : decode cMD_feed 23 = .ok (.invokevirtual 29, 3) := by decide +kernel
theorem dMD_feed_26 : decode cMD_feed 26 = .ok (.aload_n 0, 1) := by decide +kernel
theorem dMD_feed_27 : decode cMD_feed 27 = .ok (.iload_n 3, 1) := by decide +kernel
theorem dMD_feed_28 : decode cMD_feed 28 = .ok (.invokevirtual 29, 3) := by decide +kernel
theorem dMD_feed_31 : decode cMD_feed 31 = .ok (.aload_n 0, 1) := by decide +kernel
theorem dMD_feed_32 : decode cMD_feed 32 = .ok (.iload 4, 2) := by decide +kernel
theorem dMD_feed_34 : decode cMD_feed 34 = .ok (.invokevirtual 29, 3) := by decide +kernel
theorem dMD_feed_37 : decode cMD_feed 37 = .ok (.aload_n 0, 1) := by decide +kernel
theorem dMD_feed_38 : decode cMD_feed 38 = .ok (.iload 5, 2) := by decide +kernel
theorem dMD_feed_40 : decode cMD_feed 40 = .ok (.invokevirtual 29, 3) := by decide +kernel
theorem dMD_feed_43 : decode cMD_feed 43 = .ok (.aload_n 0, 1) := by decide +kernel
theorem dMD_feed_44 : decode cMD_feed 44 = .ok (.getfield 25, 3) := by decide +kernel
theorem dMD_feed_47 : decode cMD_feed 47 = .ok (.ireturn, 1) := by decide +kernel
theorem dMD_end_0 : decode cMD_end 0 = .ok (.iload_n 1, 1) := by decide +kernel
theorem dMD_end_1 : decode cMD_end 1 = .ok (.ifCond .lt 11, 3) := by decide +kernel
theorem dMD_end_4 : decode cMD_end 4 = .ok (.iload_n 1, 1) := by decide +kernel
theorem dMD_end_5 : decode cMD_end 5 = .ok (.aload_n 0, 1) := by decide +kernel
theorem dMD_end_6 : decode cMD_end 6 = .ok (.getfield 25, 3) := by decide +kernel
theorem dMD_end_9 : decode cMD_end 9 = .ok (.if_icmp .le 5, 3) := by decide +kernel
theorem dMD_end_12 : decode cMD_end 12 = .ok (.iconst (-1), 1) := by decide +kernel
theorem dMD_end_13 : decode cMD_end 13 = .ok (.ireturn, 1) := by decide +kernel
theorem dMD_end_14 : decode cMD_end 14 = .ok (.aload_n 0, 1) := by decide +kernel
theorem dMD_end_15 : decode cMD_end 15 = .ok (.iload_n 1, 1) := by decide +kernel
theorem dMD_end_16 : decode cMD_end 16 = .ok (.putfield 25, 3) := by decide +kernel
theorem dMD_end_19 : decode cMD_end 19 = .ok (.iload_n 1, 1) := by decide +kernel
theorem dMD_end_20 : decode cMD_end 20 = .ok (.ireturn, 1) := by decide +kernel
theorem dMD_readWords_0 : decode cMD_readWords 0 = .ok (.aload_n 0, 1) := by decide +kernel
theorem dMD_readWords_1 : decode cMD_readWords 1 = .ok (.iconst 0, 1) := by decide +kernel
theorem dMD_readWords_2 : decode cMD_readWords 2 = .ok (.putfield 33, 3) := by decide +kernel
theorem dMD_readWords_5 : decode cMD_readWords 5 = .ok (.aload_n 0, 1) := by decide +kernel
theorem dMD_readWords_6 : decode cMD_readWords 6 = .ok (.iconst 0, 1) := by decide +kernel
theorem dMD_readWords_7 : decode cMD_readWords 7 = .ok (.putfield 36, 3) := by decide +kernel
theorem dMD_readWords_10 : decode cMD_readWords 10 = .ok (.iconst 0, 1) := by decide +kernel
theorem dMD_readWords_11 : decode cMD_readWords 11 = .ok (.istore_n 1, 1) := by decide +kernel
theorem dMD_readWords_12 : decode cMD_readWords 12 = .ok (.iload_n 1, 1) := by decide +kernel
theorem dMD_readWords_13 : decode cMD_readWords 13 = .ok (.aload_n 0, 1) := by decide +kernel
theorem dMD_readWords_14 : decode cMD_readWords 14 = .ok (.getfield 25, 3) := by decide +kernel
theorem dMD_readWords_17 : decode cMD_readWords 17 = .ok (.if_icmp .ge 84, 3) := by decide +kernel
theorem dMD_readWords_20 : decode cMD_readWords 20 = .ok (.aload_n 0, 1) := by decide +kernel
theorem dMD_readWords_21 : decode cMD_readWords 21 = .ok (.getfield 9, 3) := by decide +kernel
theorem dMD_readWords_24 : decode cMD_readWords 24 = .ok (.iload_n 1, 1) := by decide +kernel
theorem dMD_readWords_25 : decode cMD_readWords 25 = .ok (.caload, 1) := by decide +kernel
theorem dMD_readWords_26 : decode cMD_readWords 26 = .ok (.bipush 32, 2) := by decide +kernel
theorem dMD_readWords_28 : decode cMD_readWords 28 = .ok (.if_icmp .ne 9, 3) := by decide +kernel
theorem dMD_readWords_31 : decode cMD_readWords 31 = .ok (.iinc 1 1, 3) := by decide +kernel
theorem dMD_readWords_34 : decode cMD_readWords 34 = .ok (.goto (-22), 3) := by decide +kernel
theorem dMD_readWords_37 : decode cMD_readWords 37 = .ok (.iload_n 1, 1) := by decide +kernel
theorem dMD_readWords_38 : decode cMD_readWords 38 = .ok (.istore_n 2, 1) := by decide +kernel
theorem dMD_readWords_39 : decode cMD_readWords 39 = .ok (.iload_n 1, 1) := by decide +kernel
theorem dMD_readWords_40 : decode cMD_readWords 40 = .ok (.aload_n 0, 1) := by decide +kernel
theorem dMD_readWords_41 : decode cMD_readWords 41 = .ok (.getfield 25, 3) := by decide +kernel
theorem dMD_readWords_44 : decode cMD_readWords 44 = .ok (.if_icmp .ge 20, 3) := by decide +kernel
theorem dMD_readWords_47 : decode cMD_readWords 47 = .ok (.aload_n 0, 1) := by decide +kernel
theorem dMD_readWords_48 : decode cMD_readWords 48 = .ok (.getfield 9, 3) := by decide +kernel
theorem dMD_readWords_51 : decode cMD_readWords 51 = .ok (.iload_n 1, 1) := by decide +kernel
theorem dMD_readWords_52 : decode cMD_readWords 52 = .ok (.caload, 1) := by decide +kernel
theorem dMD_readWords_53 : decode cMD_readWords 53 = .ok (.bipush 32, 2) := by decide +kernel
theorem dMD_readWords_55 : decode cMD_readWords 55 = .ok (.if_icmp .eq 9, 3) := by decide +kernel
theorem dMD_readWords_58 : decode cMD_readWords 58 = .ok (.iinc 1 1, 3) := by decide +kernel
theorem dMD_readWords_61 : decode cMD_readWords 61 = .ok (.goto (-22), 3) := by decide +kernel
theorem dMD_readWords_64 : decode cMD_readWords 64 = .ok (.aload_n 0, 1) := by decide +kernel
theorem dMD_readWords_65 : decode cMD_readWords 65 = .ok (.getfield 15, 3) := by decide +kernel
theorem dMD_readWords_68 : decode cMD_readWords 68 = .ok (.aload_n 0, 1) := by decide +kernel
theorem dMD_readWords_69 : decode cMD_readWords 69 = .ok (.getfield 33, 3) := by decide +kernel
theorem dMD_readWords_72 : decode cMD_readWords 72 = .ok (.new 13, 3) := by decide +kernel
theorem dMD_readWords_75 : decode cMD_readWords 75 = .ok (.dup, 1) := by decide +kernel
theorem dMD_readWords_76 : decode cMD_readWords 76 = .ok (.aload_n 0, 1) := by decide +kernel
theorem dMD_readWords_77 : decode cMD_readWords 77 = .ok (.getfield 9, 3) := by decide +kernel
theorem dMD_readWords_80 : decode cMD_readWords 80 = .ok (.iload_n 2, 1) := by decide +kernel
theorem dMD_readWords_81 : decode cMD_readWords 81 = .ok (.iload_n 1, 1) := by decide +kernel
theorem dMD_readWords_82 : decode cMD_readWords 82 = .ok (.iload_n 2, 1) := by decide +kernel
theorem dMD_readWords_83 : decode cMD_readWords 83 = .ok (.isub, 1) := by decide +kernel
theorem dMD_readWords_84 : decode cMD_readWords 84 = .ok (.invokespecial 39, 3) := by decide +kernel
theorem dMD_readWords_87 : decode cMD_readWords 87 = .ok (.aastore, 1) := by decide +kernel
theorem dMD_readWords_88 : decode cMD_readWords 88 = .ok (.aload_n 0, 1) := by decide +kernel
theorem dMD_readWords_89 : decode cMD_readWords 89 = .ok (.dup, 1) := by decide +kernel
theorem dMD_readWords_90 : decode cMD_readWords 90 = .ok (.getfield 33, 3) := by decide +kernel
theorem dMD_readWords_93 : decode cMD_readWords 93 = .ok (.iconst 1, 1) := by decide +kernel
theorem dMD_readWords_94 : decode cMD_readWords 94 = .ok (.iadd, 1) := by decide +kernel
theorem dMD_readWords_95 : decode cMD_readWords 95 = .ok (.putfield 33, 3) := by decide +kernel
theorem dMD_readWords_98 : decode cMD_readWords 98 = .ok (.goto (-86), 3) := by decide +kernel
theorem dMD_readWords_101 : decode cMD_readWords 101 = .ok (.aload_n 0, 1) := by decide +kernel
theorem dMD_readWords_102 : decode cMD_readWords 102 = .ok (.iconst 0, 1) := by decide +kernel
theorem dMD_readWords_103 : decode cMD_readWords 103 = .ok (.putfield 25, 3) := by decide +kernel
theorem dMD_readWords_106 : decode cMD_readWords 106 = .ok (.return_, 1) := by decide +kernel
theorem dMD_here_0 : decode cMD_here 0 = .ok (.aload_n 0, 1) := by decide +kernel
theorem dMD_here_1 : decode cMD_here 1 = .ok (.getfield 36, 3) := by decide +kernel
theorem dMD_here_4 : decode cMD_here 4 = .ok (.aload_n 0, 1) := by decide +kernel
theorem dMD_here_5 : decode cMD_here 5 = .ok (.getfield 33, 3) := by decide +kernel
theorem dMD_here_8 : decode cMD_here 8 = .ok (.if_icmp .ge 15, 3) := by decide +kernel
theorem dMD_here_11 : decode cMD_here 11 = .ok (.aload_n 0, 1) := by decide +kernel
theorem dMD_here_12 : decode cMD_here 12 = .ok (.getfield 15, 3) := by decide +kernel
theorem dMD_here_15 : decode cMD_here 15 = .ok (.aload_n 0, 1) := by decide +kernel
theorem dMD_here_16 : decode cMD_here 16 = .ok (.getfield 36, 3) := by decide +kernel
theorem dMD_here_19 : decode cMD_here 19 = .ok (.aaload, 1) := by decide +kernel
theorem dMD_here_20 : decode cMD_here 20 = .ok (.goto 5, 3) := by decide +kernel
theorem dMD_here_23 : decode cMD_here 23 = .ok (.ldc 42, 2) := by decide +kernel
theorem dMD_here_25 : decode cMD_here 25 = .ok (.areturn, 1) := by decide +kernel
theorem dMD_digit_0 : decode cMD_digit 0 = .ok (.iload_n 0, 1) := by decide +kernel
theorem dMD_digit_1 : decode cMD_digit 1 = .ok (.bipush 48, 2) := by decide +kernel
theorem dMD_digit_3 : decode cMD_digit 3 = .ok (.if_icmp .lt 13, 3) := by decide +kernel
theorem dMD_digit_6 : decode cMD_digit 6 = .ok (.iload_n 0, 1) := by decide +kernel
theorem dMD_digit_7 : decode cMD_digit 7 = .ok (.bipush 57, 2) := by decide +kernel
theorem dMD_digit_9 : decode cMD_digit 9 = .ok (.if_icmp .gt 7, 3) := by decide +kernel
theorem dMD_digit_12 : decode cMD_digit 12 = .ok (.iconst 1, 1) := by decide +kernel
theorem dMD_digit_13 : decode cMD_digit 13 = .ok (.goto 4, 3) := by decide +kernel
theorem dMD_digit_16 : decode cMD_digit 16 = .ok (.iconst 0, 1) := by decide +kernel
theorem dMD_digit_17 : decode cMD_digit 17 = .ok (.ireturn, 1) := by decide +kernel
theorem dMD_letter_0 : decode cMD_letter 0 = .ok (.iload_n 0, 1) := by decide +kernel
theorem dMD_letter_1 : decode cMD_letter 1 = .ok (.bipush 97, 2) := by decide +kernel
theorem dMD_letter_3 : decode cMD_letter 3 = .ok (.if_icmp .lt 9, 3) := by decide +kernel
theorem dMD_letter_6 : decode cMD_letter 6 = .ok (.iload_n 0, 1) := by decide +kernel
theorem dMD_letter_7 : decode cMD_letter 7 = .ok (.bipush 122, 2) := by decide +kernel
theorem dMD_letter_9 : decode cMD_letter 9 = .ok (.if_icmp .le 15, 3) := by decide +kernel
theorem dMD_letter_12 : decode cMD_letter 12 = .ok (.iload_n 0, 1) := by decide +kernel
theorem dMD_letter_13 : decode cMD_letter 13 = .ok (.bipush 65, 2) := by decide +kernel
theorem dMD_letter_15 : decode cMD_letter 15 = .ok (.if_icmp .lt 13, 3) := by decide +kernel
theorem dMD_letter_18 : decode cMD_letter 18 = .ok (.iload_n 0, 1) := by decide +kernel
theorem dMD_letter_19 : decode cMD_letter 19 = .ok (.bipush 90, 2) := by decide +kernel
theorem dMD_letter_21 : decode cMD_letter 21 = .ok (.if_icmp .gt 7, 3) := by decide +kernel
theorem dMD_letter_24 : decode cMD_letter 24 = .ok (.iconst 1, 1) := by decide +kernel
theorem dMD_letter_25 : decode cMD_letter 25 = .ok (.goto 4, 3) := by decide +kernel
theorem dMD_letter_28 : decode cMD_letter 28 = .ok (.iconst 0, 1) := by decide +kernel
theorem dMD_letter_29 : decode cMD_letter 29 = .ok (.ireturn, 1) := by decide +kernel
theorem dMD_digits_0 : decode cMD_digits 0 = .ok (.iconst 0, 1) := by decide +kernel
theorem dMD_digits_1 : decode cMD_digits 1 = .ok (.istore_n 1, 1) := by decide +kernel
theorem dMD_digits_2 : decode cMD_digits 2 = .ok (.iload_n 1, 1) := by decide +kernel
theorem dMD_digits_3 : decode cMD_digits 3 = .ok (.aload_n 0, 1) := by decide +kernel
theorem dMD_digits_4 : decode cMD_digits 4 = .ok (.invokevirtual 44, 3) := by decide +kernel
theorem dMD_digits_7 : decode cMD_digits 7 = .ok (.if_icmp .ge 22, 3) := by decide +kernel
theorem dMD_digits_10 : decode cMD_digits 10 = .ok (.aload_n 0, 1) := by decide +kernel
theorem dMD_digits_11 : decode cMD_digits 11 = .ok (.iload_n 1, 1) := by decide +kernel
theorem dMD_digits_12 : decode cMD_digits 12 = .ok (.invokevirtual 48, 3) := by decide +kernel
theorem dMD_digits_15 : decode cMD_digits 15 = .ok (.invokestatic 52, 3) := by decide +kernel
theorem dMD_digits_18 : decode cMD_digits 18 = .ok (.ifCond .ne 5, 3) := by decide +kernel
theorem dMD_digits_21 : decode cMD_digits 21 = .ok (.iconst 0, 1) := by decide +kernel
theorem dMD_digits_22 : decode cMD_digits 22 = .ok (.ireturn, 1) := by decide +kernel
theorem dMD_digits_23 : decode cMD_digits 23 = .ok (.iinc 1 1, 3) := by decide +kernel
theorem dMD_digits_26 : decode cMD_digits 26 = .ok (.goto (-24), 3) := by decide +kernel
theorem dMD_digits_29 : decode cMD_digits 29 = .ok (.aload_n 0, 1) := by decide +kernel
theorem dMD_digits_30 : decode cMD_digits 30 = .ok (.invokevirtual 44, 3) := by decide +kernel
theorem dMD_digits_33 : decode cMD_digits 33 = .ok (.ifCond .le 7, 3) := by decide +kernel
theorem dMD_digits_36 : decode cMD_digits 36 = .ok (.iconst 1, 1) := by decide +kernel
theorem dMD_digits_37 : decode cMD_digits 37 = .ok (.goto 4, 3) := by decide +kernel
theorem dMD_digits_40 : decode cMD_digits 40 = .ok (.iconst 0, 1) := by decide +kernel
theorem dMD_digits_41 : decode cMD_digits 41 = .ok (.ireturn, 1) := by decide +kernel
theorem dMD_number_0 : decode cMD_number 0 = .ok (.aload_n 0, 1) := by decide +kernel
theorem dMD_number_1 : decode cMD_number 1 = .ok (.invokestatic 56, 3) := by decide +kernel
theorem dMD_number_4 : decode cMD_number 4 = .ok (.ifCond .eq 29, 3) := by decide +kernel
theorem dMD_number_7 : decode cMD_number 7 = .ok (.aload_n 0, 1) := by decide +kernel
theorem dMD_number_8 : decode cMD_number 8 = .ok (.invokevirtual 44, 3) := by decide +kernel
theorem dMD_number_11 : decode cMD_number 11 = .ok (.iload_n 1, 1) := by decide +kernel
theorem dMD_number_12 : decode cMD_number 12 = .ok (.if_icmp .gt 21, 3) := by decide +kernel
theorem dMD_number_15 : decode cMD_number 15 = .ok (.aload_n 0, 1) := by decide +kernel
theorem dMD_number_16 : decode cMD_number 16 = .ok (.invokevirtual 44, 3) := by decide +kernel
theorem dMD_number_19 : decode cMD_number 19 = .ok (.iconst 1, 1) := by decide +kernel
theorem dMD_number_20 : decode cMD_number 20 = .ok (.if_icmp .le 15, 3) := by decide +kernel
theorem dMD_number_23 : decode cMD_number 23 = .ok (.aload_n 0, 1) := by decide +kernel
theorem dMD_number_24 : decode cMD_number 24 = .ok (.iconst 0, 1) := by decide +kernel
theorem dMD_number_25 : decode cMD_number 25 = .ok (.invokevirtual 48, 3) := by decide +kernel
theorem dMD_number_28 : decode cMD_number 28 = .ok (.bipush 48, 2) := by decide +kernel
theorem dMD_number_30 : decode cMD_number 30 = .ok (.if_icmp .ne 5, 3) := by decide +kernel
theorem dMD_number_33 : decode cMD_number 33 = .ok (.iconst (-1), 1) := by decide +kernel
theorem dMD_number_34 : decode cMD_number 34 = .ok (.ireturn, 1) := by decide +kernel
theorem dMD_number_35 : decode cMD_number 35 = .ok (.iconst 0, 1) := by decide +kernel
theorem dMD_number_36 : decode cMD_number 36 = .ok (.istore_n 2, 1) := by decide +kernel
theorem dMD_number_37 : decode cMD_number 37 = .ok (.iconst 0, 1) := by decide +kernel
theorem dMD_number_38 : decode cMD_number 38 = .ok (.istore_n 3, 1) := by decide +kernel
theorem dMD_number_39 : decode cMD_number 39 = .ok (.iload_n 3, 1) := by decide +kernel
theorem dMD_number_40 : decode cMD_number 40 = .ok (.aload_n 0, 1) := by decide +kernel
theorem dMD_number_41 : decode cMD_number 41 = .ok (.invokevirtual 44, 3) := by decide +kernel
theorem dMD_number_44 : decode cMD_number 44 = .ok (.if_icmp .ge 23, 3) := by decide +kernel
theorem dMD_number_47 : decode cMD_number 47 = .ok (.bipush 10, 2) := by decide +kernel
theorem dMD_number_49 : decode cMD_number 49 = .ok (.iload_n 2, 1) := by decide +kernel
theorem dMD_number_50 : decode cMD_number 50 = .ok (.imul, 1) := by decide +kernel
theorem dMD_number_51 : decode cMD_number 51 = .ok (.aload_n 0, 1) := by decide +kernel
theorem dMD_number_52 : decode cMD_number 52 = .ok (.iload_n 3, 1) := by decide +kernel
theorem dMD_number_53 : decode cMD_number 53 = .ok (.invokevirtual 48, 3) := by decide +kernel
theorem dMD_number_56 : decode cMD_number 56 = .ok (.iadd, 1) := by decide +kernel
theorem dMD_number_57 : decode cMD_number 57 = .ok (.bipush 48, 2) := by decide +kernel
theorem dMD_number_59 : decode cMD_number 59 = .ok (.isub, 1) := by decide +kernel
theorem dMD_number_60 : decode cMD_number 60 = .ok (.istore_n 2, 1) := by decide +kernel
theorem dMD_number_61 : decode cMD_number 61 = .ok (.iinc 3 1, 3) := by decide +kernel
theorem dMD_number_64 : decode cMD_number 64 = .ok (.goto (-25), 3) := by decide +kernel
theorem dMD_number_67 : decode cMD_number 67 = .ok (.iload_n 2, 1) := by decide +kernel
theorem dMD_number_68 : decode cMD_number 68 = .ok (.ireturn, 1) := by decide +kernel
theorem dMD_version_0 : decode cMD_version 0 = .ok (.new 19, 3) := by decide +kernel
theorem dMD_version_3 : decode cMD_version 3 = .ok (.dup, 1) := by decide +kernel
theorem dMD_version_4 : decode cMD_version 4 = .ok (.invokespecial 60, 3) := by decide +kernel
theorem dMD_version_7 : decode cMD_version 7 = .ok (.astore_n 2, 1) := by decide +kernel
theorem dMD_version_8 : decode cMD_version 8 = .ok (.iload_n 1, 1) := by decide +kernel
theorem dMD_version_9 : decode cMD_version 9 = .ok (.istore_n 3, 1) := by decide +kernel
theorem dMD_version_10 : decode cMD_version 10 = .ok (.iconst 0, 1) := by decide +kernel
theorem dMD_version_11 : decode cMD_version 11 = .ok (.istore 4, 2) := by decide +kernel
theorem dMD_version_13 : decode cMD_version 13 = .ok (.iload 4, 2) := by decide +kernel
theorem dMD_version_15 : decode cMD_version 15 = .ok (.iconst 3, 1) := by decide +kernel
theorem dMD_version_16 : decode cMD_version 16 = .ok (.if_icmp .ge 105, 3) := by decide +kernel
theorem dMD_version_19 : decode cMD_version 19 = .ok (.iload_n 3, 1) := by decide +kernel
theorem dMD_version_20 : decode cMD_version 20 = .ok (.istore 5, 2) := by decide +kernel
theorem dMD_version_22 : decode cMD_version 22 = .ok (.iload 5, 2) := by decide +kernel
theorem dMD_version_24 : decode cMD_version 24 = .ok (.aload_n 0, 1) := by decide +kernel
theorem dMD_version_25 : decode cMD_version 25 = .ok (.invokevirtual 44, 3) := by decide +kernel
theorem dMD_version_28 : decode cMD_version 28 = .ok (.if_icmp .ge 21, 3) := by decide +kernel
theorem dMD_version_31 : decode cMD_version 31 = .ok (.aload_n 0, 1) := by decide +kernel
theorem dMD_version_32 : decode cMD_version 32 = .ok (.iload 5, 2) := by decide +kernel
theorem dMD_version_34 : decode cMD_version 34 = .ok (.invokevirtual 48, 3) := by decide +kernel
theorem dMD_version_37 : decode cMD_version 37 = .ok (.invokestatic 52, 3) := by decide +kernel
theorem dMD_version_40 : decode cMD_version 40 = .ok (.ifCond .eq 9, 3) := by decide +kernel
theorem dMD_version_43 : decode cMD_version 43 = .ok (.iinc 5 1, 3) := by decide +kernel
theorem dMD_version_46 : decode cMD_version 46 = .ok (.goto (-24), 3) := by decide +kernel
theorem dMD_version_49 : decode cMD_version 49 = .ok (.aload_n 2, 1) := by decide +kernel
theorem dMD_version_50 : decode cMD_version 50 = .ok (.getfield 61, 3) := by decide +kernel
theorem dMD_version_53 : decode cMD_version 53 = .ok (.iload 4, 2) := by decide +kernel
theorem dMD_version_55 : decode cMD_version 55 = .ok (.aload_n 0, 1) := by decide +kernel
theorem dMD_version_56 : decode cMD_version 56 = .ok (.iload_n 3, 1) := by decide +kernel
theorem dMD_version_57 : decode cMD_version 57 = .ok (.iload 5, 2) := by decide +kernel
theorem dMD_version_59 : decode cMD_version 59 = .ok (.invokevirtual 65, 3) := by decide +kernel
theorem dMD_version_62 : decode cMD_version 62 = .ok (.bipush 9, 2) := by decide +kernel
theorem dMD_version_64 : decode cMD_version 64 = .ok (.invokestatic 69, 3) := by decide +kernel
theorem dMD_version_67 : decode cMD_version 67 = .ok (.iastore, 1) := by decide +kernel
theorem dMD_version_68 : decode cMD_version 68 = .ok (.aload_n 2, 1) := by decide +kernel
theorem dMD_version_69 : decode cMD_version 69 = .ok (.getfield 61, 3) := by decide +kernel
theorem dMD_version_72 : decode cMD_version 72 = .ok (.iload 4, 2) := by decide +kernel
theorem dMD_version_74 : decode cMD_version 74 = .ok (.iaload, 1) := by decide +kernel
theorem dMD_version_75 : decode cMD_version 75 = .ok (.ifCond .ge 5, 3) := by decide +kernel
theorem dMD_version_78 : decode cMD_version 78 = .ok (.aconst_null, 1) := by decide +kernel
theorem dMD_version_79 : decode cMD_version 79 = .ok (.areturn, 1) := by decide +kernel
theorem dMD_version_80 : decode cMD_version 80 = .ok (.iload 5, 2) := by decide +kernel
theorem dMD_version_82 : decode cMD_version 82 = .ok (.istore_n 3, 1) := by decide +kernel
theorem dMD_version_83 : decode cMD_version 83 = .ok (.iload 4, 2) := by decide +kernel
theorem dMD_version_85 : decode cMD_version 85 = .ok (.iconst 2, 1) := by decide +kernel
theorem dMD_version_86 : decode cMD_version 86 = .ok (.if_icmp .ne 6, 3) := by decide +kernel
theorem dMD_version_89 : decode cMD_version 89 = .ok (.goto 32, 3) := by decide +kernel
theorem dMD_version_92 : decode cMD_version 92 = .ok (.iload_n 3, 1) := by decide +kernel
theorem dMD_version_93 : decode cMD_version 93 = .ok (.aload_n 0, 1) := by decide +kernel
theorem dMD_version_94 : decode cMD_version 94 = .ok (.invokevirtual 44, 3) := by decide +kernel
theorem dMD_version_97 : decode cMD_version 97 = .ok (.if_icmp .ge 13, 3) := by decide +kernel
theorem dMD_version_100 : decode cMD_version 100 = .ok (.aload_n 0, 1) := by decide +kernel
theorem dMD_version_101 : decode cMD_version 101 = .ok (.iload_n 3, 1) := by decide +kernel
theorem dMD_version_102 : decode cMD_version 102 = .ok (.invokevirtual 48, 3) := by decide +kernel
theorem dMD_version_105 : decode cMD_version 105 = .ok (.bipush 46, 2) := by decide +kernel
theorem dMD_version_107 : decode cMD_version 107 = .ok (.if_icmp .eq 5, 3) := by decide +kernel
theorem dMD_version_110 : decode cMD_version 110 = .ok (.aconst_null, 1) := by decide +kernel
theorem dMD_version_111 : decode cMD_version 111 = .ok (.areturn, 1) := by decide +kernel
theorem dMD_version_112 : decode cMD_version 112 = .ok (.iinc 3 1, 3) := by decide +kernel
theorem dMD_version_115 : decode cMD_version 115 = .ok (.iinc 4 1, 3) := by decide +kernel
theorem dMD_version_118 : decode cMD_version 118 = .ok (.goto (-105), 3) := by decide +kernel
theorem dMD_version_121 : decode cMD_version 121 = .ok (.iload_n 3, 1) := by decide +kernel
theorem dMD_version_122 : decode cMD_version 122 = .ok (.aload_n 0, 1) := by decide +kernel
theorem dMD_version_123 : decode cMD_version 123 = .ok (.invokevirtual 44, 3) := by decide +kernel
theorem dMD_version_126 : decode cMD_version 126 = .ok (.if_icmp .ne 5, 3) := by decide +kernel
theorem dMD_version_129 : decode cMD_version 129 = .ok (.aload_n 2, 1) := by decide +kernel
theorem dMD_version_130 : decode cMD_version 130 = .ok (.areturn, 1) := by decide +kernel
theorem dMD_version_131 : decode cMD_version 131 = .ok (.aload_n 0, 1) := by decide +kernel
theorem dMD_version_132 : decode cMD_version 132 = .ok (.iload_n 3, 1) := by decide +kernel
theorem dMD_version_133 : decode cMD_version 133 = .ok (.invokevirtual 48, 3) := by decide +kernel
theorem dMD_version_136 : decode cMD_version 136 = .ok (.bipush 45, 2) := by decide +kernel
theorem dMD_version_138 : decode cMD_version 138 = .ok (.if_icmp .eq 5, 3) := by decide +kernel
theorem dMD_version_141 : decode cMD_version 141 = .ok (.aconst_null, 1) := by decide +kernel
theorem dMD_version_142 : decode cMD_version 142 = .ok (.areturn, 1) := by decide +kernel
theorem dMD_version_143 : decode cMD_version 143 = .ok (.iload_n 3, 1) := by decide +kernel
theorem dMD_version_144 : decode cMD_version 144 = .ok (.aload_n 0, 1) := by decide +kernel
theorem dMD_version_145 : decode cMD_version 145 = .ok (.invokevirtual 44, 3) := by decide +kernel
theorem dMD_version_148 : decode cMD_version 148 = .ok (.if_icmp .ge 162, 3) := by decide +kernel
theorem dMD_version_151 : decode cMD_version 151 = .ok (.iinc 3 1, 3) := by decide +kernel
theorem dMD_version_154 : decode cMD_version 154 = .ok (.iload_n 3, 1) := by decide +kernel
theorem dMD_version_155 : decode cMD_version 155 = .ok (.istore 4, 2) := by decide +kernel
theorem dMD_version_157 : decode cMD_version 157 = .ok (.iload 4, 2) := by decide +kernel
theorem dMD_version_159 : decode cMD_version 159 = .ok (.aload_n 0, 1) := by decide +kernel
theorem dMD_version_160 : decode cMD_version 160 = .ok (.invokevirtual 44, 3) := by decide +kernel
theorem dMD_version_163 : decode cMD_version 163 = .ok (.if_icmp .ge 44, 3) := by decide +kernel
theorem dMD_version_166 : decode cMD_version 166 = .ok (.aload_n 0, 1) := by decide +kernel
theorem dMD_version_167 : decode cMD_version 167 = .ok (.iload 4, 2) := by decide +kernel
theorem dMD_version_169 : decode cMD_version 169 = .ok (.invokevirtual 48, 3) := by decide +kernel
theorem dMD_version_172 : decode cMD_version 172 = .ok (.invokestatic 72, 3) := by decide +kernel
theorem dMD_version_175 : decode cMD_version 175 = .ok (.ifCond .ne 26, 3) := by decide +kernel
theorem dMD_version_178 : decode cMD_version 178 = .ok (.aload_n 0, 1) := by decide +kernel
theorem dMD_version_179 : decode cMD_version 179 = .ok (.iload 4, 2) := by decide +kernel
theorem dMD_version_181 : decode cMD_version 181 = .ok (.invokevirtual 48, 3) := by decide +kernel
theorem dMD_version_184 : decode cMD_version 184 = .ok (.invokestatic 52, 3) := by decide +kernel
theorem dMD_version_187 : decode cMD_version 187 = .ok (.ifCond .ne 14, 3) := by decide +kernel
theorem dMD_version_190 : decode cMD_version 190 = .ok (.aload_n 0, 1) := by decide +kernel
theorem dMD_version_191 : decode cMD_version 191 = .ok (.iload 4, 2) := by decide +kernel
theorem dMD_version_193 : decode cMD_version 193 = .ok (.invokevirtual 48, 3) := by decide +kernel
theorem dMD_version_196 : decode cMD_version 196 = .ok (.bipush 45, 2) := by decide +kernel
theorem dMD_version_198 : decode cMD_version 198 = .ok (.if_icmp .ne 9, 3) := by decide +kernel
theorem dMD_version_201 : decode cMD_version 201 = .ok (.iinc 4 1, 3) := by decide +kernel
theorem dMD_version_204 : decode cMD_version 204 = .ok (.goto (-47), 3) := by decide +kernel
theorem dMD_version_207 : decode cMD_version 207 = .ok (.aload_n 0, 1) := by decide +kernel
theorem dMD_version_208 : decode cMD_version 208 = .ok (.iload_n 3, 1) := by decide +kernel
theorem dMD_version_209 : decode cMD_version 209 = .ok (.iload 4, 2) := by decide +kernel
theorem dMD_version_211 : decode cMD_version 211 = .ok (.invokevirtual 65, 3) := by decide +kernel
theorem dMD_version_214 : decode cMD_version 214 = .ok (.astore 5, 2) := by decide +kernel
theorem dMD_version_216 : decode cMD_version 216 = .ok (.aload 5, 2) := by decide +kernel
theorem dMD_version_218 : decode cMD_version 218 = .ok (.invokevirtual 44, 3) := by decide +kernel
theorem dMD_version_221 : decode cMD_version 221 = .ok (.iconst 1, 1) := by decide +kernel
theorem dMD_version_222 : decode cMD_version 222 = .ok (.if_icmp .lt 39, 3) := by decide +kernel
theorem dMD_version_225 : decode cMD_version 225 = .ok (.aload 5, 2) := by decide +kernel
theorem dMD_version_227 : decode cMD_version 227 = .ok (.invokevirtual 44, 3) := by decide +kernel
theorem dMD_version_230 : decode cMD_version 230 = .ok (.bipush 8, 2) := by decide +kernel
theorem dMD_version_232 : decode cMD_version 232 = .ok (.if_icmp .gt 29, 3) := by decide +kernel
theorem dMD_version_235 : decode cMD_version 235 = .ok (.aload_n 2, 1) := by decide +kernel
theorem dMD_version_236 : decode cMD_version 236 = .ok (.getfield 75, 3) := by decide +kernel
theorem dMD_version_239 : decode cMD_version 239 = .ok (.iconst 4, 1) := by decide +kernel
theorem dMD_version_240 : decode cMD_version 240 = .ok (.if_icmp .eq 21, 3) := by decide +kernel
theorem dMD_version_243 : decode cMD_version 243 = .ok (.aload 5, 2) := by decide +kernel
theorem dMD_version_245 : decode cMD_version 245 = .ok (.invokestatic 56, 3) := by decide +kernel
theorem dMD_version_248 : decode cMD_version 248 = .ok (.ifCond .eq 15, 3) := by decide +kernel
theorem dMD_version_251 : decode cMD_version 251 = .ok (.aload 5, 2) := by decide +kernel
theorem dMD_version_253 : decode cMD_version 253 = .ok (.bipush 8, 2) := by decide +kernel
theorem dMD_version_255 : decode cMD_version 255 = .ok (.invokestatic 69, 3) := by decide +kernel
theorem dMD_version_258 : decode cMD_version 258 = .ok (.ifCond .ge 5, 3) := by decide +kernel
theorem dMD_version_261 : decode cMD_version 261 = .ok (.aconst_null, 1) := by decide +kernel
theorem dMD_version_262 : decode cMD_version 262 = .ok (.areturn, 1) := by decide +kernel
theorem dMD_version_263 : decode cMD_version 263 = .ok (.aload_n 2, 1) := by decide +kernel
theorem dMD_version_264 : decode cMD_version 264 = .ok (.getfield 78, 3) := by decide +kernel
theorem dMD_version_267 : decode cMD_version 267 = .ok (.aload_n 2, 1) := by decide +kernel
theorem dMD_version_268 : decode cMD_version 268 = .ok (.getfield 75, 3) := by decide +kernel
theorem dMD_version_271 : decode cMD_version 271 = .ok (.aload 5, 2) := by decide +kernel
theorem dMD_version_273 : decode cMD_version 273 = .ok (.aastore, 1) := by decide +kernel
theorem dMD_version_274 : decode cMD_version 274 = .ok (.aload_n 2, 1) := by decide +kernel
theorem dMD_version_275 : decode cMD_version 275 = .ok (.dup, 1) := by decide +kernel
theorem dMD_version_276 : decode cMD_version 276 = .ok (.getfield 75, 3) := by decide +kernel
theorem dMD_version_279 : decode cMD_version 279 = .ok (.iconst 1, 1) := by decide +kernel
theorem dMD_version_280 : decode cMD_version 280 = .ok (.iadd, 1) := by decide +kernel
theorem dMD_version_281 : decode cMD_version 281 = .ok (.putfield 75, 3) := by decide +kernel
theorem dMD_version_284 : decode cMD_version 284 = .ok (.iload 4, 2) := by decide +kernel
theorem dMD_version_286 : decode cMD_version 286 = .ok (.istore_n 3, 1) := by decide +kernel
theorem dMD_version_287 : decode cMD_version 287 = .ok (.iload_n 3, 1) := by decide +kernel
theorem dMD_version_288 : decode cMD_version 288 = .ok (.aload_n 0, 1) := by decide +kernel
theorem dMD_version_289 : decode cMD_version 289 = .ok (.invokevirtual 44, 3) := by decide +kernel
theorem dMD_version_292 : decode cMD_version 292 = .ok (.if_icmp .ge 15, 3) := by decide +kernel
theorem dMD_version_295 : decode cMD_version 295 = .ok (.aload_n 0, 1) := by decide +kernel
theorem dMD_version_296 : decode cMD_version 296 = .ok (.iload_n 3, 1) := by decide +kernel
theorem dMD_version_297 : decode cMD_version 297 = .ok (.invokevirtual 48, 3) := by decide +kernel
theorem dMD_version_300 : decode cMD_version 300 = .ok (.bipush 46, 2) := by decide +kernel
theorem dMD_version_302 : decode cMD_version 302 = .ok (.if_icmp .eq 5, 3) := by decide +kernel
theorem dMD_version_305 : decode cMD_version 305 = .ok (.aconst_null, 1) := by decide +kernel
theorem dMD_version_306 : decode cMD_version 306 = .ok (.areturn, 1) := by decide +kernel
theorem dMD_version_307 : decode cMD_version 307 = .ok (.goto (-164), 3) := by decide +kernel
theorem dMD_version_310 : decode cMD_version 310 = .ok (.aload_n 2, 1) := by decide +kernel
theorem dMD_version_311 : decode cMD_version 311 = .ok (.areturn, 1) := by decide +kernel
theorem dMD_mark_0 : decode cMD_mark 0 = .ok (.aload_n 0, 1) := by decide +kernel
theorem dMD_mark_1 : decode cMD_mark 1 = .ok (.invokestatic 56, 3) := by decide +kernel
theorem dMD_mark_4 : decode cMD_mark 4 = .ok (.istore_n 2, 1) := by decide +kernel
theorem dMD_mark_5 : decode cMD_mark 5 = .ok (.aload_n 1, 1) := by decide +kernel
theorem dMD_mark_6 : decode cMD_mark 6 = .ok (.invokestatic 56, 3) := by decide +kernel
theorem dMD_mark_9 : decode cMD_mark 9 = .ok (.istore_n 3, 1) := by decide +kernel
theorem dMD_mark_10 : decode cMD_mark 10 = .ok (.iload_n 2, 1) := by decide +kernel
theorem dMD_mark_11 : decode cMD_mark 11 = .ok (.ifCond .eq 21, 3) := by decide +kernel
theorem dMD_mark_14 : decode cMD_mark 14 = .ok (.iload_n 3, 1) := by decide +kernel
theorem dMD_mark_15 : decode cMD_mark 15 = .ok (.ifCond .eq 17, 3) := by decide +kernel
theorem dMD_mark_18 : decode cMD_mark 18 = .ok (.aload_n 0, 1) := by decide +kernel
theorem dMD_mark_19 : decode cMD_mark 19 = .ok (.bipush 8, 2) := by decide +kernel
theorem dMD_mark_21 : decode cMD_mark 21 = .ok (.invokestatic 69, 3) := by decide +kernel
theorem dMD_mark_24 : decode cMD_mark 24 = .ok (.aload_n 1, 1) := by decide +kernel
theorem dMD_mark_25 : decode cMD_mark 25 = .ok (.bipush 8, 2) := by decide +kernel
theorem dMD_mark_27 : decode cMD_mark 27 = .ok (.invokestatic 69, 3) := by decide +kernel
theorem dMD_mark_30 : decode cMD_mark 30 = .ok (.isub, 1) := by decide +kernel
theorem dMD_mark_31 : decode cMD_mark 31 = .ok (.ireturn, 1) := by decide +kernel
theorem dMD_mark_32 : decode cMD_mark 32 = .ok (.iload_n 2, 1) := by decide +kernel
theorem dMD_mark_33 : decode cMD_mark 33 = .ok (.iload_n 3, 1) := by decide +kernel
theorem dMD_mark_34 : decode cMD_mark 34 = .ok (.if_icmp .eq 13, 3) := by decide +kernel
theorem dMD_mark_37 : decode cMD_mark 37 = .ok (.iload_n 2, 1) := by decide +kernel
theorem dMD_mark_38 : decode cMD_mark 38 = .ok (.ifCond .eq 7, 3) := by decide +kernel
theorem dMD_mark_41 : decode cMD_mark 41 = .ok (.iconst (-1), 1) := by decide +kernel
theorem dMD_mark_42 : decode cMD_mark 42 = .ok (.goto 4, 3) := by decide +kernel
theorem dMD_mark_45 : decode cMD_mark 45 = .ok (.iconst 1, 1) := by decide +kernel
theorem dMD_mark_46 : decode cMD_mark 46 = .ok (.ireturn, 1) := by decide +kernel
theorem dMD_mark_47 : decode cMD_mark 47 = .ok (.iconst 0, 1) := by decide +kernel
theorem dMD_mark_48 : decode cMD_mark 48 = .ok (.istore 4, 2) := by decide +kernel
theorem dMD_mark_50 : decode cMD_mark 50 = .ok (.iload 4, 2) := by decide +kernel
theorem dMD_mark_52 : decode cMD_mark 52 = .ok (.aload_n 0, 1) := by decide +kernel
theorem dMD_mark_53 : decode cMD_mark 53 = .ok (.invokevirtual 44, 3) := by decide +kernel
theorem dMD_mark_56 : decode cMD_mark 56 = .ok (.if_icmp .ge 47, 3) := by decide +kernel
theorem dMD_mark_59 : decode cMD_mark 59 = .ok (.iload 4, 2) := by decide +kernel
theorem dMD_mark_61 : decode cMD_mark 61 = .ok (.aload_n 1, 1) := by decide +kernel
theorem dMD_mark_62 : decode cMD_mark 62 = .ok (.invokevirtual 44, 3) := by decide +kernel
theorem dMD_mark_65 : decode cMD_mark 65 = .ok (.if_icmp .ge 38, 3) := by decide +kernel
theorem dMD_mark_68 : decode cMD_mark 68 = .ok (.aload_n 0, 1) := by decide +kernel
theorem dMD_mark_69 : decode cMD_mark 69 = .ok (.iload 4, 2) := by decide +kernel
theorem dMD_mark_71 : decode cMD_mark 71 = .ok (.invokevirtual 48, 3) := by decide +kernel
theorem dMD_mark_74 : decode cMD_mark 74 = .ok (.aload_n 1, 1) := by decide +kernel
theorem dMD_mark_75 : decode cMD_mark 75 = .ok (.iload 4, 2) := by decide +kernel
theorem dMD_mark_77 : decode cMD_mark 77 = .ok (.invokevirtual 48, 3) := by decide +kernel
theorem dMD_mark_80 : decode cMD_mark 80 = .ok (.if_icmp .eq 17, 3) := by decide +kernel
theorem dMD_mark_83 : decode cMD_mark 83 = .ok (.aload_n 0, 1) := by decide +kernel
theorem dMD_mark_84 : decode cMD_mark 84 = .ok (.iload 4, 2) := by decide +kernel
theorem dMD_mark_86 : decode cMD_mark 86 = .ok (.invokevirtual 48, 3) := by decide +kernel
theorem dMD_mark_89 : decode cMD_mark 89 = .ok (.aload_n 1, 1) := by decide +kernel
theorem dMD_mark_90 : decode cMD_mark 90 = .ok (.iload 4, 2) := by decide +kernel
theorem dMD_mark_92 : decode cMD_mark 92 = .ok (.invokevirtual 48, 3) := by decide +kernel
theorem dMD_mark_95 : decode cMD_mark 95 = .ok (.isub, 1) := by decide +kernel
theorem dMD_mark_96 : decode cMD_mark 96 = .ok (.ireturn, 1) := by decide +kernel
theorem dMD_mark_97 : decode cMD_mark 97 = .ok (.iinc 4 1, 3) := by decide +kernel
theorem dMD_mark_100 : decode cMD_mark 100 = .ok (.goto (-50), 3) := by decide +kernel
theorem dMD_mark_103 : decode cMD_mark 103 = .ok (.aload_n 0, 1) := by decide +kernel
theorem dMD_mark_104 : decode cMD_mark 104 = .ok (.invokevirtual 44, 3) := by decide +kernel
theorem dMD_mark_107 : decode cMD_mark 107 = .ok (.aload_n 1, 1) := by decide +kernel
theorem dMD_mark_108 : decode cMD_mark 108 = .ok (.invokevirtual 44, 3) := by decide +kernel
theorem dMD_mark_111 : decode cMD_mark 111 = .ok (.isub, 1) := by decide +kernel
theorem dMD_mark_112 : decode cMD_mark 112 = .ok (.ireturn, 1) := by decide +kernel
theorem dMD_order_0 : decode cMD_order 0 = .ok (.iconst 0, 1) := by decide +kernel
theorem dMD_order_1 : decode cMD_order 1 = .ok (.istore_n 2, 1) := by decide +kernel
theorem dMD_order_2 : decode cMD_order 2 = .ok (.iload_n 2, 1) := by decide +kernel
theorem dMD_order_3 : decode cMD_order 3 = .ok (.iconst 3, 1) := by decide +kernel
theorem dMD_order_4 : decode cMD_order 4 = .ok (.if_icmp .ge 45, 3) := by decide +kernel
theorem dMD_order_7 : decode cMD_order 7 = .ok (.aload_n 0, 1) := by decide +kernel
theorem dMD_order_8 : decode cMD_order 8 = .ok (.getfield 61, 3) := by decide +kernel
theorem dMD_order_11 : decode cMD_order 11 = .ok (.iload_n 2, 1) := by decide +kernel
theorem dMD_order_12 : decode cMD_order 12 = .ok (.iaload, 1) := by decide +kernel
theorem dMD_order_13 : decode cMD_order 13 = .ok (.aload_n 1, 1) := by decide +kernel
theorem dMD_order_14 : decode cMD_order 14 = .ok (.getfield 61, 3) := by decide +kernel
theorem dMD_order_17 : decode cMD_order 17 = .ok (.iload_n 2, 1) := by decide +kernel
theorem dMD_order_18 : decode cMD_order 18 = .ok (.iaload, 1) := by decide +kernel
theorem dMD_order_19 : decode cMD_order 19 = .ok (.if_icmp .eq 24, 3) := by decide +kernel
theorem dMD_order_22 : decode cMD_order 22 = .ok (.aload_n 0, 1) := by decide +kernel
theorem dMD_order_23 : decode cMD_order 23 = .ok (.getfield 61, 3) := by decide +kernel
theorem dMD_order_26 : decode cMD_order 26 = .ok (.iload_n 2, 1) := by decide +kernel
theorem dMD_order_27 : decode cMD_order 27 = .ok (.iaload, 1) := by decide +kernel
theorem dMD_order_28 : decode cMD_order 28 = .ok (.aload_n 1, 1) := by decide +kernel
theorem dMD_order_29 : decode cMD_order 29 = .ok (.getfield 61, 3) := by decide +kernel
theorem dMD_order_32 : decode cMD_order 32 = .ok (.iload_n 2, 1) := by decide +kernel
theorem dMD_order_33 : decode cMD_order 33 = .ok (.iaload, 1) := by decide +kernel
theorem dMD_order_34 : decode cMD_order 34 = .ok (.if_icmp .ge 7, 3) := by decide +kernel
theorem dMD_order_37 : decode cMD_order 37 = .ok (.iconst (-1), 1) := by decide +kernel
theorem dMD_order_38 : decode cMD_order 38 = .ok (.goto 4, 3) := by decide +kernel
theorem dMD_order_41 : decode cMD_order 41 = .ok (.iconst 1, 1) := by decide +kernel
theorem dMD_order_42 : decode cMD_order 42 = .ok (.ireturn, 1) := by decide +kernel
theorem dMD_order_43 : decode cMD_order 43 = .ok (.iinc 2 1, 3) := by decide +kernel
theorem dMD_order_46 : decode cMD_order 46 = .ok (.goto (-44), 3) := by decide +kernel
theorem dMD_order_49 : decode cMD_order 49 = .ok (.aload_n 0, 1) := by decide +kernel
theorem dMD_order_50 : decode cMD_order 50 = .ok (.getfield 75, 3) := by decide +kernel
theorem dMD_order_53 : decode cMD_order 53 = .ok (.ifCond .eq 10, 3) := by decide +kernel
theorem dMD_order_56 : decode cMD_order 56 = .ok (.aload_n 1, 1) := by decide +kernel
theorem dMD_order_57 : decode cMD_order 57 = .ok (.getfield 75, 3) := by decide +kernel
theorem dMD_order_60 : decode cMD_order 60 = .ok (.ifCond .ne 31, 3) := by decide +kernel
theorem dMD_order_63 : decode cMD_order 63 = .ok (.aload_n 0, 1) := by decide +kernel
theorem dMD_order_64 : decode cMD_order 64 = .ok (.getfield 75, 3) := by decide +kernel
theorem dMD_order_67 : decode cMD_order 67 = .ok (.aload_n 1, 1) := by decide +kernel
theorem dMD_order_68 : decode cMD_order 68 = .ok (.getfield 75, 3) := by decide +kernel
theorem dMD_order_71 : decode cMD_order 71 = .ok (.if_icmp .ne 7, 3) := by decide +kernel
theorem dMD_order_74 : decode cMD_order 74 = .ok (.iconst 0, 1) := by decide +kernel
theorem dMD_order_75 : decode cMD_order 75 = .ok (.goto 15, 3) := by decide +kernel
theorem dMD_order_78 : decode cMD_order 78 = .ok (.aload_n 0, 1) := by decide +kernel
theorem dMD_order_79 : decode cMD_order 79 = .ok (.getfield 75, 3) := by decide +kernel
theorem dMD_order_82 : decode cMD_order 82 = .ok (.ifCond .ne 7, 3) := by decide +kernel
theorem dMD_order_85 : decode cMD_order 85 = .ok (.iconst 1, 1) := by decide +kernel
theorem dMD_order_86 : decode cMD_order 86 = .ok (.goto 4, 3) := by decide +kernel
theorem dMD_order_89 : decode cMD_order 89 = .ok (.iconst (-1), 1) := by decide +kernel
theorem dMD_order_90 : decode cMD_order 90 = .ok (.ireturn, 1) := by decide +kernel
theorem dMD_order_91 : decode cMD_order 91 = .ok (.iconst 0, 1) := by decide +kernel
theorem dMD_order_92 : decode cMD_order 92 = .ok (.istore_n 2, 1) := by decide +kernel
theorem dMD_order_93 : decode cMD_order 93 = .ok (.iload_n 2, 1) := by decide +kernel
theorem dMD_order_94 : decode cMD_order 94 = .ok (.aload_n 0, 1) := by decide +kernel
theorem dMD_order_95 : decode cMD_order 95 = .ok (.getfield 75, 3) := by decide +kernel
theorem dMD_order_98 : decode cMD_order 98 = .ok (.if_icmp .ge 47, 3) := by decide +kernel
theorem dMD_order_101 : decode cMD_order 101 = .ok (.iload_n 2, 1) := by decide +kernel
theorem dMD_order_102 : decode cMD_order 102 = .ok (.aload_n 1, 1) := by decide +kernel
theorem dMD_order_103 : decode cMD_order 103 = .ok (.getfield 75, 3) := by decide +kernel
theorem dMD_order_106 : decode cMD_order 106 = .ok (.if_icmp .ge 39, 3) := by decide +kernel
theorem dMD_order_109 : decode cMD_order 109 = .ok (.aload_n 0, 1) := by decide +kernel
theorem dMD_order_110 : decode cMD_order 110 = .ok (.getfield 78, 3) := by decide +kernel
theorem dMD_order_113 : decode cMD_order 113 = .ok (.iload_n 2, 1) := by decide +kernel
theorem dMD_order_114 : decode cMD_order 114 = .ok (.aaload, 1) := by decide +kernel
theorem dMD_order_115 : decode cMD_order 115 = .ok (.aload_n 1, 1) := by decide +kernel
theorem dMD_order_116 : decode cMD_order 116 = .ok (.getfield 78, 3) := by decide +kernel
theorem dMD_order_119 : decode cMD_order 119 = .ok (.iload_n 2, 1) := by decide +kernel
theorem dMD_order_120 : decode cMD_order 120 = .ok (.aaload, 1) := by decide +kernel
theorem dMD_order_121 : decode cMD_order 121 = .ok (.invokestatic 81, 3) := by decide +kernel
theorem dMD_order_124 : decode cMD_order 124 = .ok (.istore_n 3, 1) := by decide +kernel
theorem dMD_order_125 : decode cMD_order 125 = .ok (.iload_n 3, 1) := by decide +kernel
theorem dMD_order_126 : decode cMD_order 126 = .ok (.ifCond .eq 13, 3) := by decide +kernel
theorem dMD_order_129 : decode cMD_order 129 = .ok (.iload_n 3, 1) := by decide +kernel
theorem dMD_order_130 : decode cMD_order 130 = .ok (.ifCond .ge 7, 3) := by decide +kernel
theorem dMD_order_133 : decode cMD_order 133 = .ok (.iconst (-1), 1) := by decide +kernel
theorem dMD_order_134 : decode cMD_order 134 = .ok (.goto 4, 3) := by decide +kernel
theorem dMD_order_137 : decode cMD_order 137 = .ok (.iconst 1, 1) := by decide +kernel
theorem dMD_order_138 : decode cMD_order 138 = .ok (.ireturn, 1) := by decide +kernel
theorem dMD_order_139 : decode cMD_order 139 = .ok (.iinc 2 1, 3) := by decide +kernel
theorem dMD_order_142 : decode cMD_order 142 = .ok (.goto (-49), 3) := by decide +kernel
theorem dMD_order_145 : decode cMD_order 145 = .ok (.aload_n 0, 1) := by decide +kernel
theorem dMD_order_146 : decode cMD_order 146 = .ok (.getfield 75, 3) := by decide +kernel
theorem dMD_order_149 : decode cMD_order 149 = .ok (.aload_n 1, 1) := by decide +kernel
theorem dMD_order_150 : decode cMD_order 150 = .ok (.getfield 75, 3) := by decide +kernel
theorem dMD_order_153 : decode cMD_order 153 = .ok (.if_icmp .ge 7, 3) := by decide +kernel
theorem dMD_order_156 : decode cMD_order 156 = .ok (.iconst (-1), 1) := by decide +kernel
theorem dMD_order_157 : decode cMD_order 157 = .ok (.goto 19, 3) := by decide +kernel
theorem dMD_order_160 : decode cMD_order 160 = .ok (.aload_n 0, 1) := by decide +kernel
theorem dMD_order_161 : decode cMD_order 161 = .ok (.getfield 75, 3) := by decide +kernel
theorem dMD_order_164 : decode cMD_order 164 = .ok (.aload_n 1, 1) := by decide +kernel
theorem dMD_order_165 : decode cMD_order 165 = .ok (.getfield 75, 3) := by decide +kernel
theorem dMD_order_168 : decode cMD_order 168 = .ok (.if_icmp .le 7, 3) := by decide +kernel
theorem dMD_order_171 : decode cMD_order 171 = .ok (.iconst 1, 1) := by decide +kernel
theorem dMD_order_172 : decode cMD_order 172 = .ok (.goto 4, 3) := by decide +kernel
theorem dMD_order_175 : decode cMD_order 175 = .ok (.iconst 0, 1) := by decide +kernel
theorem dMD_order_176 : decode cMD_order 176 = .ok (.ireturn, 1) := by decide +kernel
theorem dMD_signLength_0 : decode cMD_signLength 0 = .ok (.aload_n 0, 1) := by decide +kernel
theorem dMD_signLength_1 : decode cMD_signLength 1 = .ok (.ldc 84, 2) := by decide +kernel
theorem dMD_signLength_3 : decode cMD_signLength 3 = .ok (.invokevirtual 86, 3) := by decide +kernel
theorem dMD_signLength_6 : decode cMD_signLength 6 = .ok (.ifCond .ne 12, 3) := by decide +kernel
theorem dMD_signLength_9 : decode cMD_signLength 9 = .ok (.aload_n 0, 1) := by decide +kernel
theorem dMD_signLength_10 : decode cMD_signLength 10 = .ok (.ldc 89, 2) := by decide +kernel
theorem dMD_signLength_12 : decode cMD_signLength 12 = .ok (.invokevirtual 86, 3) := by decide +kernel
theorem dMD_signLength_15 : decode cMD_signLength 15 = .ok (.ifCond .eq 5, 3) := by decide +kernel
theorem dMD_signLength_18 : decode cMD_signLength 18 = .ok (.iconst 2, 1) := by decide +kernel
theorem dMD_signLength_19 : decode cMD_signLength 19 = .ok (.ireturn, 1) := by decide +kernel
theorem dMD_signLength_20 : decode cMD_signLength 20 = .ok (.aload_n 0, 1) := by decide +kernel
theorem dMD_signLength_21 : decode cMD_signLength 21 = .ok (.ldc 91, 2) := by decide +kernel
theorem dMD_signLength_23 : decode cMD_signLength 23 = .ok (.invokevirtual 86, 3) := by decide +kernel
theorem dMD_signLength_26 : decode cMD_signLength 26 = .ok (.ifCond .ne 39, 3) := by decide +kernel
theorem dMD_signLength_29 : decode cMD_signLength 29 = .ok (.aload_n 0, 1) := by decide +kernel
theorem dMD_signLength_30 : decode cMD_signLength 30 = .ok (.ldc 93, 2) := by decide +kernel
theorem dMD_signLength_32 : decode cMD_signLength 32 = .ok (.invokevirtual 86, 3) := by decide +kernel
theorem dMD_signLength_35 : decode cMD_signLength 35 = .ok (.ifCond .ne 30, 3) := by decide +kernel
theorem dMD_signLength_38 : decode cMD_signLength 38 = .ok (.aload_n 0, 1) := by decide +kernel
theorem dMD_signLength_39 : decode cMD_signLength 39 = .ok (.ldc 95, 2) := by decide +kernel
theorem dMD_signLength_41 : decode cMD_signLength 41 = .ok (.invokevirtual 86, 3) := by decide +kernel
theorem dMD_signLength_44 : decode cMD_signLength 44 = .ok (.ifCond .ne 21, 3) := by decide +kernel
theorem dMD_signLength_47 : decode cMD_signLength 47 = .ok (.aload_n 0, 1) := by decide +kernel
theorem dMD_signLength_48 : decode cMD_signLength 48 = .ok (.ldc 97, 2) := by decide +kernel
theorem dMD_signLength_50 : decode cMD_signLength 50 = .ok (.invokevirtual 86, 3) := by decide +kernel
theorem dMD_signLength_53 : decode cMD_signLength 53 = .ok (.ifCond .ne 12, 3) := by decide +kernel
theorem dMD_signLength_56 : decode cMD_signLength 56 = .ok (.aload_n 0, 1) := by decide +kernel
theorem dMD_signLength_57 : decode cMD_signLength 57 = .ok (.ldc 99, 2) := by decide +kernel
theorem dMD_signLength_59 : decode cMD_signLength 59 = .ok (.invokevirtual 86, 3) := by decide +kernel
theorem dMD_signLength_62 : decode cMD_signLength 62 = .ok (.ifCond .eq 7, 3) := by decide +kernel
theorem dMD_signLength_65 : decode cMD_signLength 65 = .ok (.iconst 1, 1) := by decide +kernel
theorem dMD_signLength_66 : decode cMD_signLength 66 = .ok (.goto 4, 3) := by decide +kernel
theorem dMD_signLength_69 : decode cMD_signLength 69 = .ok (.iconst 0, 1) := by decide +kernel
theorem dMD_signLength_70 : decode cMD_signLength 70 = .ok (.ireturn, 1) := by decide +kernel
theorem dMD_sign_0 : decode cMD_sign 0 = .ok (.aload_n 0, 1) := by decide +kernel
theorem dMD_sign_1 : decode cMD_sign 1 = .ok (.ldc 84, 2) := by decide +kernel
theorem dMD_sign_3 : decode cMD_sign 3 = .ok (.invokevirtual 86, 3) := by decide +kernel
theorem dMD_sign_6 : decode cMD_sign 6 = .ok (.ifCond .eq 5, 3) := by decide +kernel
theorem dMD_sign_9 : decode cMD_sign 9 = .ok (.iconst 3, 1) := by decide +kernel
theorem dMD_sign_10 : decode cMD_sign 10 = .ok (.ireturn, 1) := by decide +kernel
theorem dMD_sign_11 : decode cMD_sign 11 = .ok (.aload_n 0, 1) := by decide +kernel
theorem dMD_sign_12 : decode cMD_sign 12 = .ok (.ldc 89, 2) := by decide +kernel
theorem dMD_sign_14 : decode cMD_sign 14 = .ok (.invokevirtual 86, 3) := by decide +kernel
theorem dMD_sign_17 : decode cMD_sign 17 = .ok (.ifCond .eq 5, 3) := by decide +kernel
theorem dMD_sign_20 : decode cMD_sign 20 = .ok (.iconst 5, 1) := by decide +kernel
theorem dMD_sign_21 : decode cMD_sign 21 = .ok (.ireturn, 1) := by decide +kernel
theorem dMD_sign_22 : decode cMD_sign 22 = .ok (.aload_n 0, 1) := by decide +kernel
theorem dMD_sign_23 : decode cMD_sign 23 = .ok (.ldc 91, 2) := by decide +kernel
theorem dMD_sign_25 : decode cMD_sign 25 = .ok (.invokevirtual 86, 3) := by decide +kernel
theorem dMD_sign_28 : decode cMD_sign 28 = .ok (.ifCond .eq 5, 3) := by decide +kernel
theorem dMD_sign_31 : decode cMD_sign 31 = .ok (.iconst 2, 1) := by decide +kernel
theorem dMD_sign_32 : decode cMD_sign 32 = .ok (.ireturn, 1) := by decide +kernel
theorem dMD_sign_33 : decode cMD_sign 33 = .ok (.aload_n 0, 1) := by decide +kernel
theorem dMD_sign_34 : decode cMD_sign 34 = .ok (.ldc 93, 2) := by decide +kernel
theorem dMD_sign_36 : decode cMD_sign 36 = .ok (.invokevirtual 86, 3) := by decide +kernel
theorem dMD_sign_39 : decode cMD_sign 39 = .ok (.ifCond .eq 5, 3) := by decide +kernel
theorem dMD_sign_42 : decode cMD_sign 42 = .ok (.iconst 4, 1) := by decide +kernel
theorem dMD_sign_43 : decode cMD_sign 43 = .ok (.ireturn, 1) := by decide +kernel
theorem dMD_sign_44 : decode cMD_sign 44 = .ok (.aload_n 0, 1) := by decide +kernel
theorem dMD_sign_45 : decode cMD_sign 45 = .ok (.ldc 97, 2) := by decide +kernel
theorem dMD_sign_47 : decode cMD_sign 47 = .ok (.invokevirtual 86, 3) := by decide +kernel
theorem dMD_sign_50 : decode cMD_sign 50 = .ok (.ifCond .eq 6, 3) := by decide +kernel
theorem dMD_sign_53 : decode cMD_sign 53 = .ok (.bipush 6, 2) := by decide +kernel
theorem dMD_sign_55 : decode cMD_sign 55 = .ok (.ireturn, 1) := by decide +kernel
theorem dMD_sign_56 : decode cMD_sign 56 = .ok (.aload_n 0, 1) := by decide +kernel
theorem dMD_sign_57 : decode cMD_sign 57 = .ok (.ldc 99, 2) := by decide +kernel
theorem dMD_sign_59 : decode cMD_sign 59 = .ok (.invokevirtual 86, 3) := by decide +kernel
theorem dMD_sign_62 : decode cMD_sign 62 = .ok (.ifCond .eq 8, 3) := by decide +kernel
theorem dMD_sign_65 : decode cMD_sign 65 = .ok (.bipush 7, 2) := by decide +kernel
theorem dMD_sign_67 : decode cMD_sign 67 = .ok (.goto 4, 3) := by decide +kernel
theorem dMD_sign_70 : decode cMD_sign 70 = .ok (.iconst 1, 1) := by decide +kernel
theorem dMD_sign_71 : decode cMD_sign 71 = .ok (.ireturn, 1) := by decide +kernel
theorem dMD_ends_0 : decode cMD_ends 0 = .ok (.aload_n 0, 1) := by decide +kernel
theorem dMD_ends_1 : decode cMD_ends 1 = .ok (.getfield 36, 3) := by decide +kernel
theorem dMD_ends_4 : decode cMD_ends 4 = .ok (.aload_n 0, 1) := by decide +kernel
theorem dMD_ends_5 : decode cMD_ends 5 = .ok (.getfield 33, 3) := by decide +kernel
theorem dMD_ends_8 : decode cMD_ends 8 = .ok (.if_icmp .eq 39, 3) := by decide +kernel
theorem dMD_ends_11 : decode cMD_ends 11 = .ok (.aload_n 0, 1) := by decide +kernel
theorem dMD_ends_12 : decode cMD_ends 12 = .ok (.invokevirtual 101, 3) := by decide +kernel
theorem dMD_ends_15 : decode cMD_ends 15 = .ok (.ldc 105, 2) := by decide +kernel
theorem dMD_ends_17 : decode cMD_ends 17 = .ok (.invokevirtual 107, 3) := by decide +kernel
theorem dMD_ends_20 : decode cMD_ends 20 = .ok (.ifCond .ne 27, 3) := by decide +kernel
theorem dMD_ends_23 : decode cMD_ends 23 = .ok (.aload_n 0, 1) := by decide +kernel
theorem dMD_ends_24 : decode cMD_ends 24 = .ok (.invokevirtual 101, 3) := by decide +kernel
theorem dMD_ends_27 : decode cMD_ends 27 = .ok (.ldc 111, 2) := by decide +kernel
theorem dMD_ends_29 : decode cMD_ends 29 = .ok (.invokevirtual 107, 3) := by decide +kernel
theorem dMD_ends_32 : decode cMD_ends 32 = .ok (.ifCond .ne 15, 3) := by decide +kernel
theorem dMD_ends_35 : decode cMD_ends 35 = .ok (.aload_n 0, 1) := by decide +kernel
theorem dMD_ends_36 : decode cMD_ends 36 = .ok (.invokevirtual 101, 3) := by decide +kernel
theorem dMD_ends_39 : decode cMD_ends 39 = .ok (.ldc 113, 2) := by decide +kernel
theorem dMD_ends_41 : decode cMD_ends 41 = .ok (.invokevirtual 107, 3) := by decide +kernel
theorem dMD_ends_44 : decode cMD_ends 44 = .ok (.ifCond .eq 7, 3) := by decide +kernel
theorem dMD_ends_47 : decode cMD_ends 47 = .ok (.iconst 1, 1) := by decide +kernel
theorem dMD_ends_48 : decode cMD_ends 48 = .ok (.goto 4, 3) := by decide +kernel
theorem dMD_ends_51 : decode cMD_ends 51 = .ok (.iconst 0, 1) := by decide +kernel
theorem dMD_ends_52 : decode cMD_ends 52 = .ok (.ireturn, 1) := by decide +kernel
theorem dMD_range_0 : decode cMD_range 0 = .ok (.new 115, 3) := by decide +kernel
theorem dMD_range_3 : decode cMD_range 3 = .ok (.dup, 1) := by decide +kernel
theorem dMD_range_4 : decode cMD_range 4 = .ok (.invokespecial 117, 3) := by decide +kernel
theorem dMD_range_7 : decode cMD_range 7 = .ok (.astore_n 1, 1) := by decide +kernel
theorem dMD_range_8 : decode cMD_range 8 = .ok (.iconst 1, 1) := by decide +kernel
theorem dMD_range_9 : decode cMD_range 9 = .ok (.istore_n 2, 1) := by decide +kernel
theorem dMD_range_10 : decode cMD_range 10 = .ok (.iload_n 2, 1) := by decide +kernel
theorem dMD_range_11 : decode cMD_range 11 = .ok (.ifCond .eq 182, 3) := by decide +kernel
theorem dMD_range_14 : decode cMD_range 14 = .ok (.aload_n 1, 1) := by decide +kernel
theorem dMD_range_15 : decode cMD_range 15 = .ok (.getfield 118, 3) := by decide +kernel
theorem dMD_range_18 : decode cMD_range 18 = .ok (.iconst 4, 1) := by decide +kernel
theorem dMD_range_19 : decode cMD_range 19 = .ok (.if_icmp .ne 5, 3) := by decide +kernel
theorem dMD_range_22 : decode cMD_range 22 = .ok (.aconst_null, 1) := by decide +kernel
theorem dMD_range_23 : decode cMD_range 23 = .ok (.areturn, 1) := by decide +kernel
theorem dMD_range_24 : decode cMD_range 24 = .ok (.iconst 0, 1) := by decide +kernel
theorem dMD_range_25 : decode cMD_range 25 = .ok (.istore_n 3, 1) := by decide +kernel
theorem dMD_range_26 : decode cMD_range 26 = .ok (.aload_n 0, 1) := by decide +kernel
theorem dMD_range_27 : decode cMD_range 27 = .ok (.invokevirtual 121, 3) := by decide +kernel
theorem dMD_range_30 : decode cMD_range 30 = .ok (.ifCond .ne 107, 3) := by decide +kernel
theorem dMD_range_33 : decode cMD_range 33 = .ok (.aload_n 0, 1) := by decide +kernel
theorem dMD_range_34 : decode cMD_range 34 = .ok (.invokevirtual 101, 3) := by decide +kernel
theorem dMD_range_37 : decode cMD_range 37 = .ok (.ldc 125, 2) := by decide +kernel
theorem dMD_range_39 : decode cMD_range 39 = .ok (.invokevirtual 107, 3) := by decide +kernel
theorem dMD_range_42 : decode cMD_range 42 = .ok (.ifCond .ne 95, 3) := by decide +kernel
theorem dMD_range_45 : decode cMD_range 45 = .ok (.iload_n 3, 1) := by decide +kernel
theorem dMD_range_46 : decode cMD_range 46 = .ok (.iconst 4, 1) := by decide +kernel
theorem dMD_range_47 : decode cMD_range 47 = .ok (.if_icmp .ne 5, 3) := by decide +kernel
theorem dMD_range_50 : decode cMD_range 50 = .ok (.aconst_null, 1) := by decide +kernel
theorem dMD_range_51 : decode cMD_range 51 = .ok (.areturn, 1) := by decide +kernel
theorem dMD_range_52 : decode cMD_range 52 = .ok (.iconst 4, 1) := by decide +kernel
theorem dMD_range_53 : decode cMD_range 53 = .ok (.aload_n 1, 1) := by decide +kernel
theorem dMD_range_54 : decode cMD_range 54 = .ok (.getfield 118, 3) := by decide +kernel
theorem dMD_range_57 : decode cMD_range 57 = .ok (.imul, 1) := by decide +kernel
theorem dMD_range_58 : decode cMD_range 58 = .ok (.iload_n 3, 1) := by decide +kernel
theorem dMD_range_59 : decode cMD_range 59 = .ok (.iadd, 1) := by decide +kernel
theorem dMD_range_60 : decode cMD_range 60 = .ok (.istore 4, 2) := by decide +kernel
theorem dMD_range_62 : decode cMD_range 62 = .ok (.aload_n 0, 1) := by decide +kernel
theorem dMD_range_63 : decode cMD_range 63 = .ok (.invokevirtual 101, 3) := by decide +kernel
theorem dMD_range_66 : decode cMD_range 66 = .ok (.ldc 127, 2) := by decide +kernel
theorem dMD_range_68 : decode cMD_range 68 = .ok (.invokevirtual 107, 3) := by decide +kernel
theorem dMD_range_71 : decode cMD_range 71 = .ok (.ifCond .ne 50, 3) := by decide +kernel
theorem dMD_range_74 : decode cMD_range 74 = .ok (.aload_n 1, 1) := by decide +kernel
theorem dMD_range_75 : decode cMD_range 75 = .ok (.getfield 129, 3) := by decide +kernel
theorem dMD_range_78 : decode cMD_range 78 = .ok (.iload 4, 2) := by decide +kernel
theorem dMD_range_80 : decode cMD_range 80 = .ok (.aload_n 0, 1) := by decide +kernel
theorem dMD_range_81 : decode cMD_range 81 = .ok (.invokevirtual 101, 3) := by decide +kernel
theorem dMD_range_84 : decode cMD_range 84 = .ok (.invokestatic 132, 3) := by decide +kernel
theorem dMD_range_87 : decode cMD_range 87 = .ok (.iastore, 1) := by decide +kernel
theorem dMD_range_88 : decode cMD_range 88 = .ok (.aload_n 1, 1) := by decide +kernel
theorem dMD_range_89 : decode cMD_range 89 = .ok (.getfield 135, 3) := by decide +kernel
theorem dMD_range_92 : decode cMD_range 92 = .ok (.iload 4, 2) := by decide +kernel
theorem dMD_range_94 : decode cMD_range 94 = .ok (.aload_n 0, 1) := by decide +kernel
theorem dMD_range_95 : decode cMD_range 95 = .ok (.invokevirtual 101, 3) := by decide +kernel
theorem dMD_range_98 : decode cMD_range 98 = .ok (.aload_n 0, 1) := by decide +kernel
theorem dMD_range_99 : decode cMD_range 99 = .ok (.invokevirtual 101, 3) := by decide +kernel
theorem dMD_range_102 : decode cMD_range 102 = .ok (.invokestatic 138, 3) := by decide +kernel
theorem dMD_range_105 : decode cMD_range 105 = .ok (.invokestatic 141, 3) := by decide +kernel
theorem dMD_range_108 : decode cMD_range 108 = .ok (.aastore, 1) := by decide +kernel
theorem dMD_range_109 : decode cMD_range 109 = .ok (.aload_n 1, 1) := by decide +kernel
theorem dMD_range_110 : decode cMD_range 110 = .ok (.getfield 135, 3) := by decide +kernel
theorem dMD_range_113 : decode cMD_range 113 = .ok (.iload 4, 2) := by decide +kernel
theorem dMD_range_115 : decode cMD_range 115 = .ok (.aaload, 1) := by decide +kernel
theorem dMD_range_116 : decode cMD_range 116 = .ok (.ifnonnull 5, 3) := by decide +kernel
theorem dMD_range_119 : decode cMD_range 119 = .ok (.aconst_null, 1) := by decide +kernel
theorem dMD_range_120 : decode cMD_range 120 = .ok (.areturn, 1) := by decide +kernel
theorem dMD_range_121 : decode cMD_range 121 = .ok (.iinc 3 1, 3) := by decide +kernel
theorem dMD_range_124 : decode cMD_range 124 = .ok (.aload_n 0, 1) := by decide +kernel
theorem dMD_range_125 : decode cMD_range 125 = .ok (.dup, 1) := by decide +kernel
theorem dMD_range_126 : decode cMD_range 126 = .ok (.getfield 36, 3) := by decide +kernel
theorem dMD_range_129 : decode cMD_range 129 = .ok (.iconst 1, 1) := by decide +kernel
theorem dMD_range_130 : decode cMD_range 130 = .ok (.iadd, 1) := by decide +kernel
theorem dMD_range_131 : decode cMD_range 131 = .ok (.putfield 36, 3) := by decide +kernel
theorem dMD_range_134 : decode cMD_range 134 = .ok (.goto (-108), 3) := by decide +kernel
theorem dMD_range_137 : decode cMD_range 137 = .ok (.iload_n 3, 1) := by decide +kernel
theorem dMD_range_138 : decode cMD_range 138 = .ok (.ifCond .ne 5, 3) := by decide +kernel
theorem dMD_range_141 : decode cMD_range 141 = .ok (.aconst_null, 1) := by decide +kernel
theorem dMD_range_142 : decode cMD_range 142 = .ok (.areturn, 1) := by decide +kernel
theorem dMD_range_143 : decode cMD_range 143 = .ok (.aload_n 1, 1) := by decide +kernel
theorem dMD_range_144 : decode cMD_range 144 = .ok (.getfield 144, 3) := by decide +kernel
theorem dMD_range_147 : decode cMD_range 147 = .ok (.aload_n 1, 1) := by decide +kernel
theorem dMD_range_148 : decode cMD_range 148 = .ok (.getfield 118, 3) := by decide +kernel
theorem dMD_range_151 : decode cMD_range 151 = .ok (.iload_n 3, 1) := by decide +kernel
theorem dMD_range_152 : decode cMD_range 152 = .ok (.iastore, 1) := by decide +kernel
theorem dMD_range_153 : decode cMD_range 153 = .ok (.aload_n 1, 1) := by decide +kernel
theorem dMD_range_154 : decode cMD_range 154 = .ok (.dup, 1) := by decide +kernel
theorem dMD_range_155 : decode cMD_range 155 = .ok (.getfield 118, 3) := by decide +kernel
theorem dMD_range_158 : decode cMD_range 158 = .ok (.iconst 1, 1) := by decide +kernel
theorem dMD_range_159 : decode cMD_range 159 = .ok (.iadd, 1) := by decide +kernel
theorem dMD_range_160 : decode cMD_range 160 = .ok (.putfield 118, 3) := by decide +kernel
theorem dMD_range_163 : decode cMD_range 163 = .ok (.aload_n 0, 1) := by decide +kernel
theorem dMD_range_164 : decode cMD_range 164 = .ok (.invokevirtual 121, 3) := by decide +kernel
theorem dMD_range_167 : decode cMD_range 167 = .ok (.ifCond .ne 7, 3) := by decide +kernel
theorem dMD_range_170 : decode cMD_range 170 = .ok (.iconst 1, 1) := by decide +kernel
theorem dMD_range_171 : decode cMD_range 171 = .ok (.goto 4, 3) := by decide +kernel
theorem dMD_range_174 : decode cMD_range 174 = .ok (.iconst 0, 1) := by decide +kernel
theorem dMD_range_175 : decode cMD_range 175 = .ok (.istore_n 2, 1) := by decide +kernel
theorem dMD_range_176 : decode cMD_range 176 = .ok (.iload_n 2, 1) := by decide +kernel
theorem dMD_range_177 : decode cMD_range 177 = .ok (.ifCond .eq 13, 3) := by decide +kernel
theorem dMD_range_180 : decode cMD_range 180 = .ok (.aload_n 0, 1) := by decide +kernel
theorem dMD_range_181 : decode cMD_range 181 = .ok (.dup, 1) := by decide +kernel
theorem dMD_range_182 : decode cMD_range 182 = .ok (.getfield 36, 3) := by decide +kernel
theorem dMD_range_185 : decode cMD_range 185 = .ok (.iconst 1, 1) := by decide +kernel
theorem dMD_range_186 : decode cMD_range 186 = .ok (.iadd, 1) := by decide +kernel
theorem dMD_range_187 : decode cMD_range 187 = .ok (.putfield 36, 3) := by decide +kernel
theorem dMD_range_190 : decode cMD_range 190 = .ok (.goto (-180), 3) := by decide +kernel
theorem dMD_range_193 : decode cMD_range 193 = .ok (.aload_n 1, 1) := by decide +kernel
theorem dMD_range_194 : decode cMD_range 194 = .ok (.areturn, 1) := by decide +kernel
theorem dMD_below_0 : decode cMD_below 0 = .ok (.aload_n 0, 1) := by decide +kernel
theorem dMD_below_1 : decode cMD_below 1 = .ok (.getfield 61, 3) := by decide +kernel
theorem dMD_below_4 : decode cMD_below 4 = .ok (.iconst 0, 1) := by decide +kernel
theorem dMD_below_5 : decode cMD_below 5 = .ok (.iaload, 1) := by decide +kernel
theorem dMD_below_6 : decode cMD_below 6 = .ok (.iload_n 1, 1) := by decide +kernel
theorem dMD_below_7 : decode cMD_below 7 = .ok (.if_icmp .eq 19, 3) := by decide +kernel
theorem dMD_below_10 : decode cMD_below 10 = .ok (.aload_n 0, 1) := by decide +kernel
theorem dMD_below_11 : decode cMD_below 11 = .ok (.getfield 61, 3) := by decide +kernel
theorem dMD_below_14 : decode cMD_below 14 = .ok (.iconst 0, 1) := by decide +kernel
theorem dMD_below_15 : decode cMD_below 15 = .ok (.iaload, 1) := by decide +kernel
theorem dMD_below_16 : decode cMD_below 16 = .ok (.iload_n 1, 1) := by decide +kernel
theorem dMD_below_17 : decode cMD_below 17 = .ok (.if_icmp .ge 7, 3) := by decide +kernel
theorem dMD_below_20 : decode cMD_below 20 = .ok (.iconst 1, 1) := by decide +kernel
theorem dMD_below_21 : decode cMD_below 21 = .ok (.goto 4, 3) := by decide +kernel
theorem dMD_below_24 : decode cMD_below 24 = .ok (.iconst 0, 1) := by decide +kernel
theorem dMD_below_25 : decode cMD_below 25 = .ok (.ireturn, 1) := by decide +kernel
theorem dMD_below_26 : decode cMD_below 26 = .ok (.aload_n 0, 1) := by decide +kernel
theorem dMD_below_27 : decode cMD_below 27 = .ok (.getfield 61, 3) := by decide +kernel
theorem dMD_below_30 : decode cMD_below 30 = .ok (.iconst 1, 1) := by decide +kernel
theorem dMD_below_31 : decode cMD_below 31 = .ok (.iaload, 1) := by decide +kernel
theorem dMD_below_32 : decode cMD_below 32 = .ok (.iload_n 2, 1) := by decide +kernel
theorem dMD_below_33 : decode cMD_below 33 = .ok (.if_icmp .eq 19, 3) := by decide +kernel
theorem dMD_below_36 : decode cMD_below 36 = .ok (.aload_n 0, 1) := by decide +kernel
theorem dMD_below_37 : decode cMD_below 37 = .ok (.getfield 61, 3) := by decide +kernel
theorem dMD_below_40 : decode cMD_below 40 = .ok (.iconst 1, 1) := by decide +kernel
theorem dMD_below_41 : decode cMD_below 41 = .ok (.iaload, 1) := by decide +kernel
theorem dMD_below_42 : decode cMD_below 42 = .ok (.iload_n 2, 1) := by decide +kernel
theorem dMD_below_43 : decode cMD_below 43 = .ok (.if_icmp .ge 7, 3) := by decide +kernel
theorem dMD_below_46 : decode cMD_below 46 = .ok (.iconst 1, 1) := by decide +kernel
theorem dMD_below_47 : decode cMD_below 47 = .ok (.goto 4, 3) := by decide +kernel
theorem dMD_below_50 : decode cMD_below 50 = .ok (.iconst 0, 1) := by decide +kernel
theorem dMD_below_51 : decode cMD_below 51 = .ok (.ireturn, 1) := by decide +kernel
theorem dMD_below_52 : decode cMD_below 52 = .ok (.aload_n 0, 1) := by decide +kernel
theorem dMD_below_53 : decode cMD_below 53 = .ok (.getfield 61, 3) := by decide +kernel
theorem dMD_below_56 : decode cMD_below 56 = .ok (.iconst 2, 1) := by decide +kernel
theorem dMD_below_57 : decode cMD_below 57 = .ok (.iaload, 1) := by decide +kernel
theorem dMD_below_58 : decode cMD_below 58 = .ok (.iload_n 3, 1) := by decide +kernel
theorem dMD_below_59 : decode cMD_below 59 = .ok (.if_icmp .eq 19, 3) := by decide +kernel
theorem dMD_below_62 : decode cMD_below 62 = .ok (.aload_n 0, 1) := by decide +kernel
theorem dMD_below_63 : decode cMD_below 63 = .ok (.getfield 61, 3) := by decide +kernel
theorem dMD_below_66 : decode cMD_below 66 = .ok (.iconst 2, 1) := by decide +kernel
theorem dMD_below_67 : decode cMD_below 67 = .ok (.iaload, 1) := by decide +kernel
theorem dMD_below_68 : decode cMD_below 68 = .ok (.iload_n 3, 1) := by decide +kernel
theorem dMD_below_69 : decode cMD_below 69 = .ok (.if_icmp .ge 7, 3) := by decide +kernel
theorem dMD_below_72 : decode cMD_below 72 = .ok (.iconst 1, 1) := by decide +kernel
theorem dMD_below_73 : decode cMD_below 73 = .ok (.goto 4, 3) := by decide +kernel
theorem dMD_below_76 : decode cMD_below 76 = .ok (.iconst 0, 1) := by decide +kernel
theorem dMD_below_77 : decode cMD_below 77 = .ok (.ireturn, 1) := by decide +kernel
theorem dMD_below_78 : decode cMD_below 78 = .ok (.aload_n 0, 1) := by decide +kernel
theorem dMD_below_79 : decode cMD_below 79 = .ok (.getfield 75, 3) := by decide +kernel
theorem dMD_below_82 : decode cMD_below 82 = .ok (.ifCond .le 7, 3) := by decide +kernel
theorem dMD_below_85 : decode cMD_below 85 = .ok (.iconst 1, 1) := by decide +kernel
theorem dMD_below_86 : decode cMD_below 86 = .ok (.goto 4, 3) := by decide +kernel
theorem dMD_below_89 : decode cMD_below 89 = .ok (.iconst 0, 1) := by decide +kernel
theorem dMD_below_90 : decode cMD_below 90 = .ok (.ireturn, 1) := by decide +kernel
theorem dMD_test_0 : decode cMD_test 0 = .ok (.iload_n 0, 1) := by decide +kernel
theorem dMD_test_1 : decode cMD_test 1 = .ok (.ifCond .ne 5, 3) := by decide +kernel
theorem dMD_test_4 : decode cMD_test 4 = .ok (.iconst 1, 1) := by decide +kernel
theorem dMD_test_5 : decode cMD_test 5 = .ok (.ireturn, 1) := by decide +kernel
theorem dMD_test_6 : decode cMD_test 6 = .ok (.aload_n 1, 1) := by decide +kernel
theorem dMD_test_7 : decode cMD_test 7 = .ok (.aload_n 2, 1) := by decide +kernel
theorem dMD_test_8 : decode cMD_test 8 = .ok (.invokestatic 147, 3) := by decide +kernel
theorem dMD_test_11 : decode cMD_test 11 = .ok (.istore_n 3, 1) := by decide +kernel
theorem dMD_test_12 : decode cMD_test 12 = .ok (.aload_n 2, 1) := by decide +kernel
theorem dMD_test_13 : decode cMD_test 13 = .ok (.getfield 61, 3) := by decide +kernel
theorem dMD_test_16 : decode cMD_test 16 = .ok (.astore 4, 2) := by decide +kernel
theorem dMD_test_18 : decode cMD_test 18 = .ok (.iload_n 0, 1) := by decide +kernel
theorem dMD_test_19 : decode cMD_test 19 = .ok (.tableswitch 148 1 6 #[37, 47, 57, 67, 77, 87], 37) := by decide +kernel
theorem dMD_test_56 : decode cMD_test 56 = .ok (.iload_n 3, 1) := by decide +kernel
theorem dMD_test_57 : decode cMD_test 57 = .ok (.ifCond .ne 7, 3) := by decide +kernel
theorem dMD_test_60 : decode cMD_test 60 = .ok (.iconst 1, 1) := by decide +kernel
theorem dMD_test_61 : decode cMD_test 61 = .ok (.goto 4, 3) := by decide +kernel
theorem dMD_test_64 : decode cMD_test 64 = .ok (.iconst 0, 1) := by decide +kernel
theorem dMD_test_65 : decode cMD_test 65 = .ok (.ireturn, 1) := by decide +kernel
theorem dMD_test_66 : decode cMD_test 66 = .ok (.iload_n 3, 1) := by decide +kernel
theorem dMD_test_67 : decode cMD_test 67 = .ok (.ifCond .ge 7, 3) := by decide +kernel
theorem dMD_test_70 : decode cMD_test 70 = .ok (.iconst 1, 1) := by decide +kernel
theorem dMD_test_71 : decode cMD_test 71 = .ok (.goto 4, 3) := by decide +kernel
theorem dMD_test_74 : decode cMD_test 74 = .ok (.iconst 0, 1) := by decide +kernel
theorem dMD_test_75 : decode cMD_test 75 = .ok (.ireturn, 1) := by decide +kernel
theorem dMD_test_76 : decode cMD_test 76 = .ok (.iload_n 3, 1) := by decide +kernel
theorem dMD_test_77 : decode cMD_test 77 = .ok (.ifCond .gt 7, 3) := by decide +kernel
theorem dMD_test_80 : decode cMD_test 80 = .ok (.iconst 1, 1) := by decide +kernel
theorem dMD_test_81 : decode cMD_test 81 = .ok (.goto 4, 3) := by decide +kernel
theorem dMD_test_84 : decode cMD_test 84 = .ok (.iconst 0, 1) := by decide +kernel
theorem dMD_test_85 : decode cMD_test 85 = .ok (.ireturn, 1) := by decide +kernel
theorem dMD_test_86 : decode cMD_test 86 = .ok (.iload_n 3, 1) := by decide +kernel
theorem dMD_test_87 : decode cMD_test 87 = .ok (.ifCond .le 7, 3) := by decide +kernel
theorem dMD_test_90 : decode cMD_test 90 = .ok (.iconst 1, 1) := by decide +kernel
theorem dMD_test_91 : decode cMD_test 91 = .ok (.goto 4, 3) := by decide +kernel
theorem dMD_test_94 : decode cMD_test 94 = .ok (.iconst 0, 1) := by decide +kernel
theorem dMD_test_95 : decode cMD_test 95 = .ok (.ireturn, 1) := by decide +kernel
theorem dMD_test_96 : decode cMD_test 96 = .ok (.iload_n 3, 1) := by decide +kernel
theorem dMD_test_97 : decode cMD_test 97 = .ok (.ifCond .lt 7, 3) := by decide +kernel
theorem dMD_test_100 : decode cMD_test 100 = .ok (.iconst 1, 1) := by decide +kernel
theorem dMD_test_101 : decode cMD_test 101 = .ok (.goto 4, 3) := by decide +kernel
theorem dMD_test_104 : decode cMD_test 104 = .ok (.iconst 0, 1) := by decide +kernel
theorem dMD_test_105 : decode cMD_test 105 = .ok (.ireturn, 1) := by decide +kernel
theorem dMD_test_106 : decode cMD_test 106 = .ok (.iload_n 3, 1) := by decide +kernel
theorem dMD_test_107 : decode cMD_test 107 = .ok (.ifCond .ge 5, 3) := by decide +kernel
theorem dMD_test_110 : decode cMD_test 110 = .ok (.iconst 0, 1) := by decide +kernel
theorem dMD_test_111 : decode cMD_test 111 = .ok (.ireturn, 1) := by decide +kernel
theorem dMD_test_112 : decode cMD_test 112 = .ok (.aload 4, 2) := by decide +kernel
theorem dMD_test_114 : decode cMD_test 114 = .ok (.iconst 0, 1) := by decide +kernel
theorem dMD_test_115 : decode cMD_test 115 = .ok (.iaload, 1) := by decide +kernel
theorem dMD_test_116 : decode cMD_test 116 = .ok (.ifCond .le 16, 3) := by decide +kernel
theorem dMD_test_119 : decode cMD_test 119 = .ok (.aload_n 1, 1) := by decide +kernel
theorem dMD_test_120 : decode cMD_test 120 = .ok (.aload 4, 2) := by decide +kernel
theorem dMD_test_122 : decode cMD_test 122 = .ok (.iconst 0, 1) := by decide +kernel
theorem dMD_test_123 : decode cMD_test 123 = .ok (.iaload, 1) := by decide +kernel
theorem dMD_test_124 : decode cMD_test 124 = .ok (.iconst 1, 1) := by decide +kernel
theorem dMD_test_125 : decode cMD_test 125 = .ok (.iadd, 1) := by decide +kernel
theorem dMD_test_126 : decode cMD_test 126 = .ok (.iconst 0, 1) := by decide +kernel
theorem dMD_test_127 : decode cMD_test 127 = .ok (.iconst 0, 1) := by decide +kernel
theorem dMD_test_128 : decode cMD_test 128 = .ok (.invokestatic 151, 3) := by decide +kernel
theorem dMD_test_131 : decode cMD_test 131 = .ok (.ireturn, 1) := by decide +kernel
theorem dMD_test_132 : decode cMD_test 132 = .ok (.aload 4, 2) := by decide +kernel
theorem dMD_test_134 : decode cMD_test 134 = .ok (.iconst 1, 1) := by decide +kernel
theorem dMD_test_135 : decode cMD_test 135 = .ok (.iaload, 1) := by decide +kernel
theorem dMD_test_136 : decode cMD_test 136 = .ok (.ifCond .le 18, 3) := by decide +kernel
theorem dMD_test_139 : decode cMD_test 139 = .ok (.aload_n 1, 1) := by decide +kernel
theorem dMD_test_140 : decode cMD_test 140 = .ok (.iconst 0, 1) := by decide +kernel
theorem dMD_test_141 : decode cMD_test 141 = .ok (.aload 4, 2) := by decide +kernel
theorem dMD_test_143 : decode cMD_test 143 = .ok (.iconst 1, 1) := by decide +kernel
theorem dMD_test_144 : decode cMD_test 144 = .ok (.iaload, 1) := by decide +kernel
theorem dMD_test_145 : decode cMD_test 145 = .ok (.iconst 1, 1) := by decide +kernel
theorem dMD_test_146 : decode cMD_test 146 = .ok (.iadd, 1) := by decide +kernel
theorem dMD_test_147 : decode cMD_test 147 = .ok (.iconst 0, 1) := by decide +kernel
theorem dMD_test_148 : decode cMD_test 148 = .ok (.invokestatic 151, 3) := by decide +kernel
theorem dMD_test_151 : decode cMD_test 151 = .ok (.goto 15, 3) := by decide +kernel
theorem dMD_test_154 : decode cMD_test 154 = .ok (.aload_n 1, 1) := by decide +kernel
theorem dMD_test_155 : decode cMD_test 155 = .ok (.iconst 0, 1) := by decide +kernel
theorem dMD_test_156 : decode cMD_test 156 = .ok (.iconst 0, 1) := by decide +kernel
theorem dMD_test_157 : decode cMD_test 157 = .ok (.aload 4, 2) := by decide +kernel
theorem dMD_test_159 : decode cMD_test 159 = .ok (.iconst 2, 1) := by decide +kernel
theorem dMD_test_160 : decode cMD_test 160 = .ok (.iaload, 1) := by decide +kernel
theorem dMD_test_161 : decode cMD_test 161 = .ok (.iconst 1, 1) := by decide +kernel
theorem dMD_test_162 : decode cMD_test 162 = .ok (.iadd, 1) := by decide +kernel
theorem dMD_test_163 : decode cMD_test 163 = .ok (.invokestatic 151, 3) := by decide +kernel
theorem dMD_test_166 : decode cMD_test 166 = .ok (.ireturn, 1) := by decide +kernel
theorem dMD_test_167 : decode cMD_test 167 = .ok (.iload_n 3, 1) := by decide +kernel
theorem dMD_test_168 : decode cMD_test 168 = .ok (.ifCond .lt 25, 3) := by decide +kernel
theorem dMD_test_171 : decode cMD_test 171 = .ok (.aload_n 1, 1) := by decide +kernel
theorem dMD_test_172 : decode cMD_test 172 = .ok (.aload 4, 2) := by decide +kernel
theorem dMD_test_174 : decode cMD_test 174 = .ok (.iconst 0, 1) := by decide +kernel
theorem dMD_test_175 : decode cMD_test 175 = .ok (.iaload, 1) := by decide +kernel
theorem dMD_test_176 : decode cMD_test 176 = .ok (.aload 4, 2) := by decide +kernel
theorem dMD_test_178 : decode cMD_test 178 = .ok (.iconst 1, 1) := by decide +kernel
theorem dMD_test_179 : decode cMD_test 179 = .ok (.iaload, 1) := by decide +kernel
theorem dMD_test_180 : decode cMD_test 180 = .ok (.iconst 1, 1) := by decide +kernel
theorem dMD_test_181 : decode cMD_test 181 = .ok (.iadd, 1) := by decide +kernel
theorem dMD_test_182 : decode cMD_test 182 = .ok (.iconst 0, 1) := by decide +kernel
theorem dMD_test_183 : decode cMD_test 183 = .ok (.invokestatic 151, 3) := by decide +kernel
theorem dMD_test_186 : decode cMD_test 186 = .ok (.ifCond .eq 7, 3) := by decide +kernel
theorem dMD_test_189 : decode cMD_test 189 = .ok (.iconst 1, 1) := by decide +kernel
theorem dMD_test_190 : decode cMD_test 190 = .ok (.goto 4, 3) := by decide +kernel
theorem dMD_test_193 : decode cMD_test 193 = .ok (.iconst 0, 1) := by decide +kernel
theorem dMD_test_194 : decode cMD_test 194 = .ok (.ireturn, 1) := by decide +kernel
theorem dMD_in_0 : decode cMD_in 0 = .ok (.iconst 0, 1) := by decide +kernel
theorem dMD_in_1 : decode cMD_in 1 = .ok (.istore_n 2, 1) := by decide +kernel
theorem dMD_in_2 : decode cMD_in 2 = .ok (.iload_n 2, 1) := by decide +kernel
theorem dMD_in_3 : decode cMD_in 3 = .ok (.aload_n 1, 1) := by decide +kernel
theorem dMD_in_4 : decode cMD_in 4 = .ok (.getfield 118, 3) := by decide +kernel
theorem dMD_in_7 : decode cMD_in 7 = .ok (.if_icmp .ge 74, 3) := by decide +kernel
theorem dMD_in_10 : decode cMD_in 10 = .ok (.iconst 1, 1) := by decide +kernel
theorem dMD_in_11 : decode cMD_in 11 = .ok (.istore_n 3, 1) := by decide +kernel
theorem dMD_in_12 : decode cMD_in 12 = .ok (.iconst 4, 1) := by decide +kernel
theorem dMD_in_13 : decode cMD_in 13 = .ok (.iload_n 2, 1) := by decide +kernel
theorem dMD_in_14 : decode cMD_in 14 = .ok (.imul, 1) := by decide +kernel
theorem dMD_in_15 : decode cMD_in 15 = .ok (.istore 4, 2) := by decide +kernel
theorem dMD_in_17 : decode cMD_in 17 = .ok (.iload 4, 2) := by decide +kernel
theorem dMD_in_19 : decode cMD_in 19 = .ok (.iconst 4, 1) := by decide +kernel
theorem dMD_in_20 : decode cMD_in 20 = .ok (.iload_n 2, 1) := by decide +kernel
theorem dMD_in_21 : decode cMD_in 21 = .ok (.imul, 1) := by decide +kernel
theorem dMD_in_22 : decode cMD_in 22 = .ok (.aload_n 1, 1) := by decide +kernel
theorem dMD_in_23 : decode cMD_in 23 = .ok (.getfield 144, 3) := by decide +kernel
theorem dMD_in_26 : decode cMD_in 26 = .ok (.iload_n 2, 1) := by decide +kernel
theorem dMD_in_27 : decode cMD_in 27 = .ok (.iaload, 1) := by decide +kernel
theorem dMD_in_28 : decode cMD_in 28 = .ok (.iadd, 1) := by decide +kernel
theorem dMD_in_29 : decode cMD_in 29 = .ok (.if_icmp .ge 40, 3) := by decide +kernel
theorem dMD_in_32 : decode cMD_in 32 = .ok (.iload_n 3, 1) := by decide +kernel
theorem dMD_in_33 : decode cMD_in 33 = .ok (.ifCond .eq 28, 3) := by decide +kernel
theorem dMD_in_36 : decode cMD_in 36 = .ok (.aload_n 1, 1) := by decide +kernel
theorem dMD_in_37 : decode cMD_in 37 = .ok (.getfield 129, 3) := by decide +kernel
theorem dMD_in_40 : decode cMD_in 40 = .ok (.iload 4, 2) := by decide +kernel
theorem dMD_in_42 : decode cMD_in 42 = .ok (.iaload, 1) := by decide +kernel
theorem dMD_in_43 : decode cMD_in 43 = .ok (.aload_n 0, 1) := by decide +kernel
theorem dMD_in_44 : decode cMD_in 44 = .ok (.aload_n 1, 1) := by decide +kernel
theorem dMD_in_45 : decode cMD_in 45 = .ok (.getfield 135, 3) := by decide +kernel
theorem dMD_in_48 : decode cMD_in 48 = .ok (.iload 4, 2) := by decide +kernel
theorem dMD_in_50 : decode cMD_in 50 = .ok (.aaload, 1) := by decide +kernel
theorem dMD_in_51 : decode cMD_in 51 = .ok (.invokestatic 155, 3) := by decide +kernel
theorem dMD_in_54 : decode cMD_in 54 = .ok (.ifCond .eq 7, 3) := by decide +kernel
theorem dMD_in_57 : decode cMD_in 57 = .ok (.iconst 1, 1) := by decide +kernel
theorem dMD_in_58 : decode cMD_in 58 = .ok (.goto 4, 3) := by decide +kernel
theorem dMD_in_61 : decode cMD_in 61 = .ok (.iconst 0, 1) := by decide +kernel
theorem dMD_in_62 : decode cMD_in 62 = .ok (.istore_n 3, 1) := by decide +kernel
theorem dMD_in_63 : decode cMD_in 63 = .ok (.iinc 4 1, 3) := by decide +kernel
theorem dMD_in_66 : decode cMD_in 66 = .ok (.goto (-49), 3) := by decide +kernel
theorem dMD_in_69 : decode cMD_in 69 = .ok (.iload_n 3, 1) := by decide +kernel
theorem dMD_in_70 : decode cMD_in 70 = .ok (.ifCond .eq 5, 3) := by decide +kernel
theorem dMD_in_73 : decode cMD_in 73 = .ok (.iconst 1, 1) := by decide +kernel
theorem dMD_in_74 : decode cMD_in 74 = .ok (.ireturn, 1) := by decide +kernel
theorem dMD_in_75 : decode cMD_in 75 = .ok (.iinc 2 1, 3) := by decide +kernel
theorem dMD_in_78 : decode cMD_in 78 = .ok (.goto (-76), 3) := by decide +kernel
theorem dMD_in_81 : decode cMD_in 81 = .ok (.iconst 0, 1) := by decide +kernel
theorem dMD_in_82 : decode cMD_in 82 = .ok (.ireturn, 1) := by decide +kernel
theorem dMD_take_0 : decode cMD_take 0 = .ok (.aload_n 0, 1) := by decide +kernel
theorem dMD_take_1 : decode cMD_take 1 = .ok (.invokevirtual 159, 3) := by decide +kernel
theorem dMD_take_4 : decode cMD_take 4 = .ok (.aload_n 0, 1) := by decide +kernel
theorem dMD_take_5 : decode cMD_take 5 = .ok (.getfield 33, 3) := by decide +kernel
theorem dMD_take_8 : decode cMD_take 8 = .ok (.iconst 1, 1) := by decide +kernel
theorem dMD_take_9 : decode cMD_take 9 = .ok (.if_icmp .ne 16, 3) := by decide +kernel
theorem dMD_take_12 : decode cMD_take 12 = .ok (.aload_n 0, 1) := by decide +kernel
theorem dMD_take_13 : decode cMD_take 13 = .ok (.getfield 15, 3) := by decide +kernel
theorem dMD_take_16 : decode cMD_take 16 = .ok (.iconst 0, 1) := by decide +kernel
theorem dMD_take_17 : decode cMD_take 17 = .ok (.aaload, 1) := by decide +kernel
theorem dMD_take_18 : decode cMD_take 18 = .ok (.iconst 0, 1) := by decide +kernel
theorem dMD_take_19 : decode cMD_take 19 = .ok (.invokestatic 141, 3) := by decide +kernel
theorem dMD_take_22 : decode cMD_take 22 = .ok (.goto 4, 3) := by decide +kernel
theorem dMD_take_25 : decode cMD_take 25 = .ok (.aconst_null, 1) := by decide +kernel
theorem dMD_take_26 : decode cMD_take 26 = .ok (.astore_n 1, 1) := by decide +kernel
theorem dMD_take_27 : decode cMD_take 27 = .ok (.aload_n 1, 1) := by decide +kernel
theorem dMD_take_28 : decode cMD_take 28 = .ok (.ifnonnull 6, 3) := by decide +kernel
theorem dMD_take_31 : decode cMD_take 31 = .ok (.bipush (-4), 2) := by decide +kernel
theorem dMD_take_33 : decode cMD_take 33 = .ok (.ireturn, 1) := by decide +kernel
theorem dMD_take_34 : decode cMD_take 34 = .ok (.aload_n 0, 1) := by decide +kernel
theorem dMD_take_35 : decode cMD_take 35 = .ok (.getfield 162, 3) := by decide +kernel
theorem dMD_take_38 : decode cMD_take 38 = .ok (.bipush 12, 2) := by decide +kernel
theorem dMD_take_40 : decode cMD_take 40 = .ok (.if_icmp .ne 6, 3) := by decide +kernel
theorem dMD_take_43 : decode cMD_take 43 = .ok (.bipush (-3), 2) := by decide +kernel
theorem dMD_take_45 : decode cMD_take 45 = .ok (.ireturn, 1) := by decide +kernel
theorem dMD_take_46 : decode cMD_take 46 = .ok (.aload_n 0, 1) := by decide +kernel
theorem dMD_take_47 : decode cMD_take 47 = .ok (.getfield 21, 3) := by decide +kernel
theorem dMD_take_50 : decode cMD_take 50 = .ok (.aload_n 0, 1) := by decide +kernel
theorem dMD_take_51 : decode cMD_take 51 = .ok (.getfield 162, 3) := by decide +kernel
theorem dMD_take_54 : decode cMD_take 54 = .ok (.aload_n 1, 1) := by decide +kernel
theorem dMD_take_55 : decode cMD_take 55 = .ok (.aastore, 1) := by decide +kernel
theorem dMD_take_56 : decode cMD_take 56 = .ok (.aload_n 0, 1) := by decide +kernel
theorem dMD_take_57 : decode cMD_take 57 = .ok (.dup, 1) := by decide +kernel
theorem dMD_take_58 : decode cMD_take 58 = .ok (.getfield 162, 3) := by decide +kernel
theorem dMD_take_61 : decode cMD_take 61 = .ok (.iconst 1, 1) := by decide +kernel
theorem dMD_take_62 : decode cMD_take 62 = .ok (.iadd, 1) := by decide +kernel
theorem dMD_take_63 : decode cMD_take 63 = .ok (.putfield 162, 3) := by decide +kernel
theorem dMD_take_66 : decode cMD_take 66 = .ok (.aload_n 0, 1) := by decide +kernel
theorem dMD_take_67 : decode cMD_take 67 = .ok (.getfield 162, 3) := by decide +kernel
theorem dMD_take_70 : decode cMD_take 70 = .ok (.iconst 1, 1) := by decide +kernel
theorem dMD_take_71 : decode cMD_take 71 = .ok (.isub, 1) := by decide +kernel
theorem dMD_take_72 : decode cMD_take 72 = .ok (.ireturn, 1) := by decide +kernel
theorem dMD_is_0 : decode cMD_is 0 = .ok (.iload_n 1, 1) := by decide +kernel
theorem dMD_is_1 : decode cMD_is 1 = .ok (.ifCond .lt 15, 3) := by decide +kernel
theorem dMD_is_4 : decode cMD_is 4 = .ok (.iload_n 1, 1) := by decide +kernel
theorem dMD_is_5 : decode cMD_is 5 = .ok (.aload_n 0, 1) := by decide +kernel
theorem dMD_is_6 : decode cMD_is 6 = .ok (.getfield 162, 3) := by decide +kernel
theorem dMD_is_9 : decode cMD_is 9 = .ok (.if_icmp .ge 7, 3) := by decide +kernel
theorem dMD_is_12 : decode cMD_is 12 = .ok (.iconst 1, 1) := by decide +kernel
theorem dMD_is_13 : decode cMD_is 13 = .ok (.goto 4, 3) := by decide +kernel
theorem dMD_is_16 : decode cMD_is 16 = .ok (.iconst 0, 1) := by decide +kernel
theorem dMD_is_17 : decode cMD_is 17 = .ok (.ireturn, 1) := by decide +kernel
theorem dMD_compare_0 : decode cMD_compare 0 = .ok (.aload_n 0, 1) := by decide +kernel
theorem dMD_compare_1 : decode cMD_compare 1 = .ok (.iload_n 1, 1) := by decide +kernel
theorem dMD_compare_2 : decode cMD_compare 2 = .ok (.invokevirtual 165, 3) := by decide +kernel
theorem dMD_compare_5 : decode cMD_compare 5 = .ok (.ifCond .eq 29, 3) := by decide +kernel
theorem dMD_compare_8 : decode cMD_compare 8 = .ok (.aload_n 0, 1) := by decide +kernel
theorem dMD_compare_9 : decode cMD_compare 9 = .ok (.iload_n 2, 1) := by decide +kernel
theorem dMD_compare_10 : decode cMD_compare 10 = .ok (.invokevirtual 165, 3) := by decide +kernel
theorem dMD_compare_13 : decode cMD_compare 13 = .ok (.ifCond .eq 21, 3) := by decide +kernel
theorem dMD_compare_16 : decode cMD_compare 16 = .ok (.aload_n 0, 1) := by decide +kernel
theorem dMD_compare_17 : decode cMD_compare 17 = .ok (.getfield 21, 3) := by decide +kernel
theorem dMD_compare_20 : decode cMD_compare 20 = .ok (.iload_n 1, 1) := by decide +kernel
theorem dMD_compare_21 : decode cMD_compare 21 = .ok (.aaload, 1) := by decide +kernel
theorem dMD_compare_22 : decode cMD_compare 22 = .ok (.aload_n 0, 1) := by decide +kernel
theorem dMD_compare_23 : decode cMD_compare 23 = .ok (.getfield 21, 3) := by decide +kernel
theorem dMD_compare_26 : decode cMD_compare 26 = .ok (.iload_n 2, 1) := by decide +kernel
theorem dMD_compare_27 : decode cMD_compare 27 = .ok (.aaload, 1) := by decide +kernel
theorem dMD_compare_28 : decode cMD_compare 28 = .ok (.invokestatic 147, 3) := by decide +kernel
theorem dMD_compare_31 : decode cMD_compare 31 = .ok (.goto 5, 3) := by decide +kernel
theorem dMD_compare_34 : decode cMD_compare 34 = .ok (.bipush (-2), 2) := by decide +kernel
theorem dMD_compare_36 : decode cMD_compare 36 = .ok (.ireturn, 1) := by decide +kernel
theorem dMD_part_0 : decode cMD_part 0 = .ok (.iload_n 2, 1) := by decide +kernel
theorem dMD_part_1 : decode cMD_part 1 = .ok (.ifCond .lt 8, 3) := by decide +kernel
theorem dMD_part_4 : decode cMD_part 4 = .ok (.iload_n 2, 1) := by decide +kernel
theorem dMD_part_5 : decode cMD_part 5 = .ok (.iconst 3, 1) := by decide +kernel
theorem dMD_part_6 : decode cMD_part 6 = .ok (.if_icmp .le 5, 3) := by decide +kernel
theorem dMD_part_9 : decode cMD_part 9 = .ok (.iconst (-1), 1) := by decide +kernel
theorem dMD_part_10 : decode cMD_part 10 = .ok (.ireturn, 1) := by decide +kernel
theorem dMD_part_11 : decode cMD_part 11 = .ok (.aload_n 0, 1) := by decide +kernel
theorem dMD_part_12 : decode cMD_part 12 = .ok (.iload_n 1, 1) := by decide +kernel
theorem dMD_part_13 : decode cMD_part 13 = .ok (.invokevirtual 165, 3) := by decide +kernel
theorem dMD_part_16 : decode cMD_part 16 = .ok (.ifCond .ne 6, 3) := by decide +kernel
theorem dMD_part_19 : decode cMD_part 19 = .ok (.bipush (-2), 2) := by decide +kernel
theorem dMD_part_21 : decode cMD_part 21 = .ok (.ireturn, 1) := by decide +kernel
theorem dMD_part_22 : decode cMD_part 22 = .ok (.iload_n 2, 1) := by decide +kernel
theorem dMD_part_23 : decode cMD_part 23 = .ok (.iconst 3, 1) := by decide +kernel
theorem dMD_part_24 : decode cMD_part 24 = .ok (.if_icmp .ge 15, 3) := by decide +kernel
theorem dMD_part_27 : decode cMD_part 27 = .ok (.aload_n 0, 1) := by decide +kernel
theorem dMD_part_28 : decode cMD_part 28 = .ok (.getfield 21, 3) := by decide +kernel
theorem dMD_part_31 : decode cMD_part 31 = .ok (.iload_n 1, 1) := by decide +kernel
theorem dMD_part_32 : decode cMD_part 32 = .ok (.aaload, 1) := by decide +kernel
theorem dMD_part_33 : decode cMD_part 33 = .ok (.getfield 61, 3) := by decide +kernel
theorem dMD_part_36 : decode cMD_part 36 = .ok (.iload_n 2, 1) := by decide +kernel
theorem dMD_part_37 : decode cMD_part 37 = .ok (.iaload, 1) := by decide +kernel
theorem dMD_part_38 : decode cMD_part 38 = .ok (.ireturn, 1) := by decide +kernel
theorem dMD_part_39 : decode cMD_part 39 = .ok (.aload_n 0, 1) := by decide +kernel
theorem dMD_part_40 : decode cMD_part 40 = .ok (.getfield 21, 3) := by decide +kernel
theorem dMD_part_43 : decode cMD_part 43 = .ok (.iload_n 1, 1) := by decide +kernel
theorem dMD_part_44 : decode cMD_part 44 = .ok (.aaload, 1) := by decide +kernel
theorem dMD_part_45 : decode cMD_part 45 = .ok (.getfield 75, 3) := by decide +kernel
theorem dMD_part_48 : decode cMD_part 48 = .ok (.ifCond .ne 7, 3) := by decide +kernel
theorem dMD_part_51 : decode cMD_part 51 = .ok (.iconst 0, 1) := by decide +kernel
theorem dMD_part_52 : decode cMD_part 52 = .ok (.goto 14, 3) := by decide +kernel
theorem dMD_part_55 : decode cMD_part 55 = .ok (.aload_n 0, 1) := by decide +kernel
theorem dMD_part_56 : decode cMD_part 56 = .ok (.getfield 21, 3) := by decide +kernel
theorem dMD_part_59 : decode cMD_part 59 = .ok (.iload_n 1, 1) := by decide +kernel
theorem dMD_part_60 : decode cMD_part 60 = .ok (.aaload, 1) := by decide +kernel
theorem dMD_part_61 : decode cMD_part 61 = .ok (.getfield 75, 3) := by decide +kernel
theorem dMD_part_64 : decode cMD_part 64 = .ok (.iconst 1, 1) := by decide +kernel
theorem dMD_part_65 : decode cMD_part 65 = .ok (.isub, 1) := by decide +kernel
theorem dMD_part_66 : decode cMD_part 66 = .ok (.istore_n 3, 1) := by decide +kernel
theorem dMD_part_67 : decode cMD_part 67 = .ok (.iconst 0, 1) := by decide +kernel
theorem dMD_part_68 : decode cMD_part 68 = .ok (.istore 4, 2) := by decide +kernel
theorem dMD_part_70 : decode cMD_part 70 = .ok (.iload 4, 2) := by decide +kernel
theorem dMD_part_72 : decode cMD_part 72 = .ok (.aload_n 0, 1) := by decide +kernel
theorem dMD_part_73 : decode cMD_part 73 = .ok (.getfield 21, 3) := by decide +kernel
theorem dMD_part_76 : decode cMD_part 76 = .ok (.iload_n 1, 1) := by decide +kernel
theorem dMD_part_77 : decode cMD_part 77 = .ok (.aaload, 1) := by decide +kernel
theorem dMD_part_78 : decode cMD_part 78 = .ok (.getfield 75, 3) := by decide +kernel
theorem dMD_part_81 : decode cMD_part 81 = .ok (.if_icmp .ge 27, 3) := by decide +kernel
theorem dMD_part_84 : decode cMD_part 84 = .ok (.iload_n 3, 1) := by decide +kernel
theorem dMD_part_85 : decode cMD_part 85 = .ok (.aload_n 0, 1) := by decide +kernel
theorem dMD_part_86 : decode cMD_part 86 = .ok (.getfield 21, 3) := by decide +kernel
theorem dMD_part_89 : decode cMD_part 89 = .ok (.iload_n 1, 1) := by decide +kernel
theorem dMD_part_90 : decode cMD_part 90 = .ok (.aaload, 1) := by decide +kernel
theorem dMD_part_91 : decode cMD_part 91 = .ok (.getfield 78, 3) := by decide +kernel
theorem dMD_part_94 : decode cMD_part 94 = .ok (.iload 4, 2) := by decide +kernel
theorem dMD_part_96 : decode cMD_part 96 = .ok (.aaload, 1) := by decide +kernel
theorem dMD_part_97 : decode cMD_part 97 = .ok (.invokevirtual 44, 3) := by decide +kernel
theorem dMD_part_100 : decode cMD_part 100 = .ok (.iadd, 1) := by decide +kernel
theorem dMD_part_101 : decode cMD_part 101 = .ok (.istore_n 3, 1) := by decide +kernel
theorem dMD_part_102 : decode cMD_part 102 = .ok (.iinc 4 1, 3) := by decide +kernel
theorem dMD_part_105 : decode cMD_part 105 = .ok (.goto (-35), 3) := by decide +kernel
theorem dMD_part_108 : decode cMD_part 108 = .ok (.iload_n 3, 1) := by decide +kernel
theorem dMD_part_109 : decode cMD_part 109 = .ok (.ireturn, 1) := by decide +kernel
theorem dMD_rank_0 : decode cMD_rank 0 = .ok (.aload_n 0, 1) := by decide +kernel
theorem dMD_rank_1 : decode cMD_rank 1 = .ok (.iload_n 1, 1) := by decide +kernel
theorem dMD_rank_2 : decode cMD_rank 2 = .ok (.invokevirtual 165, 3) := by decide +kernel
theorem dMD_rank_5 : decode cMD_rank 5 = .ok (.ifCond .ne 6, 3) := by decide +kernel
theorem dMD_rank_8 : decode cMD_rank 8 = .ok (.bipush (-2), 2) := by decide +kernel
theorem dMD_rank_10 : decode cMD_rank 10 = .ok (.ireturn, 1) := by decide +kernel
theorem dMD_rank_11 : decode cMD_rank 11 = .ok (.iconst 0, 1) := by decide +kernel
theorem dMD_rank_12 : decode cMD_rank 12 = .ok (.istore_n 2, 1) := by decide +kernel
theorem dMD_rank_13 : decode cMD_rank 13 = .ok (.iconst 0, 1) := by decide +kernel
theorem dMD_rank_14 : decode cMD_rank 14 = .ok (.istore_n 3, 1) := by decide +kernel
theorem dMD_rank_15 : decode cMD_rank 15 = .ok (.iload_n 3, 1) := by decide +kernel
theorem dMD_rank_16 : decode cMD_rank 16 = .ok (.aload_n 0, 1) := by decide +kernel
theorem dMD_rank_17 : decode cMD_rank 17 = .ok (.getfield 162, 3) := by decide +kernel
theorem dMD_rank_20 : decode cMD_rank 20 = .ok (.if_icmp .ge 35, 3) := by decide +kernel
theorem dMD_rank_23 : decode cMD_rank 23 = .ok (.iload_n 2, 1) := by decide +kernel
theorem dMD_rank_24 : decode cMD_rank 24 = .ok (.aload_n 0, 1) := by decide +kernel
theorem dMD_rank_25 : decode cMD_rank 25 = .ok (.getfield 21, 3) := by decide +kernel
theorem dMD_rank_28 : decode cMD_rank 28 = .ok (.iload_n 3, 1) := by decide +kernel
theorem dMD_rank_29 : decode cMD_rank 29 = .ok (.aaload, 1) := by decide +kernel
theorem dMD_rank_30 : decode cMD_rank 30 = .ok (.aload_n 0, 1) := by decide +kernel
theorem dMD_rank_31 : decode cMD_rank 31 = .ok (.getfield 21, 3) := by decide +kernel
theorem dMD_rank_34 : decode cMD_rank 34 = .ok (.iload_n 1, 1) := by decide +kernel
theorem dMD_rank_35 : decode cMD_rank 35 = .ok (.aaload, 1) := by decide +kernel
theorem dMD_rank_36 : decode cMD_rank 36 = .ok (.invokestatic 147, 3) := by decide +kernel
theorem dMD_rank_39 : decode cMD_rank 39 = .ok (.ifCond .ge 7, 3) := by decide +kernel
theorem dMD_rank_42 : decode cMD_rank 42 = .ok (.iconst 1, 1) := by decide +kernel
theorem dMD_rank_43 : decode cMD_rank 43 = .ok (.goto 4, 3) := by decide +kernel
theorem dMD_rank_46 : decode cMD_rank 46 = .ok (.iconst 0, 1) := by decide +kernel
theorem dMD_rank_47 : decode cMD_rank 47 = .ok (.iadd, 1) := by decide +kernel
theorem dMD_rank_48 : decode cMD_rank 48 = .ok (.istore_n 2, 1) := by decide +kernel
theorem dMD_rank_49 : decode cMD_rank 49 = .ok (.iinc 3 1, 3) := by decide +kernel
theorem dMD_rank_52 : decode cMD_rank 52 = .ok (.goto (-37), 3) := by decide +kernel
theorem dMD_rank_55 : decode cMD_rank 55 = .ok (.iload_n 2, 1) := by decide +kernel
theorem dMD_rank_56 : decode cMD_rank 56 = .ok (.ireturn, 1) := by decide +kernel
theorem dMD_match_0 : decode cMD_match 0 = .ok (.aload_n 0, 1) := by decide +kernel
theorem dMD_match_1 : decode cMD_match 1 = .ok (.invokevirtual 159, 3) := by decide +kernel
theorem dMD_match_4 : decode cMD_match 4 = .ok (.aload_n 0, 1) := by decide +kernel
theorem dMD_match_5 : decode cMD_match 5 = .ok (.invokevirtual 169, 3) := by decide +kernel
theorem dMD_match_8 : decode cMD_match 8 = .ok (.astore_n 1, 1) := by decide +kernel
theorem dMD_match_9 : decode cMD_match 9 = .ok (.aload_n 1, 1) := by decide +kernel
theorem dMD_match_10 : decode cMD_match 10 = .ok (.ifnull 14, 3) := by decide +kernel
theorem dMD_match_13 : decode cMD_match 13 = .ok (.aload_n 0, 1) := by decide +kernel
theorem dMD_match_14 : decode cMD_match 14 = .ok (.getfield 36, 3) := by decide +kernel
theorem dMD_match_17 : decode cMD_match 17 = .ok (.aload_n 0, 1) := by decide +kernel
theorem dMD_match_18 : decode cMD_match 18 = .ok (.getfield 33, 3) := by decide +kernel
theorem dMD_match_21 : decode cMD_match 21 = .ok (.if_icmp .ge 6, 3) := by decide +kernel
theorem dMD_match_24 : decode cMD_match 24 = .ok (.bipush (-4), 2) := by decide +kernel
theorem dMD_match_26 : decode cMD_match 26 = .ok (.ireturn, 1) := by decide +kernel
theorem dMD_match_27 : decode cMD_match 27 = .ok (.iconst 0, 1) := by decide +kernel
theorem dMD_match_28 : decode cMD_match 28 = .ok (.istore_n 2, 1) := by decide +kernel
theorem dMD_match_29 : decode cMD_match 29 = .ok (.iconst 0, 1) := by decide +kernel
theorem dMD_match_30 : decode cMD_match 30 = .ok (.istore_n 3, 1) := by decide +kernel
theorem dMD_match_31 : decode cMD_match 31 = .ok (.iload_n 3, 1) := by decide +kernel
theorem dMD_match_32 : decode cMD_match 32 = .ok (.aload_n 0, 1) := by decide +kernel
theorem dMD_match_33 : decode cMD_match 33 = .ok (.getfield 162, 3) := by decide +kernel
theorem dMD_match_36 : decode cMD_match 36 = .ok (.if_icmp .ge 32, 3) := by decide +kernel
theorem dMD_match_39 : decode cMD_match 39 = .ok (.iload_n 2, 1) := by decide +kernel
theorem dMD_match_40 : decode cMD_match 40 = .ok (.aload_n 0, 1) := by decide +kernel
theorem dMD_match_41 : decode cMD_match 41 = .ok (.getfield 21, 3) := by decide +kernel
theorem dMD_match_44 : decode cMD_match 44 = .ok (.iload_n 3, 1) := by decide +kernel
theorem dMD_match_45 : decode cMD_match 45 = .ok (.aaload, 1) := by decide +kernel
theorem dMD_match_46 : decode cMD_match 46 = .ok (.aload_n 1, 1) := by decide +kernel
theorem dMD_match_47 : decode cMD_match 47 = .ok (.invokestatic 173, 3) := by decide +kernel
theorem dMD_match_50 : decode cMD_match 50 = .ok (.ifCond .eq 9, 3) := by decide +kernel
theorem dMD_match_53 : decode cMD_match 53 = .ok (.iconst 1, 1) := by decide +kernel
theorem dMD_match_54 : decode cMD_match 54 = .ok (.iload_n 3, 1) := by decide +kernel
theorem dMD_match_55 : decode cMD_match 55 = .ok (.ishl, 1) := by decide +kernel
theorem dMD_match_56 : decode cMD_match 56 = .ok (.goto 4, 3) := by decide +kernel
theorem dMD_match_59 : decode cMD_match 59 = .ok (.iconst 0, 1) := by decide +kernel
theorem dMD_match_60 : decode cMD_match 60 = .ok (.ior, 1) := by decide +kernel
theorem dMD_match_61 : decode cMD_match 61 = .ok (.istore_n 2, 1) := by decide +kernel
theorem dMD_match_62 : decode cMD_match 62 = .ok (.iinc 3 1, 3) := by decide +kernel
theorem dMD_match_65 : decode cMD_match 65 = .ok (.goto (-34), 3) := by decide +kernel
theorem dMD_match_68 : decode cMD_match 68 = .ok (.iload_n 2, 1) := by decide +kernel
theorem dMD_match_69 : decode cMD_match 69 = .ok (.ireturn, 1) := by decide +kernel
theorem dMD_clear_0 : decode cMD_clear 0 = .ok (.aload_n 0, 1) := by decide +kernel
theorem dMD_clear_1 : decode cMD_clear 1 = .ok (.getfield 162, 3) := by decide +kernel
theorem dMD_clear_4 : decode cMD_clear 4 = .ok (.istore_n 1, 1) := by decide +kernel
theorem dMD_clear_5 : decode cMD_clear 5 = .ok (.aload_n 0, 1) := by decide +kernel
theorem dMD_clear_6 : decode cMD_clear 6 = .ok (.iconst 0, 1) := by decide +kernel
theorem dMD_clear_7 : decode cMD_clear 7 = .ok (.putfield 162, 3) := by decide +kernel
theorem dMD_clear_10 : decode cMD_clear 10 = .ok (.iload_n 1, 1) := by decide +kernel
theorem dMD_clear_11 : decode cMD_clear 11 = .ok (.ireturn, 1) := by decide +kernel
theorem dMR_init_0 : decode cMR_init 0 = .ok (.aload_n 0, 1) := by decide +kernel
theorem dMR_init_1 : decode cMR_init 1 = .ok (.invokespecial 1, 3) := by decide +kernel
theorem dMR_init_4 : decode cMR_init 4 = .ok (.aload_n 0, 1) := by decide +kernel
theorem dMR_init_5 : decode cMR_init 5 = .ok (.bipush 16, 2) := by decide +kernel
theorem dMR_init_7 : decode cMR_init 7 = .ok (.newarray .int, 2) := by decide +kernel
theorem dMR_init_9 : decode cMR_init 9 = .ok (.putfield 7, 3) := by decide +kernel
theorem dMR_init_12 : decode cMR_init 12 = .ok (.aload_n 0, 1) := by decide +kernel
theorem dMR_init_13 : decode cMR_init 13 = .ok (.bipush 16, 2) := by decide +kernel
theorem dMR_init_15 : decode cMR_init 15 = .ok (.anewarray 13, 3) := by decide +kernel
theorem dMR_init_18 : decode cMR_init 18 = .ok (.putfield 15, 3) := by decide +kernel
theorem dMR_init_21 : decode cMR_init 21 = .ok (.aload_n 0, 1) := by decide +kernel
theorem dMR_init_22 : decode cMR_init 22 = .ok (.iconst 4, 1) := by decide +kernel
theorem dMR_init_23 : decode cMR_init 23 = .ok (.newarray .int, 2) := by decide +kernel
theorem dMR_init_25 : decode cMR_init 25 = .ok (.putfield 19, 3) := by decide +kernel
theorem dMR_init_28 : decode cMR_init 28 = .ok (.return_, 1) := by decide +kernel
theorem dMV_init_0 : decode cMV_init 0 = .ok (.aload_n 0, 1) := by decide +kernel
theorem dMV_init_1 : decode cMV_init 1 = .ok (.invokespecial 1, 3) := by decide +kernel
theorem dMV_init_4 : decode cMV_init 4 = .ok (.aload_n 0, 1) := by decide +kernel
theorem dMV_init_5 : decode cMV_init 5 = .ok (.iconst 3, 1) := by decide +kernel
theorem dMV_init_6 : decode cMV_init 6 = .ok (.newarray .int, 2) := by decide +kernel
theorem dMV_init_8 : decode cMV_init 8 = .ok (.putfield 7, 3) := by decide +kernel
theorem dMV_init_11 : decode cMV_init 11 = .ok (.aload_n 0, 1) := by decide +kernel
theorem dMV_init_12 : decode cMV_init 12 = .ok (.iconst 4, 1) := by decide +kernel
theorem dMV_init_13 : decode cMV_init 13 = .ok (.anewarray 13, 3) := by decide +kernel
theorem dMV_init_16 : decode cMV_init 16 = .ok (.putfield 15, 3) := by decide +kernel
theorem dMV_init_19 : decode cMV_init 19 = .ok (.return_, 1) := by decide +kernel
