theorem dX1_init_0 : decode cX1_init 0 = .ok (.aload_n 0, 1) := by decide +kernel
theorem dX1_init_1 : decode cX1_init 1 = .ok (.invokespecial 1, 3) := by decide +kernel
theorem dX1_init_4 : decode cX1_init 4 = .ok (.aload_n 0, 1) := by decide +kernel
theorem dX1_init_5 : decode cX1_init 5 = .ok (.getstatic 7, 3) := by decide +kernel
theorem dX1_init_8 : decode cX1_init 8 = .ok (.putfield 13, 3) := by decide +kernel
theorem dX1_init_11 : decode cX1_init 11 = .ok (.return_, 1) := by decide +kernel
theorem dX2_init_0 : decode cX2_init 0 = .ok (.aload_n 0, 1) := by decide +kernel
theorem dX2_init_1 : decode cX2_init 1 = .ok (.invokespecial 3, 3) := by decide +kernel
theorem dX2_init_4 : decode cX2_init 4 = .ok (.aload_n 0, 1) := by decide +kernel
theorem dX2_init_5 : decode cX2_init 5 = .ok (.bipush 9, 2) := by decide +kernel
theorem dX2_init_7 : decode cX2_init 7 = .ok (.anewarray 9, 3) := by decide +kernel
theorem dX2_init_10 : decode cX2_init 10 = .ok (.putfield 11, 3) := by decide +kernel
theorem dX2_init_13 : decode cX2_init 13 = .ok (.iconst 0, 1) := by decide +kernel
theorem dX2_init_14 : decode cX2_init 14 = .ok (.istore_n 1, 1) := by decide +kernel
theorem dX2_init_15 : decode cX2_init 15 = .ok (.iload_n 1, 1) := by decide +kernel
theorem dX2_init_16 : decode cX2_init 16 = .ok (.aload_n 0, 1) := by decide +kernel
theorem dX2_init_17 : decode cX2_init 17 = .ok (.getfield 11, 3) := by decide +kernel
theorem dX2_init_20 : decode cX2_init 20 = .ok (.arraylength, 1) := by decide +kernel
theorem dX2_init_21 : decode cX2_init 21 = .ok (.if_icmp .ge 22, 3) := by decide +kernel
theorem dX2_init_24 : decode cX2_init 24 = .ok (.aload_n 0, 1) := by decide +kernel
theorem dX2_init_25 : decode cX2_init 25 = .ok (.getfield 11, 3) := by decide +kernel
theorem dX2_init_28 : decode cX2_init 28 = .ok (.iload_n 1, 1) := by decide +kernel
theorem dX2_init_29 : decode cX2_init 29 = .ok (.new 9, 3) := by decide +kernel
theorem dX2_init_32 : decode cX2_init 32 = .ok (.dup, 1) := by decide +kernel
theorem dX2_init_33 : decode cX2_init 33 = .ok (.invokespecial 17, 3) := by decide +kernel
theorem dX2_init_36 : decode cX2_init 36 = .ok (.aastore, 1) := by decide +kernel
theorem dX2_init_37 : decode cX2_init 37 = .ok (.iinc 1 1, 3) := by decide +kernel
theorem dX2_init_40 : decode cX2_init 40 = .ok (.goto (-25), 3) := by decide +kernel
theorem dX2_init_43 : decode cX2_init 43 = .ok (.return_, 1) := by decide +kernel
theorem dX2_remember_0 : decode cX2_remember 0 = .ok (.aload_n 0, 1) := by decide +kernel
theorem dX2_remember_1 : decode cX2_remember 1 = .ok (.getfield 11, 3) := by decide +kernel
theorem dX2_remember_4 : decode cX2_remember 4 = .ok (.aload_n 0, 1) := by decide +kernel
theorem dX2_remember_5 : decode cX2_remember 5 = .ok (.getfield 18, 3) := by decide +kernel
theorem dX2_remember_8 : decode cX2_remember 8 = .ok (.aaload, 1) := by decide +kernel
theorem dX2_remember_9 : decode cX2_remember 9 = .ok (.aload_n 1, 1) := by decide +kernel
theorem dX2_remember_10 : decode cX2_remember 10 = .ok (.invokevirtual 22, 3) := by decide +kernel
theorem dX2_remember_13 : decode cX2_remember 13 = .ok (.return_, 1) := by decide +kernel
theorem dX2_takeBack_0 : decode cX2_takeBack 0 = .ok (.aload_n 1, 1) := by decide +kernel
theorem dX2_takeBack_1 : decode cX2_takeBack 1 = .ok (.aload_n 0, 1) := by decide +kernel
theorem dX2_takeBack_2 : decode cX2_takeBack 2 = .ok (.getfield 11, 3) := by decide +kernel
theorem dX2_takeBack_5 : decode cX2_takeBack 5 = .ok (.aload_n 0, 1) := by decide +kernel
theorem dX2_takeBack_6 : decode cX2_takeBack 6 = .ok (.getfield 18, 3) := by decide +kernel
theorem dX2_takeBack_9 : decode cX2_takeBack 9 = .ok (.aaload, 1) := by decide +kernel
theorem dX2_takeBack_10 : decode cX2_takeBack 10 = .ok (.invokevirtual 22, 3) := by decide +kernel
theorem dX2_takeBack_13 : decode cX2_takeBack 13 = .ok (.return_, 1) := by decide +kernel
theorem dX2_keep_0 : decode cX2_keep 0 = .ok (.aload_n 0, 1) := by decide +kernel
theorem dX2_keep_1 : decode cX2_keep 1 = .ok (.aload_n 0, 1) := by decide +kernel
theorem dX2_keep_2 : decode cX2_keep 2 = .ok (.getfield 18, 3) := by decide +kernel
theorem dX2_keep_5 : decode cX2_keep 5 = .ok (.bipush 8, 2) := by decide +kernel
theorem dX2_keep_7 : decode cX2_keep 7 = .ok (.if_icmp .ne 7, 3) := by decide +kernel
theorem dX2_keep_10 : decode cX2_keep 10 = .ok (.iconst 0, 1) := by decide +kernel
theorem dX2_keep_11 : decode cX2_keep 11 = .ok (.goto 9, 3) := by decide +kernel
theorem dX2_keep_14 : decode cX2_keep 14 = .ok (.aload_n 0, 1) := by decide +kernel
theorem dX2_keep_15 : decode cX2_keep 15 = .ok (.getfield 18, 3) := by decide +kernel
theorem dX2_keep_18 : decode cX2_keep 18 = .ok (.iconst 1, 1) := by decide +kernel
theorem dX2_keep_19 : decode cX2_keep 19 = .ok (.iadd, 1) := by decide +kernel
theorem dX2_keep_20 : decode cX2_keep 20 = .ok (.putfield 18, 3) := by decide +kernel
theorem dX2_keep_23 : decode cX2_keep 23 = .ok (.aload_n 0, 1) := by decide +kernel
theorem dX2_keep_24 : decode cX2_keep 24 = .ok (.aload_n 0, 1) := by decide +kernel
theorem dX2_keep_25 : decode cX2_keep 25 = .ok (.getfield 26, 3) := by decide +kernel
theorem dX2_keep_28 : decode cX2_keep 28 = .ok (.iconst 1, 1) := by decide +kernel
theorem dX2_keep_29 : decode cX2_keep 29 = .ok (.iadd, 1) := by decide +kernel
theorem dX2_keep_30 : decode cX2_keep 30 = .ok (.bipush 8, 2) := by decide +kernel
theorem dX2_keep_32 : decode cX2_keep 32 = .ok (.invokestatic 29, 3) := by decide +kernel
theorem dX2_keep_35 : decode cX2_keep 35 = .ok (.putfield 26, 3) := by decide +kernel
theorem dX2_keep_38 : decode cX2_keep 38 = .ok (.return_, 1) := by decide +kernel
theorem dX2_goBack_0 : decode cX2_goBack 0 = .ok (.aload_n 0, 1) := by decide +kernel
theorem dX2_goBack_1 : decode cX2_goBack 1 = .ok (.aload_n 0, 1) := by decide +kernel
theorem dX2_goBack_2 : decode cX2_goBack 2 = .ok (.getfield 18, 3) := by decide +kernel
theorem dX2_goBack_5 : decode cX2_goBack 5 = .ok (.ifCond .ne 8, 3) := by decide +kernel
theorem dX2_goBack_8 : decode cX2_goBack 8 = .ok (.bipush 8, 2) := by decide +kernel
theorem dX2_goBack_10 : decode cX2_goBack 10 = .ok (.goto 9, 3) := by decide +kernel
theorem dX2_goBack_13 : decode cX2_goBack 13 = .ok (.aload_n 0, 1) := by decide +kernel
theorem dX2_goBack_14 : decode cX2_goBack 14 = .ok (.getfield 18, 3) := by decide +kernel
theorem dX2_goBack_17 : decode cX2_goBack 17 = .ok (.iconst 1, 1) := by decide +kernel
theorem dX2_goBack_18 : decode cX2_goBack 18 = .ok (.isub, 1) := by decide +kernel
theorem dX2_goBack_19 : decode cX2_goBack 19 = .ok (.putfield 18, 3) := by decide +kernel
theorem dX2_goBack_22 : decode cX2_goBack 22 = .ok (.aload_n 0, 1) := by decide +kernel
theorem dX2_goBack_23 : decode cX2_goBack 23 = .ok (.dup, 1) := by decide +kernel
theorem dX2_goBack_24 : decode cX2_goBack 24 = .ok (.getfield 26, 3) := by decide +kernel
theorem dX2_goBack_27 : decode cX2_goBack 27 = .ok (.iconst 1, 1) := by decide +kernel
theorem dX2_goBack_28 : decode cX2_goBack 28 = .ok (.isub, 1) := by decide +kernel
theorem dX2_goBack_29 : decode cX2_goBack 29 = .ok (.putfield 26, 3) := by decide +kernel
theorem dX2_goBack_32 : decode cX2_goBack 32 = .ok (.aload_n 0, 1) := by decide +kernel
theorem dX2_goBack_33 : decode cX2_goBack 33 = .ok (.aload_n 1, 1) := by decide +kernel
theorem dX2_goBack_34 : decode cX2_goBack 34 = .ok (.invokevirtual 35, 3) := by decide +kernel
theorem dX2_goBack_37 : decode cX2_goBack 37 = .ok (.return_, 1) := by decide +kernel
theorem dX4_init_0 : decode cX4_init 0 = .ok (.aload_n 0, 1) := by decide +kernel
theorem dX4_init_1 : decode cX4_init 1 = .ok (.invokespecial 1, 3) := by decide +kernel
theorem dX4_init_4 : decode cX4_init 4 = .ok (.aload_n 0, 1) := by decide +kernel
theorem dX4_init_5 : decode cX4_init 5 = .ok (.bipush 64, 2) := by decide +kernel
theorem dX4_init_7 : decode cX4_init 7 = .ok (.newarray .char, 2) := by decide +kernel
theorem dX4_init_9 : decode cX4_init 9 = .ok (.putfield 9, 3) := by decide +kernel
theorem dX4_init_12 : decode cX4_init 12 = .ok (.return_, 1) := by decide +kernel
theorem dX4_put_0 : decode cX4_put 0 = .ok (.aload_n 0, 1) := by decide +kernel
theorem dX4_put_1 : decode cX4_put 1 = .ok (.getfield 13, 3) := by decide +kernel
theorem dX4_put_4 : decode cX4_put 4 = .ok (.bipush 64, 2) := by decide +kernel
theorem dX4_put_6 : decode cX4_put 6 = .ok (.if_icmp .ge 23, 3) := by decide +kernel
theorem dX4_put_9 : decode cX4_put 9 = .ok (.aload_n 0, 1) := by decide +kernel
theorem dX4_put_10 : decode cX4_put 10 = .ok (.getfield 9, 3) := by decide +kernel
theorem dX4_put_13 : decode cX4_put 13 = .ok (.aload_n 0, 1) := by decide +kernel
theorem dX4_put_14 : decode cX4_put 14 = .ok (.getfield 13, 3) := by decide +kernel
theorem dX4_put_17 : decode cX4_put 17 = .ok (.iload_n 1, 1) := by decide +kernel
theorem dX4_put_18 : decode cX4_put 18 = .ok (.castore, 1) := by decide +kernel
theorem dX4_put_19 : decode cX4_put 19 = .ok (.aload_n 0, 1) := by decide +kernel
theorem dX4_put_20 : decode cX4_put 20 = .ok (.dup, 1) := by decide +kernel
theorem dX4_put_21 : decode cX4_put 21 = .ok (.getfield 13, 3) := by decide +kernel
theorem dX4_put_24 : decode cX4_put 24 = .ok (.iconst 1, 1) := by decide +kernel
theorem dX4_put_25 : decode cX4_put 25 = .ok (.iadd, 1) := by decide +kernel
theorem dX4_put_26 : decode cX4_put 26 = .ok (.putfield 13, 3) := by decide +kernel
theorem dX4_put_29 : decode cX4_put 29 = .ok (.return_, 1) := by decide +kernel
theorem dX4_putDigit_0 : decode cX4_putDigit 0 = .ok (.aload_n 0, 1) := by decide +kernel
theorem dX4_putDigit_1 : decode cX4_putDigit 1 = .ok (.bipush 48, 2) := by decide +kernel
theorem dX4_putDigit_3 : decode cX4_putDigit 3 = .ok (.iload_n 1, 1) := by decide +kernel
theorem dX4_putDigit_4 : decode cX4_putDigit 4 = .ok (.iadd, 1) := by decide +kernel
theorem dX4_putDigit_5 : decode cX4_putDigit 5 = .ok (.i2c, 1) := by decide +kernel
theorem dX4_putDigit_6 : decode cX4_putDigit 6 = .ok (.invokevirtual 17, 3) := by decide +kernel
theorem dX4_putDigit_9 : decode cX4_putDigit 9 = .ok (.return_, 1) := by decide +kernel
theorem dX4_putWhole_0 : decode cX4_putWhole 0 = .ok (.iconst 1, 1) := by decide +kernel
theorem dX4_putWhole_1 : decode cX4_putWhole 1 = .ok (.istore_n 3, 1) := by decide +kernel
theorem dX4_putWhole_2 : decode cX4_putWhole 2 = .ok (.bipush 9, 2) := by decide +kernel
theorem dX4_putWhole_4 : decode cX4_putWhole 4 = .ok (.istore 4, 2) := by decide +kernel
theorem dX4_putWhole_6 : decode cX4_putWhole 6 = .ok (.iload 4, 2) := by decide +kernel
theorem dX4_putWhole_8 : decode cX4_putWhole 8 = .ok (.ifCond .lt 47, 3) := by decide +kernel
theorem dX4_putWhole_11 : decode cX4_putWhole 11 = .ok (.lload_n 1, 1) := by decide +kernel
theorem dX4_putWhole_12 : decode cX4_putWhole 12 = .ok (.iload 4, 2) := by decide +kernel
theorem dX4_putWhole_14 : decode cX4_putWhole 14 = .ok (.invokestatic 21, 3) := by decide +kernel
theorem dX4_putWhole_17 : decode cX4_putWhole 17 = .ok (.istore 5, 2) := by decide +kernel
theorem dX4_putWhole_19 : decode cX4_putWhole 19 = .ok (.iload_n 3, 1) := by decide +kernel
theorem dX4_putWhole_20 : decode cX4_putWhole 20 = .ok (.ifCond .eq 17, 3) := by decide +kernel
theorem dX4_putWhole_23 : decode cX4_putWhole 23 = .ok (.iload 5, 2) := by decide +kernel
theorem dX4_putWhole_25 : decode cX4_putWhole 25 = .ok (.ifCond .ne 12, 3) := by decide +kernel
theorem dX4_putWhole_28 : decode cX4_putWhole 28 = .ok (.iload 4, 2) := by decide +kernel
theorem dX4_putWhole_30 : decode cX4_putWhole 30 = .ok (.ifCond .le 7, 3) := by decide +kernel
theorem dX4_putWhole_33 : decode cX4_putWhole 33 = .ok (.iconst 1, 1) := by decide +kernel
theorem dX4_putWhole_34 : decode cX4_putWhole 34 = .ok (.goto 4, 3) := by decide +kernel
theorem dX4_putWhole_37 : decode cX4_putWhole 37 = .ok (.iconst 0, 1) := by decide +kernel
theorem dX4_putWhole_38 : decode cX4_putWhole 38 = .ok (.istore_n 3, 1) := by decide +kernel
theorem dX4_putWhole_39 : decode cX4_putWhole 39 = .ok (.iload_n 3, 1) := by decide +kernel
theorem dX4_putWhole_40 : decode cX4_putWhole 40 = .ok (.ifCond .ne 9, 3) := by decide +kernel
theorem dX4_putWhole_43 : decode cX4_putWhole 43 = .ok (.aload_n 0, 1) := by decide +kernel
theorem dX4_putWhole_44 : decode cX4_putWhole 44 = .ok (.iload 5, 2) := by decide +kernel
theorem dX4_putWhole_46 : decode cX4_putWhole 46 = .ok (.invokevirtual 27, 3) := by decide +kernel
theorem dX4_putWhole_49 : decode cX4_putWhole 49 = .ok (.iinc 4 (-1), 3) := by decide +kernel
theorem dX4_putWhole_52 : decode cX4_putWhole 52 = .ok (.goto (-46), 3) := by decide +kernel
theorem dX4_putWhole_55 : decode cX4_putWhole 55 = .ok (.return_, 1) := by decide +kernel
theorem dX4_putQuotientDigits_0 : decode cX4_putQuotientDigits 0 = .ok (.iload_n 1, 1) := by decide +kernel
theorem dX4_putQuotientDigits_1 : decode cX4_putQuotientDigits 1 = .ok (.istore 4, 2) := by decide +kernel
theorem dX4_putQuotientDigits_3 : decode cX4_putQuotientDigits 3 = .ok (.iconst 0, 1) := by decide +kernel
theorem dX4_putQuotientDigits_4 : decode cX4_putQuotientDigits 4 = .ok (.istore 5, 2) := by decide +kernel
theorem dX4_putQuotientDigits_6 : decode cX4_putQuotientDigits 6 = .ok (.iload 5, 2) := by decide +kernel
theorem dX4_putQuotientDigits_8 : decode cX4_putQuotientDigits 8 = .ok (.iload_n 3, 1) := by decide +kernel
theorem dX4_putQuotientDigits_9 : decode cX4_putQuotientDigits 9 = .ok (.if_icmp .ge 29, 3) := by decide +kernel
theorem dX4_putQuotientDigits_12 : decode cX4_putQuotientDigits 12 = .ok (.aload_n 0, 1) := by decide +kernel
theorem dX4_putQuotientDigits_13 : decode cX4_putQuotientDigits 13 = .ok (.iload 4, 2) := by decide +kernel
theorem dX4_putQuotientDigits_15 : decode cX4_putQuotientDigits 15 = .ok (.bipush 10, 2) := by decide +kernel
theorem dX4_putQuotientDigits_17 : decode cX4_putQuotientDigits 17 = .ok (.imul, 1) := by decide +kernel
theorem dX4_putQuotientDigits_18 : decode cX4_putQuotientDigits 18 = .ok (.iload_n 2, 1) := by decide +kernel
theorem dX4_putQuotientDigits_19 : decode cX4_putQuotientDigits 19 = .ok (.idiv, 1) := by decide +kernel
theorem dX4_putQuotientDigits_20 : decode cX4_putQuotientDigits 20 = .ok (.invokevirtual 27, 3) := by decide +kernel
theorem dX4_putQuotientDigits_23 : decode cX4_putQuotientDigits 23 = .ok (.iload 4, 2) := by decide +kernel
theorem dX4_putQuotientDigits_25 : decode cX4_putQuotientDigits 25 = .ok (.bipush 10, 2) := by decide +kernel
theorem dX4_putQuotientDigits_27 : decode cX4_putQuotientDigits 27 = .ok (.imul, 1) := by decide +kernel
theorem dX4_putQuotientDigits_28 : decode cX4_putQuotientDigits 28 = .ok (.iload_n 2, 1) := by decide +kernel
theorem dX4_putQuotientDigits_29 : decode cX4_putQuotientDigits 29 = .ok (.irem, 1) := by decide +kernel
theorem dX4_putQuotientDigits_30 : decode cX4_putQuotientDigits 30 = .ok (.istore 4, 2) := by decide +kernel
theorem dX4_putQuotientDigits_32 : decode cX4_putQuotientDigits 32 = .ok (.iinc 5 1, 3) := by decide +kernel
theorem dX4_putQuotientDigits_35 : decode cX4_putQuotientDigits 35 = .ok (.goto (-29), 3) := by decide +kernel
theorem dX4_putQuotientDigits_38 : decode cX4_putQuotientDigits 38 = .ok (.iload 4, 2) := by decide +kernel
theorem dX4_putQuotientDigits_40 : decode cX4_putQuotientDigits 40 = .ok (.ireturn, 1) := by decide +kernel
theorem dX5_init_0 : decode cX5_init 0 = .ok (.aload_n 0, 1) := by decide +kernel
theorem dX5_init_1 : decode cX5_init 1 = .ok (.invokespecial 3, 3) := by decide +kernel
theorem dX5_init_4 : decode cX5_init 4 = .ok (.aload_n 0, 1) := by decide +kernel
theorem dX5_init_5 : decode cX5_init 5 = .ok (.sipush 1000, 3) := by decide +kernel
theorem dX5_init_8 : decode cX5_init 8 = .ok (.newarray .int, 2) := by decide +kernel
theorem dX5_init_10 : decode cX5_init 10 = .ok (.putfield 9, 3) := by decide +kernel
theorem dX5_init_13 : decode cX5_init 13 = .ok (.return_, 1) := by decide +kernel
theorem dX5_divide_0 : decode cX5_divide 0 = .ok (.aload_n 0, 1) := by decide +kernel
theorem dX5_divide_1 : decode cX5_divide 1 = .ok (.getfield 9, 3) := by decide +kernel
theorem dX5_divide_4 : decode cX5_divide 4 = .ok (.iconst (-1), 1) := by decide +kernel
theorem dX5_divide_5 : decode cX5_divide 5 = .ok (.invokestatic 15, 3) := by decide +kernel
theorem dX5_divide_8 : decode cX5_divide 8 = .ok (.iload_n 1, 1) := by decide +kernel
theorem dX5_divide_9 : decode cX5_divide 9 = .ok (.iload_n 2, 1) := by decide +kernel
theorem dX5_divide_10 : decode cX5_divide 10 = .ok (.irem, 1) := by decide +kernel
theorem dX5_divide_11 : decode cX5_divide 11 = .ok (.istore_n 3, 1) := by decide +kernel
theorem dX5_divide_12 : decode cX5_divide 12 = .ok (.iconst 0, 1) := by decide +kernel
theorem dX5_divide_13 : decode cX5_divide 13 = .ok (.istore 4, 2) := by decide +kernel
theorem dX5_divide_15 : decode cX5_divide 15 = .ok (.iload 4, 2) := by decide +kernel
theorem dX5_divide_17 : decode cX5_divide 17 = .ok (.iload_n 2, 1) := by decide +kernel
theorem dX5_divide_18 : decode cX5_divide 18 = .ok (.if_icmp .gt 34, 3) := by decide +kernel
theorem dX5_divide_21 : decode cX5_divide 21 = .ok (.aload_n 0, 1) := by decide +kernel
theorem dX5_divide_22 : decode cX5_divide 22 = .ok (.getfield 9, 3) := by decide +kernel
theorem dX5_divide_25 : decode cX5_divide 25 = .ok (.iload_n 3, 1) := by decide +kernel
theorem dX5_divide_26 : decode cX5_divide 26 = .ok (.iaload, 1) := by decide +kernel
theorem dX5_divide_27 : decode cX5_divide 27 = .ok (.iconst (-1), 1) := by decide +kernel
theorem dX5_divide_28 : decode cX5_divide 28 = .ok (.if_icmp .ne 24, 3) := by decide +kernel
theorem dX5_divide_31 : decode cX5_divide 31 = .ok (.aload_n 0, 1) := by decide +kernel
theorem dX5_divide_32 : decode cX5_divide 32 = .ok (.getfield 9, 3) := by decide +kernel
theorem dX5_divide_35 : decode cX5_divide 35 = .ok (.iload_n 3, 1) := by decide +kernel
theorem dX5_divide_36 : decode cX5_divide 36 = .ok (.iload 4, 2) := by decide +kernel
theorem dX5_divide_38 : decode cX5_divide 38 = .ok (.iastore, 1) := by decide +kernel
theorem dX5_divide_39 : decode cX5_divide 39 = .ok (.iload_n 3, 1) := by decide +kernel
theorem dX5_divide_40 : decode cX5_divide 40 = .ok (.bipush 10, 2) := by decide +kernel
theorem dX5_divide_42 : decode cX5_divide 42 = .ok (.imul, 1) := by decide +kernel
theorem dX5_divide_43 : decode cX5_divide 43 = .ok (.iload_n 2, 1) := by decide +kernel
theorem dX5_divide_44 : decode cX5_divide 44 = .ok (.irem, 1) := by decide +kernel
theorem dX5_divide_45 : decode cX5_divide 45 = .ok (.istore_n 3, 1) := by decide +kernel
theorem dX5_divide_46 : decode cX5_divide 46 = .ok (.iinc 4 1, 3) := by decide +kernel
theorem dX5_divide_49 : decode cX5_divide 49 = .ok (.goto (-34), 3) := by decide +kernel
theorem dX5_divide_52 : decode cX5_divide 52 = .ok (.aload_n 0, 1) := by decide +kernel
theorem dX5_divide_53 : decode cX5_divide 53 = .ok (.aload_n 0, 1) := by decide +kernel
theorem dX5_divide_54 : decode cX5_divide 54 = .ok (.getfield 9, 3) := by decide +kernel
theorem dX5_divide_57 : decode cX5_divide 57 = .ok (.iload_n 3, 1) := by decide +kernel
theorem dX5_divide_58 : decode cX5_divide 58 = .ok (.iaload, 1) := by decide +kernel
theorem dX5_divide_59 : decode cX5_divide 59 = .ok (.putfield 21, 3) := by decide +kernel
theorem dX5_divide_62 : decode cX5_divide 62 = .ok (.aload_n 0, 1) := by decide +kernel
theorem dX5_divide_63 : decode cX5_divide 63 = .ok (.iload 4, 2) := by decide +kernel
theorem dX5_divide_65 : decode cX5_divide 65 = .ok (.aload_n 0, 1) := by decide +kernel
theorem dX5_divide_66 : decode cX5_divide 66 = .ok (.getfield 21, 3) := by decide +kernel
theorem dX5_divide_69 : decode cX5_divide 69 = .ok (.isub, 1) := by decide +kernel
theorem dX5_divide_70 : decode cX5_divide 70 = .ok (.putfield 25, 3) := by decide +kernel
theorem dX5_divide_73 : decode cX5_divide 73 = .ok (.return_, 1) := by decide +kernel
theorem dX5_recurringFactor_0 : decode cX5_recurringFactor 0 = .ok (.iload_n 0, 1) := by decide +kernel
theorem dX5_recurringFactor_1 : decode cX5_recurringFactor 1 = .ok (.iload_n 1, 1) := by decide +kernel
theorem dX5_recurringFactor_2 : decode cX5_recurringFactor 2 = .ok (.invokestatic 28, 3) := by decide +kernel
theorem dX5_recurringFactor_5 : decode cX5_recurringFactor 5 = .ok (.istore_n 2, 1) := by decide +kernel
theorem dX5_recurringFactor_6 : decode cX5_recurringFactor 6 = .ok (.iload_n 2, 1) := by decide +kernel
theorem dX5_recurringFactor_7 : decode cX5_recurringFactor 7 = .ok (.iconst 1, 1) := by decide +kernel
theorem dX5_recurringFactor_8 : decode cX5_recurringFactor 8 = .ok (.if_icmp .ge 7, 3) := by decide +kernel
theorem dX5_recurringFactor_11 : decode cX5_recurringFactor 11 = .ok (.iload_n 1, 1) := by decide +kernel
theorem dX5_recurringFactor_12 : decode cX5_recurringFactor 12 = .ok (.goto 6, 3) := by decide +kernel
theorem dX5_recurringFactor_15 : decode cX5_recurringFactor 15 = .ok (.iload_n 1, 1) := by decide +kernel
theorem dX5_recurringFactor_16 : decode cX5_recurringFactor 16 = .ok (.iload_n 2, 1) := by decide +kernel
theorem dX5_recurringFactor_17 : decode cX5_recurringFactor 17 = .ok (.idiv, 1) := by decide +kernel
theorem dX5_recurringFactor_18 : decode cX5_recurringFactor 18 = .ok (.istore_n 3, 1) := by decide +kernel
theorem dX5_recurringFactor_19 : decode cX5_recurringFactor 19 = .ok (.iconst 5, 1) := by decide +kernel
theorem dX5_recurringFactor_20 : decode cX5_recurringFactor 20 = .ok (.iconst 2, 1) := by decide +kernel
theorem dX5_recurringFactor_21 : decode cX5_recurringFactor 21 = .ok (.iload_n 3, 1) := by decide +kernel
theorem dX5_recurringFactor_22 : decode cX5_recurringFactor 22 = .ok (.invokestatic 32, 3) := by decide +kernel
theorem dX5_recurringFactor_25 : decode cX5_recurringFactor 25 = .ok (.invokestatic 32, 3) := by decide +kernel
theorem dX5_recurringFactor_28 : decode cX5_recurringFactor 28 = .ok (.ireturn, 1) := by decide +kernel
theorem dX5_commonDivisor_0 : decode cX5_commonDivisor 0 = .ok (.iload_n 0, 1) := by decide +kernel
theorem dX5_commonDivisor_1 : decode cX5_commonDivisor 1 = .ok (.istore_n 2, 1) := by decide +kernel
theorem dX5_commonDivisor_2 : decode cX5_commonDivisor 2 = .ok (.iload_n 1, 1) := by decide +kernel
theorem dX5_commonDivisor_3 : decode cX5_commonDivisor 3 = .ok (.istore_n 3, 1) := by decide +kernel
theorem dX5_commonDivisor_4 : decode cX5_commonDivisor 4 = .ok (.iconst 0, 1) := by decide +kernel
theorem dX5_commonDivisor_5 : decode cX5_commonDivisor 5 = .ok (.istore 4, 2) := by decide +kernel
theorem dX5_commonDivisor_7 : decode cX5_commonDivisor 7 = .ok (.iload 4, 2) := by decide +kernel
theorem dX5_commonDivisor_9 : decode cX5_commonDivisor 9 = .ok (.bipush 100, 2) := by decide +kernel
theorem dX5_commonDivisor_11 : decode cX5_commonDivisor 11 = .ok (.if_icmp .ge 23, 3) := by decide +kernel
theorem dX5_commonDivisor_14 : decode cX5_commonDivisor 14 = .ok (.iload_n 3, 1) := by decide +kernel
theorem dX5_commonDivisor_15 : decode cX5_commonDivisor 15 = .ok (.ifCond .eq 19, 3) := by decide +kernel
theorem dX5_commonDivisor_18 : decode cX5_commonDivisor 18 = .ok (.iload_n 2, 1) := by decide +kernel
theorem dX5_commonDivisor_19 : decode cX5_commonDivisor 19 = .ok (.iload_n 3, 1) := by decide +kernel
theorem dX5_commonDivisor_20 : decode cX5_commonDivisor 20 = .ok (.irem, 1) := by decide +kernel
theorem dX5_commonDivisor_21 : decode cX5_commonDivisor 21 = .ok (.istore 5, 2) := by decide +kernel
theorem dX5_commonDivisor_23 : decode cX5_commonDivisor 23 = .ok (.iload_n 3, 1) := by decide +kernel
theorem dX5_commonDivisor_24 : decode cX5_commonDivisor 24 = .ok (.istore_n 2, 1) := by decide +kernel
theorem dX5_commonDivisor_25 : decode cX5_commonDivisor 25 = .ok (.iload 5, 2) := by decide +kernel
theorem dX5_commonDivisor_27 : decode cX5_commonDivisor 27 = .ok (.istore_n 3, 1) := by decide +kernel
theorem dX5_commonDivisor_28 : decode cX5_commonDivisor 28 = .ok (.iinc 4 1, 3) := by decide +kernel
theorem dX5_commonDivisor_31 : decode cX5_commonDivisor 31 = .ok (.goto (-24), 3) := by decide +kernel
theorem dX5_commonDivisor_34 : decode cX5_commonDivisor 34 = .ok (.iload_n 2, 1) := by decide +kernel
theorem dX5_commonDivisor_35 : decode cX5_commonDivisor 35 = .ok (.ireturn, 1) := by decide +kernel
theorem dX5_without_0 : decode cX5_without 0 = .ok (.iload_n 1, 1) := by decide +kernel
theorem dX5_without_1 : decode cX5_without 1 = .ok (.istore_n 2, 1) := by decide +kernel
theorem dX5_without_2 : decode cX5_without 2 = .ok (.iconst 0, 1) := by decide +kernel
theorem dX5_without_3 : decode cX5_without 3 = .ok (.istore_n 3, 1) := by decide +kernel
theorem dX5_without_4 : decode cX5_without 4 = .ok (.iload_n 3, 1) := by decide +kernel
theorem dX5_without_5 : decode cX5_without 5 = .ok (.bipush 10, 2) := by decide +kernel
theorem dX5_without_7 : decode cX5_without 7 = .ok (.if_icmp .ge 19, 3) := by decide +kernel
theorem dX5_without_10 : decode cX5_without 10 = .ok (.iload_n 2, 1) := by decide +kernel
theorem dX5_without_11 : decode cX5_without 11 = .ok (.iload_n 0, 1) := by decide +kernel
theorem dX5_without_12 : decode cX5_without 12 = .ok (.irem, 1) := by decide +kernel
theorem dX5_without_13 : decode cX5_without 13 = .ok (.ifCond .ne 13, 3) := by decide +kernel
theorem dX5_without_16 : decode cX5_without 16 = .ok (.iload_n 2, 1) := by decide +kernel
theorem dX5_without_17 : decode cX5_without 17 = .ok (.iload_n 0, 1) := by decide +kernel
theorem dX5_without_18 : decode cX5_without 18 = .ok (.idiv, 1) := by decide +kernel
theorem dX5_without_19 : decode cX5_without 19 = .ok (.istore_n 2, 1) := by decide +kernel
theorem dX5_without_20 : decode cX5_without 20 = .ok (.iinc 3 1, 3) := by decide +kernel
theorem dX5_without_23 : decode cX5_without 23 = .ok (.goto (-19), 3) := by decide +kernel
theorem dX5_without_26 : decode cX5_without 26 = .ok (.iload_n 2, 1) := by decide +kernel
theorem dX5_without_27 : decode cX5_without 27 = .ok (.ireturn, 1) := by decide +kernel
theorem dX5_orderOfTen_0 : decode cX5_orderOfTen 0 = .ok (.iload_n 0, 1) := by decide +kernel
theorem dX5_orderOfTen_1 : decode cX5_orderOfTen 1 = .ok (.iconst 1, 1) := by decide +kernel
theorem dX5_orderOfTen_2 : decode cX5_orderOfTen 2 = .ok (.if_icmp .ge 5, 3) := by decide +kernel
theorem dX5_orderOfTen_5 : decode cX5_orderOfTen 5 = .ok (.iconst 1, 1) := by decide +kernel
theorem dX5_orderOfTen_6 : decode cX5_orderOfTen 6 = .ok (.ireturn, 1) := by decide +kernel
theorem dX5_orderOfTen_7 : decode cX5_orderOfTen 7 = .ok (.bipush 10, 2) := by decide +kernel
theorem dX5_orderOfTen_9 : decode cX5_orderOfTen 9 = .ok (.iload_n 0, 1) := by decide +kernel
theorem dX5_orderOfTen_10 : decode cX5_orderOfTen 10 = .ok (.irem, 1) := by decide +kernel
theorem dX5_orderOfTen_11 : decode cX5_orderOfTen 11 = .ok (.istore_n 1, 1) := by decide +kernel
theorem dX5_orderOfTen_12 : decode cX5_orderOfTen 12 = .ok (.iconst 1, 1) := by decide +kernel
theorem dX5_orderOfTen_13 : decode cX5_orderOfTen 13 = .ok (.istore_n 2, 1) := by decide +kernel
theorem dX5_orderOfTen_14 : decode cX5_orderOfTen 14 = .ok (.iload_n 2, 1) := by decide +kernel
theorem dX5_orderOfTen_15 : decode cX5_orderOfTen 15 = .ok (.iload_n 0, 1) := by decide +kernel
theorem dX5_orderOfTen_16 : decode cX5_orderOfTen 16 = .ok (.if_icmp .ge 23, 3) := by decide +kernel
theorem dX5_orderOfTen_19 : decode cX5_orderOfTen 19 = .ok (.iload_n 1, 1) := by decide +kernel
theorem dX5_orderOfTen_20 : decode cX5_orderOfTen 20 = .ok (.iconst 1, 1) := by decide +kernel
theorem dX5_orderOfTen_21 : decode cX5_orderOfTen 21 = .ok (.iload_n 0, 1) := by decide +kernel
theorem dX5_orderOfTen_22 : decode cX5_orderOfTen 22 = .ok (.irem, 1) := by decide +kernel
theorem dX5_orderOfTen_23 : decode cX5_orderOfTen 23 = .ok (.if_icmp .eq 16, 3) := by decide +kernel
theorem dX5_orderOfTen_26 : decode cX5_orderOfTen 26 = .ok (.iload_n 1, 1) := by decide +kernel
theorem dX5_orderOfTen_27 : decode cX5_orderOfTen 27 = .ok (.bipush 10, 2) := by decide +kernel
theorem dX5_orderOfTen_29 : decode cX5_orderOfTen 29 = .ok (.imul, 1) := by decide +kernel
theorem dX5_orderOfTen_30 : decode cX5_orderOfTen 30 = .ok (.iload_n 0, 1) := by decide +kernel
theorem dX5_orderOfTen_31 : decode cX5_orderOfTen 31 = .ok (.irem, 1) := by decide +kernel
theorem dX5_orderOfTen_32 : decode cX5_orderOfTen 32 = .ok (.istore_n 1, 1) := by decide +kernel
theorem dX5_orderOfTen_33 : decode cX5_orderOfTen 33 = .ok (.iinc 2 1, 3) := by decide +kernel
theorem dX5_orderOfTen_36 : decode cX5_orderOfTen 36 = .ok (.goto (-22), 3) := by decide +kernel
theorem dX5_orderOfTen_39 : decode cX5_orderOfTen 39 = .ok (.iload_n 2, 1) := by decide +kernel
theorem dX5_orderOfTen_40 : decode cX5_orderOfTen 40 = .ok (.ireturn, 1) := by decide +kernel
theorem dX6_init_0 : decode cX6_init 0 = .ok (.aload_n 0, 1) := by decide +kernel
theorem dX6_init_1 : decode cX6_init 1 = .ok (.invokespecial 3, 3) := by decide +kernel
theorem dX6_init_4 : decode cX6_init 4 = .ok (.aload_n 0, 1) := by decide +kernel
theorem dX6_init_5 : decode cX6_init 5 = .ok (.bipush 60, 2) := by decide +kernel
theorem dX6_init_7 : decode cX6_init 7 = .ok (.newarray .char, 2) := by decide +kernel
theorem dX6_init_9 : decode cX6_init 9 = .ok (.putfield 9, 3) := by decide +kernel
theorem dX6_init_12 : decode cX6_init 12 = .ok (.aload_n 0, 1) := by decide +kernel
theorem dX6_init_13 : decode cX6_init 13 = .ok (.bipush 9, 2) := by decide +kernel
theorem dX6_init_15 : decode cX6_init 15 = .ok (.anewarray 15, 3) := by decide +kernel
theorem dX6_init_18 : decode cX6_init 18 = .ok (.putfield 17, 3) := by decide +kernel
theorem dX6_init_21 : decode cX6_init 21 = .ok (.iconst 0, 1) := by decide +kernel
theorem dX6_init_22 : decode cX6_init 22 = .ok (.istore_n 1, 1) := by decide +kernel
theorem dX6_init_23 : decode cX6_init 23 = .ok (.iload_n 1, 1) := by decide +kernel
theorem dX6_init_24 : decode cX6_init 24 = .ok (.aload_n 0, 1) := by decide +kernel
theorem dX6_init_25 : decode cX6_init 25 = .ok (.getfield 17, 3) := by decide +kernel
theorem dX6_init_28 : decode cX6_init 28 = .ok (.arraylength, 1) := by decide +kernel
theorem dX6_init_29 : decode cX6_init 29 = .ok (.if_icmp .ge 22, 3) := by decide +kernel
theorem dX6_init_32 : decode cX6_init 32 = .ok (.aload_n 0, 1) := by decide +kernel
theorem dX6_init_33 : decode cX6_init 33 = .ok (.getfield 17, 3) := by decide +kernel
theorem dX6_init_36 : decode cX6_init 36 = .ok (.iload_n 1, 1) := by decide +kernel
theorem dX6_init_37 : decode cX6_init 37 = .ok (.new 15, 3) := by decide +kernel
theorem dX6_init_40 : decode cX6_init 40 = .ok (.dup, 1) := by decide +kernel
theorem dX6_init_41 : decode cX6_init 41 = .ok (.invokespecial 21, 3) := by decide +kernel
theorem dX6_init_44 : decode cX6_init 44 = .ok (.aastore, 1) := by decide +kernel
theorem dX6_init_45 : decode cX6_init 45 = .ok (.iinc 1 1, 3) := by decide +kernel
theorem dX6_init_48 : decode cX6_init 48 = .ok (.goto (-25), 3) := by decide +kernel
theorem dX6_init_51 : decode cX6_init 51 = .ok (.return_, 1) := by decide +kernel
theorem dX6_isFull_0 : decode cX6_isFull 0 = .ok (.aload_n 0, 1) := by decide +kernel
theorem dX6_isFull_1 : decode cX6_isFull 1 = .ok (.getfield 22, 3) := by decide +kernel
theorem dX6_isFull_4 : decode cX6_isFull 4 = .ok (.bipush 60, 2) := by decide +kernel
theorem dX6_isFull_6 : decode cX6_isFull 6 = .ok (.if_icmp .lt 7, 3) := by decide +kernel
theorem dX6_isFull_9 : decode cX6_isFull 9 = .ok (.iconst 1, 1) := by decide +kernel
theorem dX6_isFull_10 : decode cX6_isFull 10 = .ok (.goto 4, 3) := by decide +kernel
theorem dX6_isFull_13 : decode cX6_isFull 13 = .ok (.iconst 0, 1) := by decide +kernel
theorem dX6_isFull_14 : decode cX6_isFull 14 = .ok (.ireturn, 1) := by decide +kernel
theorem dX6_put_0 : decode cX6_put 0 = .ok (.aload_n 0, 1) := by decide +kernel
theorem dX6_put_1 : decode cX6_put 1 = .ok (.getfield 9, 3) := by decide +kernel
theorem dX6_put_4 : decode cX6_put 4 = .ok (.aload_n 0, 1) := by decide +kernel
theorem dX6_put_5 : decode cX6_put 5 = .ok (.getfield 22, 3) := by decide +kernel
theorem dX6_put_8 : decode cX6_put 8 = .ok (.iload_n 1, 1) := by decide +kernel
theorem dX6_put_9 : decode cX6_put 9 = .ok (.castore, 1) := by decide +kernel
theorem dX6_put_10 : decode cX6_put 10 = .ok (.aload_n 0, 1) := by decide +kernel
theorem dX6_put_11 : decode cX6_put 11 = .ok (.dup, 1) := by decide +kernel
theorem dX6_put_12 : decode cX6_put 12 = .ok (.getfield 22, 3) := by decide +kernel
theorem dX6_put_15 : decode cX6_put 15 = .ok (.iconst 1, 1) := by decide +kernel
theorem dX6_put_16 : decode cX6_put 16 = .ok (.iadd, 1) := by decide +kernel
theorem dX6_put_17 : decode cX6_put 17 = .ok (.putfield 22, 3) := by decide +kernel
theorem dX6_put_20 : decode cX6_put 20 = .ok (.return_, 1) := by decide +kernel
theorem dX6_read_0 : decode cX6_read 0 = .ok (.aload_n 0, 1) := by decide +kernel
theorem dX6_read_1 : decode cX6_read 1 = .ok (.iconst 0, 1) := by decide +kernel
theorem dX6_read_2 : decode cX6_read 2 = .ok (.putfield 26, 3) := by decide +kernel
theorem dX6_read_5 : decode cX6_read 5 = .ok (.aload_n 0, 1) := by decide +kernel
theorem dX6_read_6 : decode cX6_read 6 = .ok (.iconst 0, 1) := by decide +kernel
theorem dX6_read_7 : decode cX6_read 7 = .ok (.putfield 29, 3) := by decide +kernel
theorem dX6_read_10 : decode cX6_read 10 = .ok (.aload_n 0, 1) := by decide +kernel
theorem dX6_read_11 : decode cX6_read 11 = .ok (.getfield 29, 3) := by decide +kernel
theorem dX6_read_14 : decode cX6_read 14 = .ok (.bipush 9, 2) := by decide +kernel
theorem dX6_read_16 : decode cX6_read 16 = .ok (.if_icmp .ge 55, 3) := by decide +kernel
theorem dX6_read_19 : decode cX6_read 19 = .ok (.aload_n 0, 1) := by decide +kernel
theorem dX6_read_20 : decode cX6_read 20 = .ok (.aload_n 0, 1) := by decide +kernel
theorem dX6_read_21 : decode cX6_read 21 = .ok (.getfield 17, 3) := by decide +kernel
theorem dX6_read_24 : decode cX6_read 24 = .ok (.aload_n 0, 1) := by decide +kernel
theorem dX6_read_25 : decode cX6_read 25 = .ok (.getfield 29, 3) := by decide +kernel
theorem dX6_read_28 : decode cX6_read 28 = .ok (.aaload, 1) := by decide +kernel
theorem dX6_read_29 : decode cX6_read 29 = .ok (.invokevirtual 32, 3) := by decide +kernel
theorem dX6_read_32 : decode cX6_read 32 = .ok (.ifCond .ne 5, 3) := by decide +kernel
theorem dX6_read_35 : decode cX6_read 35 = .ok (.iconst 0, 1) := by decide +kernel
theorem dX6_read_36 : decode cX6_read 36 = .ok (.ireturn, 1) := by decide +kernel
theorem dX6_read_37 : decode cX6_read 37 = .ok (.aload_n 0, 1) := by decide +kernel
theorem dX6_read_38 : decode cX6_read 38 = .ok (.dup, 1) := by decide +kernel
theorem dX6_read_39 : decode cX6_read 39 = .ok (.getfield 29, 3) := by decide +kernel
theorem dX6_read_42 : decode cX6_read 42 = .ok (.iconst 1, 1) := by decide +kernel
theorem dX6_read_43 : decode cX6_read 43 = .ok (.iadd, 1) := by decide +kernel
theorem dX6_read_44 : decode cX6_read 44 = .ok (.putfield 29, 3) := by decide +kernel
theorem dX6_read_47 : decode cX6_read 47 = .ok (.aload_n 0, 1) := by decide +kernel
theorem dX6_read_48 : decode cX6_read 48 = .ok (.getfield 26, 3) := by decide +kernel
theorem dX6_read_51 : decode cX6_read 51 = .ok (.aload_n 0, 1) := by decide +kernel
theorem dX6_read_52 : decode cX6_read 52 = .ok (.getfield 22, 3) := by decide +kernel
theorem dX6_read_55 : decode cX6_read 55 = .ok (.if_icmp .ne 5, 3) := by decide +kernel
theorem dX6_read_58 : decode cX6_read 58 = .ok (.iconst 1, 1) := by decide +kernel
theorem dX6_read_59 : decode cX6_read 59 = .ok (.ireturn, 1) := by decide +kernel
theorem dX6_read_60 : decode cX6_read 60 = .ok (.aload_n 0, 1) := by decide +kernel
theorem dX6_read_61 : decode cX6_read 61 = .ok (.bipush 59, 2) := by decide +kernel
theorem dX6_read_63 : decode cX6_read 63 = .ok (.invokevirtual 36, 3) := by decide +kernel
theorem dX6_read_66 : decode cX6_read 66 = .ok (.ifCond .ne (-56), 3) := by decide +kernel
theorem dX6_read_69 : decode cX6_read 69 = .ok (.iconst 0, 1) := by decide +kernel
theorem dX6_read_70 : decode cX6_read 70 = .ok (.ireturn, 1) := by decide +kernel
theorem dX6_read_71 : decode cX6_read 71 = .ok (.iconst 0, 1) := by decide +kernel
theorem dX6_read_72 : decode cX6_read 72 = .ok (.ireturn, 1) := by decide +kernel
theorem dX6_readCommand_0 : decode cX6_readCommand 0 = .ok (.aload_n 0, 1) := by decide +kernel
theorem dX6_readCommand_1 : decode cX6_readCommand 1 = .ok (.invokevirtual 40, 3) := by decide +kernel
theorem dX6_readCommand_4 : decode cX6_readCommand 4 = .ok (.astore_n 2, 1) := by decide +kernel
theorem dX6_readCommand_5 : decode cX6_readCommand 5 = .ok (.aload_n 2, 1) := by decide +kernel
theorem dX6_readCommand_6 : decode cX6_readCommand 6 = .ok (.ifnonnull 5, 3) := by decide +kernel
theorem dX6_readCommand_9 : decode cX6_readCommand 9 = .ok (.iconst 0, 1) := by decide +kernel
theorem dX6_readCommand_10 : decode cX6_readCommand 10 = .ok (.ireturn, 1) := by decide +kernel
theorem dX6_readCommand_11 : decode cX6_readCommand 11 = .ok (.aload_n 1, 1) := by decide +kernel
theorem dX6_readCommand_12 : decode cX6_readCommand 12 = .ok (.aload_n 2, 1) := by decide +kernel
theorem dX6_readCommand_13 : decode cX6_readCommand 13 = .ok (.putfield 44, 3) := by decide +kernel
theorem dX6_readCommand_16 : decode cX6_readCommand 16 = .ok (.getstatic 48, 3) := by decide +kernel
theorem dX6_readCommand_19 : decode cX6_readCommand 19 = .ok (.aload_n 2, 1) := by decide +kernel
theorem dX6_readCommand_20 : decode cX6_readCommand 20 = .ok (.invokevirtual 54, 3) := by decide +kernel
theorem dX6_readCommand_23 : decode cX6_readCommand 23 = .ok (.iaload, 1) := by decide +kernel
theorem dX6_readCommand_24 : decode cX6_readCommand 24 = .ok (.tableswitch 270 1 7 #[44, 75, 123, 129, 160, 208, 239], 44) := by decide +kernel
theorem dX6_readCommand_68 : decode cX6_readCommand 68 = .ok (.aload_n 0, 1) := by decide +kernel
theorem dX6_readCommand_69 : decode cX6_readCommand 69 = .ok (.aload_n 1, 1) := by decide +kernel
theorem dX6_readCommand_70 : decode cX6_readCommand 70 = .ok (.invokevirtual 60, 3) := by decide +kernel
theorem dX6_readCommand_73 : decode cX6_readCommand 73 = .ok (.ifCond .eq 24, 3) := by decide +kernel
theorem dX6_readCommand_76 : decode cX6_readCommand 76 = .ok (.aload_n 0, 1) := by decide +kernel
theorem dX6_readCommand_77 : decode cX6_readCommand 77 = .ok (.bipush 32, 2) := by decide +kernel
theorem dX6_readCommand_79 : decode cX6_readCommand 79 = .ok (.invokevirtual 36, 3) := by decide +kernel
theorem dX6_readCommand_82 : decode cX6_readCommand 82 = .ok (.ifCond .eq 15, 3) := by decide +kernel
theorem dX6_readCommand_85 : decode cX6_readCommand 85 = .ok (.aload_n 0, 1) := by decide +kernel
theorem dX6_readCommand_86 : decode cX6_readCommand 86 = .ok (.aload_n 1, 1) := by decide +kernel
theorem dX6_readCommand_87 : decode cX6_readCommand 87 = .ok (.invokevirtual 63, 3) := by decide +kernel
theorem dX6_readCommand_90 : decode cX6_readCommand 90 = .ok (.ifCond .eq 7, 3) := by decide +kernel
theorem dX6_readCommand_93 : decode cX6_readCommand 93 = .ok (.iconst 1, 1) := by decide +kernel
theorem dX6_readCommand_94 : decode cX6_readCommand 94 = .ok (.goto 4, 3) := by decide +kernel
theorem dX6_readCommand_97 : decode cX6_readCommand 97 = .ok (.iconst 0, 1) := by decide +kernel
theorem dX6_readCommand_98 : decode cX6_readCommand 98 = .ok (.ireturn, 1) := by decide +kernel
theorem dX6_readCommand_99 : decode cX6_readCommand 99 = .ok (.aload_n 0, 1) := by decide +kernel
theorem dX6_readCommand_100 : decode cX6_readCommand 100 = .ok (.aload_n 1, 1) := by decide +kernel
theorem dX6_readCommand_101 : decode cX6_readCommand 101 = .ok (.invokevirtual 66, 3) := by decide +kernel
theorem dX6_readCommand_104 : decode cX6_readCommand 104 = .ok (.ifCond .eq 41, 3) := by decide +kernel
theorem dX6_readCommand_107 : decode cX6_readCommand 107 = .ok (.aload_n 0, 1) := by decide +kernel
theorem dX6_readCommand_108 : decode cX6_readCommand 108 = .ok (.bipush 47, 2) := by decide +kernel
theorem dX6_readCommand_110 : decode cX6_readCommand 110 = .ok (.invokevirtual 36, 3) := by decide +kernel
theorem dX6_readCommand_113 : decode cX6_readCommand 113 = .ok (.ifCond .eq 32, 3) := by decide +kernel
theorem dX6_readCommand_116 : decode cX6_readCommand 116 = .ok (.aload_n 0, 1) := by decide +kernel
theorem dX6_readCommand_117 : decode cX6_readCommand 117 = .ok (.aload_n 1, 1) := by decide +kernel
theorem dX6_readCommand_118 : decode cX6_readCommand 118 = .ok (.invokevirtual 69, 3) := by decide +kernel
theorem dX6_readCommand_121 : decode cX6_readCommand 121 = .ok (.ifCond .eq 24, 3) := by decide +kernel
theorem dX6_readCommand_124 : decode cX6_readCommand 124 = .ok (.aload_n 0, 1) := by decide +kernel
theorem dX6_readCommand_125 : decode cX6_readCommand 125 = .ok (.bipush 32, 2) := by decide +kernel
theorem dX6_readCommand_127 : decode cX6_readCommand 127 = .ok (.invokevirtual 36, 3) := by decide +kernel
theorem dX6_readCommand_130 : decode cX6_readCommand 130 = .ok (.ifCond .eq 15, 3) := by decide +kernel
theorem dX6_readCommand_133 : decode cX6_readCommand 133 = .ok (.aload_n 0, 1) := by decide +kernel
theorem dX6_readCommand_134 : decode cX6_readCommand 134 = .ok (.aload_n 1, 1) := by decide +kernel
theorem dX6_readCommand_135 : decode cX6_readCommand 135 = .ok (.invokevirtual 63, 3) := by decide +kernel
theorem dX6_readCommand_138 : decode cX6_readCommand 138 = .ok (.ifCond .eq 7, 3) := by decide +kernel
theorem dX6_readCommand_141 : decode cX6_readCommand 141 = .ok (.iconst 1, 1) := by decide +kernel
theorem dX6_readCommand_142 : decode cX6_readCommand 142 = .ok (.goto 4, 3) := by decide +kernel
theorem dX6_readCommand_145 : decode cX6_readCommand 145 = .ok (.iconst 0, 1) := by decide +kernel
theorem dX6_readCommand_146 : decode cX6_readCommand 146 = .ok (.ireturn, 1) := by decide +kernel
theorem dX6_readCommand_147 : decode cX6_readCommand 147 = .ok (.aload_n 0, 1) := by decide +kernel
theorem dX6_readCommand_148 : decode cX6_readCommand 148 = .ok (.aload_n 1, 1) := by decide +kernel
theorem dX6_readCommand_149 : decode cX6_readCommand 149 = .ok (.invokevirtual 66, 3) := by decide +kernel
theorem dX6_readCommand_152 : decode cX6_readCommand 152 = .ok (.ireturn, 1) := by decide +kernel
theorem dX6_readCommand_153 : decode cX6_readCommand 153 = .ok (.aload_n 0, 1) := by decide +kernel
theorem dX6_readCommand_154 : decode cX6_readCommand 154 = .ok (.aload_n 1, 1) := by decide +kernel
theorem dX6_readCommand_155 : decode cX6_readCommand 155 = .ok (.invokevirtual 66, 3) := by decide +kernel
theorem dX6_readCommand_158 : decode cX6_readCommand 158 = .ok (.ifCond .eq 24, 3) := by decide +kernel
theorem dX6_readCommand_161 : decode cX6_readCommand 161 = .ok (.aload_n 0, 1) := by decide +kernel
theorem dX6_readCommand_162 : decode cX6_readCommand 162 = .ok (.bipush 32, 2) := by decide +kernel
theorem dX6_readCommand_164 : decode cX6_readCommand 164 = .ok (.invokevirtual 36, 3) := by decide +kernel
theorem dX6_readCommand_167 : decode cX6_readCommand 167 = .ok (.ifCond .eq 15, 3) := by decide +kernel
theorem dX6_readCommand_170 : decode cX6_readCommand 170 = .ok (.aload_n 0, 1) := by decide +kernel
theorem dX6_readCommand_171 : decode cX6_readCommand 171 = .ok (.aload_n 1, 1) := by decide +kernel
theorem dX6_readCommand_172 : decode cX6_readCommand 172 = .ok (.invokevirtual 60, 3) := by decide +kernel
theorem dX6_readCommand_175 : decode cX6_readCommand 175 = .ok (.ifCond .eq 7, 3) := by decide +kernel
theorem dX6_readCommand_178 : decode cX6_readCommand 178 = .ok (.iconst 1, 1) := by decide +kernel
theorem dX6_readCommand_179 : decode cX6_readCommand 179 = .ok (.goto 4, 3) := by decide +kernel
theorem dX6_readCommand_182 : decode cX6_readCommand 182 = .ok (.iconst 0, 1) := by decide +kernel
theorem dX6_readCommand_183 : decode cX6_readCommand 183 = .ok (.ireturn, 1) := by decide +kernel
theorem dX6_readCommand_184 : decode cX6_readCommand 184 = .ok (.aload_n 0, 1) := by decide +kernel
theorem dX6_readCommand_185 : decode cX6_readCommand 185 = .ok (.aload_n 1, 1) := by decide +kernel
theorem dX6_readCommand_186 : decode cX6_readCommand 186 = .ok (.invokevirtual 66, 3) := by decide +kernel
theorem dX6_readCommand_189 : decode cX6_readCommand 189 = .ok (.ifCond .eq 41, 3) := by decide +kernel
theorem dX6_readCommand_192 : decode cX6_readCommand 192 = .ok (.aload_n 0, 1) := by decide +kernel
theorem dX6_readCommand_193 : decode cX6_readCommand 193 = .ok (.bipush 45, 2) := by decide +kernel
theorem dX6_readCommand_195 : decode cX6_readCommand 195 = .ok (.invokevirtual 36, 3) := by decide +kernel
theorem dX6_readCommand_198 : decode cX6_readCommand 198 = .ok (.ifCond .eq 32, 3) := by decide +kernel
theorem dX6_readCommand_201 : decode cX6_readCommand 201 = .ok (.aload_n 0, 1) := by decide +kernel
theorem dX6_readCommand_202 : decode cX6_readCommand 202 = .ok (.aload_n 1, 1) := by decide +kernel
theorem dX6_readCommand_203 : decode cX6_readCommand 203 = .ok (.invokevirtual 69, 3) := by decide +kernel
theorem dX6_readCommand_206 : decode cX6_readCommand 206 = .ok (.ifCond .eq 24, 3) := by decide +kernel
theorem dX6_readCommand_209 : decode cX6_readCommand 209 = .ok (.aload_n 0, 1) := by decide +kernel
theorem dX6_readCommand_210 : decode cX6_readCommand 210 = .ok (.bipush 32, 2) := by decide +kernel
theorem dX6_readCommand_212 : decode cX6_readCommand 212 = .ok (.invokevirtual 36, 3) := by decide +kernel
theorem dX6_readCommand_215 : decode cX6_readCommand 215 = .ok (.ifCond .eq 15, 3) := by decide +kernel
theorem dX6_readCommand_218 : decode cX6_readCommand 218 = .ok (.aload_n 0, 1) := by decide +kernel
theorem dX6_readCommand_219 : decode cX6_readCommand 219 = .ok (.aload_n 1, 1) := by decide +kernel
theorem dX6_readCommand_220 : decode cX6_readCommand 220 = .ok (.invokevirtual 60, 3) := by decide +kernel
theorem dX6_readCommand_223 : decode cX6_readCommand 223 = .ok (.ifCond .eq 7, 3) := by decide +kernel
theorem dX6_readCommand_226 : decode cX6_readCommand 226 = .ok (.iconst 1, 1) := by decide +kernel
theorem dX6_readCommand_227 : decode cX6_readCommand 227 = .ok (.goto 4, 3) := by decide +kernel
theorem dX6_readCommand_230 : decode cX6_readCommand 230 = .ok (.iconst 0, 1) := by decide +kernel
theorem dX6_readCommand_231 : decode cX6_readCommand 231 = .ok (.ireturn, 1) := by decide +kernel
theorem dX6_readCommand_232 : decode cX6_readCommand 232 = .ok (.aload_n 0, 1) := by decide +kernel
theorem dX6_readCommand_233 : decode cX6_readCommand 233 = .ok (.aload_n 1, 1) := by decide +kernel
theorem dX6_readCommand_234 : decode cX6_readCommand 234 = .ok (.invokevirtual 66, 3) := by decide +kernel
theorem dX6_readCommand_237 : decode cX6_readCommand 237 = .ok (.ifCond .eq 24, 3) := by decide +kernel
theorem dX6_readCommand_240 : decode cX6_readCommand 240 = .ok (.aload_n 0, 1) := by decide +kernel
theorem dX6_readCommand_241 : decode cX6_readCommand 241 = .ok (.bipush 32, 2) := by decide +kernel
theorem dX6_readCommand_243 : decode cX6_readCommand 243 = .ok (.invokevirtual 36, 3) := by decide +kernel
theorem dX6_readCommand_246 : decode cX6_readCommand 246 = .ok (.ifCond .eq 15, 3) := by decide +kernel
theorem dX6_readCommand_249 : decode cX6_readCommand 249 = .ok (.aload_n 0, 1) := by decide +kernel
theorem dX6_readCommand_250 : decode cX6_readCommand 250 = .ok (.aload_n 1, 1) := by decide +kernel
theorem dX6_readCommand_251 : decode cX6_readCommand 251 = .ok (.invokevirtual 72, 3) := by decide +kernel
theorem dX6_readCommand_254 : decode cX6_readCommand 254 = .ok (.ifCond .eq 7, 3) := by decide +kernel
theorem dX6_readCommand_257 : decode cX6_readCommand 257 = .ok (.iconst 1, 1) := by decide +kernel
theorem dX6_readCommand_258 : decode cX6_readCommand 258 = .ok (.goto 4, 3) := by decide +kernel
theorem dX6_readCommand_261 : decode cX6_readCommand 261 = .ok (.iconst 0, 1) := by decide +kernel
theorem dX6_readCommand_262 : decode cX6_readCommand 262 = .ok (.ireturn, 1) := by decide +kernel
theorem dX6_readCommand_263 : decode cX6_readCommand 263 = .ok (.aload_n 0, 1) := by decide +kernel
theorem dX6_readCommand_264 : decode cX6_readCommand 264 = .ok (.aload_n 1, 1) := by decide +kernel
theorem dX6_readCommand_265 : decode cX6_readCommand 265 = .ok (.invokevirtual 66, 3) := by decide +kernel
theorem dX6_readCommand_268 : decode cX6_readCommand 268 = .ok (.ifCond .eq 24, 3) := by decide +kernel
theorem dX6_readCommand_271 : decode cX6_readCommand 271 = .ok (.aload_n 0, 1) := by decide +kernel
theorem dX6_readCommand_272 : decode cX6_readCommand 272 = .ok (.bipush 32, 2) := by decide +kernel
theorem dX6_readCommand_274 : decode cX6_readCommand 274 = .ok (.invokevirtual 36, 3) := by decide +kernel
theorem dX6_readCommand_277 : decode cX6_readCommand 277 = .ok (.ifCond .eq 15, 3) := by decide +kernel
theorem dX6_readCommand_280 : decode cX6_readCommand 280 = .ok (.aload_n 0, 1) := by decide +kernel
theorem dX6_readCommand_281 : decode cX6_readCommand 281 = .ok (.aload_n 1, 1) := by decide +kernel
theorem dX6_readCommand_282 : decode cX6_readCommand 282 = .ok (.invokevirtual 75, 3) := by decide +kernel
theorem dX6_readCommand_285 : decode cX6_readCommand 285 = .ok (.ifCond .eq 7, 3) := by decide +kernel
theorem dX6_readCommand_288 : decode cX6_readCommand 288 = .ok (.iconst 1, 1) := by decide +kernel
theorem dX6_readCommand_289 : decode cX6_readCommand 289 = .ok (.goto 4, 3) := by decide +kernel
theorem dX6_readCommand_292 : decode cX6_readCommand 292 = .ok (.iconst 0, 1) := by decide +kernel
theorem dX6_readCommand_293 : decode cX6_readCommand 293 = .ok (.ireturn, 1) := by decide +kernel
theorem dX6_readCommand_294 : decode cX6_readCommand 294 = .ok (.aload_n 0, 1) := by decide +kernel
theorem dX6_readCommand_295 : decode cX6_readCommand 295 = .ok (.aload_n 1, 1) := by decide +kernel
theorem dX6_readCommand_296 : decode cX6_readCommand 296 = .ok (.invokevirtual 72, 3) := by decide +kernel
theorem dX6_readCommand_299 : decode cX6_readCommand 299 = .ok (.ireturn, 1) := by decide +kernel
theorem dX6_readKind_0 : decode cX6_readKind 0 = .ok (.iconst 0, 1) := by decide +kernel
theorem dX6_readKind_1 : decode cX6_readKind 1 = .ok (.istore_n 1, 1) := by decide +kernel
theorem dX6_readKind_2 : decode cX6_readKind 2 = .ok (.iconst 0, 1) := by decide +kernel
theorem dX6_readKind_3 : decode cX6_readKind 3 = .ok (.istore_n 2, 1) := by decide +kernel
theorem dX6_readKind_4 : decode cX6_readKind 4 = .ok (.iload_n 2, 1) := by decide +kernel
theorem dX6_readKind_5 : decode cX6_readKind 5 = .ok (.getstatic 78, 3) := by decide +kernel
theorem dX6_readKind_8 : decode cX6_readKind 8 = .ok (.arraylength, 1) := by decide +kernel
theorem dX6_readKind_9 : decode cX6_readKind 9 = .ok (.if_icmp .ge 59, 3) := by decide +kernel
theorem dX6_readKind_12 : decode cX6_readKind 12 = .ok (.aload_n 0, 1) := by decide +kernel
theorem dX6_readKind_13 : decode cX6_readKind 13 = .ok (.getstatic 78, 3) := by decide +kernel
theorem dX6_readKind_16 : decode cX6_readKind 16 = .ok (.iload_n 2, 1) := by decide +kernel
theorem dX6_readKind_17 : decode cX6_readKind 17 = .ok (.aaload, 1) := by decide +kernel
theorem dX6_readKind_18 : decode cX6_readKind 18 = .ok (.getfield 82, 3) := by decide +kernel
theorem dX6_readKind_21 : decode cX6_readKind 21 = .ok (.invokevirtual 86, 3) := by decide +kernel
theorem dX6_readKind_24 : decode cX6_readKind 24 = .ok (.istore_n 3, 1) := by decide +kernel
theorem dX6_readKind_25 : decode cX6_readKind 25 = .ok (.iload_n 3, 1) := by decide +kernel
theorem dX6_readKind_26 : decode cX6_readKind 26 = .ok (.getstatic 78, 3) := by decide +kernel
theorem dX6_readKind_29 : decode cX6_readKind 29 = .ok (.iload_n 2, 1) := by decide +kernel
theorem dX6_readKind_30 : decode cX6_readKind 30 = .ok (.aaload, 1) := by decide +kernel
theorem dX6_readKind_31 : decode cX6_readKind 31 = .ok (.getfield 82, 3) := by decide +kernel
theorem dX6_readKind_34 : decode cX6_readKind 34 = .ok (.invokevirtual 90, 3) := by decide +kernel
theorem dX6_readKind_37 : decode cX6_readKind 37 = .ok (.if_icmp .ne 19, 3) := by decide +kernel
theorem dX6_readKind_40 : decode cX6_readKind 40 = .ok (.aload_n 0, 1) := by decide +kernel
theorem dX6_readKind_41 : decode cX6_readKind 41 = .ok (.dup, 1) := by decide +kernel
theorem dX6_readKind_42 : decode cX6_readKind 42 = .ok (.getfield 26, 3) := by decide +kernel
theorem dX6_readKind_45 : decode cX6_readKind 45 = .ok (.iload_n 3, 1) := by decide +kernel
theorem dX6_readKind_46 : decode cX6_readKind 46 = .ok (.iadd, 1) := by decide +kernel
theorem dX6_readKind_47 : decode cX6_readKind 47 = .ok (.putfield 26, 3) := by decide +kernel
theorem dX6_readKind_50 : decode cX6_readKind 50 = .ok (.getstatic 78, 3) := by decide +kernel
theorem dX6_readKind_53 : decode cX6_readKind 53 = .ok (.iload_n 2, 1) := by decide +kernel
theorem dX6_readKind_54 : decode cX6_readKind 54 = .ok (.aaload, 1) := by decide +kernel
theorem dX6_readKind_55 : decode cX6_readKind 55 = .ok (.areturn, 1) := by decide +kernel
theorem dX6_readKind_56 : decode cX6_readKind 56 = .ok (.iload_n 1, 1) := by decide +kernel
theorem dX6_readKind_57 : decode cX6_readKind 57 = .ok (.iload_n 3, 1) := by decide +kernel
theorem dX6_readKind_58 : decode cX6_readKind 58 = .ok (.invokestatic 94, 3) := by decide +kernel
theorem dX6_readKind_61 : decode cX6_readKind 61 = .ok (.istore_n 1, 1) := by decide +kernel
theorem dX6_readKind_62 : decode cX6_readKind 62 = .ok (.iinc 2 1, 3) := by decide +kernel
theorem dX6_readKind_65 : decode cX6_readKind 65 = .ok (.goto (-61), 3) := by decide +kernel
theorem dX6_readKind_68 : decode cX6_readKind 68 = .ok (.aload_n 0, 1) := by decide +kernel
theorem dX6_readKind_69 : decode cX6_readKind 69 = .ok (.dup, 1) := by decide +kernel
theorem dX6_readKind_70 : decode cX6_readKind 70 = .ok (.getfield 26, 3) := by decide +kernel
theorem dX6_readKind_73 : decode cX6_readKind 73 = .ok (.iload_n 1, 1) := by decide +kernel
theorem dX6_readKind_74 : decode cX6_readKind 74 = .ok (.iadd, 1) := by decide +kernel
theorem dX6_readKind_75 : decode cX6_readKind 75 = .ok (.putfield 26, 3) := by decide +kernel
theorem dX6_readKind_78 : decode cX6_readKind 78 = .ok (.aconst_null, 1) := by decide +kernel
theorem dX6_readKind_79 : decode cX6_readKind 79 = .ok (.areturn, 1) := by decide +kernel
theorem dX6_fittingCharacters_0 : decode cX6_fittingCharacters 0 = .ok (.iconst 0, 1) := by decide +kernel
theorem dX6_fittingCharacters_1 : decode cX6_fittingCharacters 1 = .ok (.istore_n 2, 1) := by decide +kernel
theorem dX6_fittingCharacters_2 : decode cX6_fittingCharacters 2 = .ok (.iload_n 2, 1) := by decide +kernel
theorem dX6_fittingCharacters_3 : decode cX6_fittingCharacters 3 = .ok (.aload_n 1, 1) := by decide +kernel
theorem dX6_fittingCharacters_4 : decode cX6_fittingCharacters 4 = .ok (.invokevirtual 90, 3) := by decide +kernel
theorem dX6_fittingCharacters_7 : decode cX6_fittingCharacters 7 = .ok (.if_icmp .ge 41, 3) := by decide +kernel
theorem dX6_fittingCharacters_10 : decode cX6_fittingCharacters 10 = .ok (.aload_n 0, 1) := by decide +kernel
theorem dX6_fittingCharacters_11 : decode cX6_fittingCharacters 11 = .ok (.getfield 26, 3) := by decide +kernel
theorem dX6_fittingCharacters_14 : decode cX6_fittingCharacters 14 = .ok (.iload_n 2, 1) := by decide +kernel
theorem dX6_fittingCharacters_15 : decode cX6_fittingCharacters 15 = .ok (.iadd, 1) := by decide +kernel
theorem dX6_fittingCharacters_16 : decode cX6_fittingCharacters 16 = .ok (.aload_n 0, 1) := by decide +kernel
theorem dX6_fittingCharacters_17 : decode cX6_fittingCharacters 17 = .ok (.getfield 22, 3) := by decide +kernel
theorem dX6_fittingCharacters_20 : decode cX6_fittingCharacters 20 = .ok (.if_icmp .ge 28, 3) := by decide +kernel
theorem dX6_fittingCharacters_23 : decode cX6_fittingCharacters 23 = .ok (.aload_n 0, 1) := by decide +kernel
theorem dX6_fittingCharacters_24 : decode cX6_fittingCharacters 24 = .ok (.getfield 9, 3) := by decide +kernel
theorem dX6_fittingCharacters_27 : decode cX6_fittingCharacters 27 = .ok (.aload_n 0, 1) := by decide +kernel
theorem dX6_fittingCharacters_28 : decode cX6_fittingCharacters 28 = .ok (.getfield 26, 3) := by decide +kernel
theorem dX6_fittingCharacters_31 : decode cX6_fittingCharacters 31 = .ok (.iload_n 2, 1) := by decide +kernel
theorem dX6_fittingCharacters_32 : decode cX6_fittingCharacters 32 = .ok (.iadd, 1) := by decide +kernel
theorem dX6_fittingCharacters_33 : decode cX6_fittingCharacters 33 = .ok (.caload, 1) := by decide +kernel
theorem dX6_fittingCharacters_34 : decode cX6_fittingCharacters 34 = .ok (.aload_n 1, 1) := by decide +kernel
theorem dX6_fittingCharacters_35 : decode cX6_fittingCharacters 35 = .ok (.iload_n 2, 1) := by decide +kernel
theorem dX6_fittingCharacters_36 : decode cX6_fittingCharacters 36 = .ok (.invokevirtual 100, 3) := by decide +kernel
theorem dX6_fittingCharacters_39 : decode cX6_fittingCharacters 39 = .ok (.if_icmp .ne 9, 3) := by decide +kernel
theorem dX6_fittingCharacters_42 : decode cX6_fittingCharacters 42 = .ok (.iinc 2 1, 3) := by decide +kernel
theorem dX6_fittingCharacters_45 : decode cX6_fittingCharacters 45 = .ok (.goto (-43), 3) := by decide +kernel
theorem dX6_fittingCharacters_48 : decode cX6_fittingCharacters 48 = .ok (.iload_n 2, 1) := by decide +kernel
theorem dX6_fittingCharacters_49 : decode cX6_fittingCharacters 49 = .ok (.ireturn, 1) := by decide +kernel
theorem dX6_readCharacter_0 : decode cX6_readCharacter 0 = .ok (.aload_n 0, 1) := by decide +kernel
theorem dX6_readCharacter_1 : decode cX6_readCharacter 1 = .ok (.getfield 26, 3) := by decide +kernel
theorem dX6_readCharacter_4 : decode cX6_readCharacter 4 = .ok (.aload_n 0, 1) := by decide +kernel
theorem dX6_readCharacter_5 : decode cX6_readCharacter 5 = .ok (.getfield 22, 3) := by decide +kernel
theorem dX6_readCharacter_8 : decode cX6_readCharacter 8 = .ok (.if_icmp .ge 16, 3) := by decide +kernel
theorem dX6_readCharacter_11 : decode cX6_readCharacter 11 = .ok (.aload_n 0, 1) := by decide +kernel
theorem dX6_readCharacter_12 : decode cX6_readCharacter 12 = .ok (.getfield 9, 3) := by decide +kernel
theorem dX6_readCharacter_15 : decode cX6_readCharacter 15 = .ok (.aload_n 0, 1) := by decide +kernel
theorem dX6_readCharacter_16 : decode cX6_readCharacter 16 = .ok (.getfield 26, 3) := by decide +kernel
theorem dX6_readCharacter_19 : decode cX6_readCharacter 19 = .ok (.caload, 1) := by decide +kernel
theorem dX6_readCharacter_20 : decode cX6_readCharacter 20 = .ok (.iload_n 1, 1) := by decide +kernel
theorem dX6_readCharacter_21 : decode cX6_readCharacter 21 = .ok (.if_icmp .eq 5, 3) := by decide +kernel
theorem dX6_readCharacter_24 : decode cX6_readCharacter 24 = .ok (.iconst 0, 1) := by decide +kernel
theorem dX6_readCharacter_25 : decode cX6_readCharacter 25 = .ok (.ireturn, 1) := by decide +kernel
theorem dX6_readCharacter_26 : decode cX6_readCharacter 26 = .ok (.aload_n 0, 1) := by decide +kernel
theorem dX6_readCharacter_27 : decode cX6_readCharacter 27 = .ok (.dup, 1) := by decide +kernel
theorem dX6_readCharacter_28 : decode cX6_readCharacter 28 = .ok (.getfield 26, 3) := by decide +kernel
theorem dX6_readCharacter_31 : decode cX6_readCharacter 31 = .ok (.iconst 1, 1) := by decide +kernel
theorem dX6_readCharacter_32 : decode cX6_readCharacter 32 = .ok (.iadd, 1) := by decide +kernel
theorem dX6_readCharacter_33 : decode cX6_readCharacter 33 = .ok (.putfield 26, 3) := by decide +kernel
theorem dX6_readCharacter_36 : decode cX6_readCharacter 36 = .ok (.iconst 1, 1) := by decide +kernel
theorem dX6_readCharacter_37 : decode cX6_readCharacter 37 = .ok (.ireturn, 1) := by decide +kernel
theorem dX6_readDigit_0 : decode cX6_readDigit 0 = .ok (.aload_n 0, 1) := by decide +kernel
theorem dX6_readDigit_1 : decode cX6_readDigit 1 = .ok (.getfield 26, 3) := by decide +kernel
theorem dX6_readDigit_4 : decode cX6_readDigit 4 = .ok (.aload_n 0, 1) := by decide +kernel
theorem dX6_readDigit_5 : decode cX6_readDigit 5 = .ok (.getfield 22, 3) := by decide +kernel
theorem dX6_readDigit_8 : decode cX6_readDigit 8 = .ok (.if_icmp .ge 31, 3) := by decide +kernel
theorem dX6_readDigit_11 : decode cX6_readDigit 11 = .ok (.aload_n 0, 1) := by decide +kernel
theorem dX6_readDigit_12 : decode cX6_readDigit 12 = .ok (.getfield 9, 3) := by decide +kernel
theorem dX6_readDigit_15 : decode cX6_readDigit 15 = .ok (.aload_n 0, 1) := by decide +kernel
theorem dX6_readDigit_16 : decode cX6_readDigit 16 = .ok (.getfield 26, 3) := by decide +kernel
theorem dX6_readDigit_19 : decode cX6_readDigit 19 = .ok (.caload, 1) := by decide +kernel
theorem dX6_readDigit_20 : decode cX6_readDigit 20 = .ok (.bipush 48, 2) := by decide +kernel
theorem dX6_readDigit_22 : decode cX6_readDigit 22 = .ok (.if_icmp .lt 17, 3) := by decide +kernel
theorem dX6_readDigit_25 : decode cX6_readDigit 25 = .ok (.aload_n 0, 1) := by decide +kernel
theorem dX6_readDigit_26 : decode cX6_readDigit 26 = .ok (.getfield 9, 3) := by decide +kernel
theorem dX6_readDigit_29 : decode cX6_readDigit 29 = .ok (.aload_n 0, 1) := by decide +kernel
theorem dX6_readDigit_30 : decode cX6_readDigit 30 = .ok (.getfield 26, 3) := by decide +kernel
theorem dX6_readDigit_33 : decode cX6_readDigit 33 = .ok (.caload, 1) := by decide +kernel
theorem dX6_readDigit_34 : decode cX6_readDigit 34 = .ok (.bipush 57, 2) := by decide +kernel
theorem dX6_readDigit_36 : decode cX6_readDigit 36 = .ok (.if_icmp .le 5, 3) := by decide +kernel
theorem dX6_readDigit_39 : decode cX6_readDigit 39 = .ok (.iconst (-1), 1) := by decide +kernel
theorem dX6_readDigit_40 : decode cX6_readDigit 40 = .ok (.ireturn, 1) := by decide +kernel
theorem dX6_readDigit_41 : decode cX6_readDigit 41 = .ok (.aload_n 0, 1) := by decide +kernel
theorem dX6_readDigit_42 : decode cX6_readDigit 42 = .ok (.dup, 1) := by decide +kernel
theorem dX6_readDigit_43 : decode cX6_readDigit 43 = .ok (.getfield 26, 3) := by decide +kernel
theorem dX6_readDigit_46 : decode cX6_readDigit 46 = .ok (.iconst 1, 1) := by decide +kernel
theorem dX6_readDigit_47 : decode cX6_readDigit 47 = .ok (.iadd, 1) := by decide +kernel
theorem dX6_readDigit_48 : decode cX6_readDigit 48 = .ok (.putfield 26, 3) := by decide +kernel
theorem dX6_readDigit_51 : decode cX6_readDigit 51 = .ok (.aload_n 0, 1) := by decide +kernel
theorem dX6_readDigit_52 : decode cX6_readDigit 52 = .ok (.getfield 9, 3) := by decide +kernel
theorem dX6_readDigit_55 : decode cX6_readDigit 55 = .ok (.aload_n 0, 1) := by decide +kernel
theorem dX6_readDigit_56 : decode cX6_readDigit 56 = .ok (.getfield 26, 3) := by decide +kernel
theorem dX6_readDigit_59 : decode cX6_readDigit 59 = .ok (.iconst 1, 1) := by decide +kernel
theorem dX6_readDigit_60 : decode cX6_readDigit 60 = .ok (.isub, 1) := by decide +kernel
theorem dX6_readDigit_61 : decode cX6_readDigit 61 = .ok (.caload, 1) := by decide +kernel
theorem dX6_readDigit_62 : decode cX6_readDigit 62 = .ok (.bipush 48, 2) := by decide +kernel
theorem dX6_readDigit_64 : decode cX6_readDigit 64 = .ok (.isub, 1) := by decide +kernel
theorem dX6_readDigit_65 : decode cX6_readDigit 65 = .ok (.ireturn, 1) := by decide +kernel
theorem dX6_readNumber_0 : decode cX6_readNumber 0 = .ok (.aload_n 0, 1) := by decide +kernel
theorem dX6_readNumber_1 : decode cX6_readNumber 1 = .ok (.invokevirtual 104, 3) := by decide +kernel
theorem dX6_readNumber_4 : decode cX6_readNumber 4 = .ok (.istore_n 1, 1) := by decide +kernel
theorem dX6_readNumber_5 : decode cX6_readNumber 5 = .ok (.iload_n 1, 1) := by decide +kernel
theorem dX6_readNumber_6 : decode cX6_readNumber 6 = .ok (.istore_n 2, 1) := by decide +kernel
theorem dX6_readNumber_7 : decode cX6_readNumber 7 = .ok (.iconst 1, 1) := by decide +kernel
theorem dX6_readNumber_8 : decode cX6_readNumber 8 = .ok (.istore_n 3, 1) := by decide +kernel
theorem dX6_readNumber_9 : decode cX6_readNumber 9 = .ok (.iload_n 3, 1) := by decide +kernel
theorem dX6_readNumber_10 : decode cX6_readNumber 10 = .ok (.bipush 6, 2) := by decide +kernel
theorem dX6_readNumber_12 : decode cX6_readNumber 12 = .ok (.if_icmp .ge 35, 3) := by decide +kernel
theorem dX6_readNumber_15 : decode cX6_readNumber 15 = .ok (.iload_n 2, 1) := by decide +kernel
theorem dX6_readNumber_16 : decode cX6_readNumber 16 = .ok (.iconst (-1), 1) := by decide +kernel
theorem dX6_readNumber_17 : decode cX6_readNumber 17 = .ok (.if_icmp .eq 30, 3) := by decide +kernel
theorem dX6_readNumber_20 : decode cX6_readNumber 20 = .ok (.aload_n 0, 1) := by decide +kernel
theorem dX6_readNumber_21 : decode cX6_readNumber 21 = .ok (.invokevirtual 104, 3) := by decide +kernel
theorem dX6_readNumber_24 : decode cX6_readNumber 24 = .ok (.istore_n 2, 1) := by decide +kernel
theorem dX6_readNumber_25 : decode cX6_readNumber 25 = .ok (.iload_n 2, 1) := by decide +kernel
theorem dX6_readNumber_26 : decode cX6_readNumber 26 = .ok (.iconst (-1), 1) := by decide +kernel
theorem dX6_readNumber_27 : decode cX6_readNumber 27 = .ok (.if_icmp .ne 7, 3) := by decide +kernel
theorem dX6_readNumber_30 : decode cX6_readNumber 30 = .ok (.iload_n 1, 1) := by decide +kernel
theorem dX6_readNumber_31 : decode cX6_readNumber 31 = .ok (.goto 9, 3) := by decide +kernel
theorem dX6_readNumber_34 : decode cX6_readNumber 34 = .ok (.iload_n 1, 1) := by decide +kernel
theorem dX6_readNumber_35 : decode cX6_readNumber 35 = .ok (.bipush 10, 2) := by decide +kernel
theorem dX6_readNumber_37 : decode cX6_readNumber 37 = .ok (.imul, 1) := by decide +kernel
theorem dX6_readNumber_38 : decode cX6_readNumber 38 = .ok (.iload_n 2, 1) := by decide +kernel
theorem dX6_readNumber_39 : decode cX6_readNumber 39 = .ok (.iadd, 1) := by decide +kernel
theorem dX6_readNumber_40 : decode cX6_readNumber 40 = .ok (.istore_n 1, 1) := by decide +kernel
theorem dX6_readNumber_41 : decode cX6_readNumber 41 = .ok (.iinc 3 1, 3) := by decide +kernel
theorem dX6_readNumber_44 : decode cX6_readNumber 44 = .ok (.goto (-35), 3) := by decide +kernel
theorem dX6_readNumber_47 : decode cX6_readNumber 47 = .ok (.iload_n 1, 1) := by decide +kernel
theorem dX6_readNumber_48 : decode cX6_readNumber 48 = .ok (.ireturn, 1) := by decide +kernel
theorem dX6_readFirst_0 : decode cX6_readFirst 0 = .ok (.aload_n 1, 1) := by decide +kernel
theorem dX6_readFirst_1 : decode cX6_readFirst 1 = .ok (.aload_n 0, 1) := by decide +kernel
theorem dX6_readFirst_2 : decode cX6_readFirst 2 = .ok (.invokevirtual 107, 3) := by decide +kernel
theorem dX6_readFirst_5 : decode cX6_readFirst 5 = .ok (.putfield 110, 3) := by decide +kernel
theorem dX6_readFirst_8 : decode cX6_readFirst 8 = .ok (.aload_n 1, 1) := by decide +kernel
theorem dX6_readFirst_9 : decode cX6_readFirst 9 = .ok (.getfield 110, 3) := by decide +kernel
theorem dX6_readFirst_12 : decode cX6_readFirst 12 = .ok (.iconst (-1), 1) := by decide +kernel
theorem dX6_readFirst_13 : decode cX6_readFirst 13 = .ok (.if_icmp .eq 7, 3) := by decide +kernel
theorem dX6_readFirst_16 : decode cX6_readFirst 16 = .ok (.iconst 1, 1) := by decide +kernel
theorem dX6_readFirst_17 : decode cX6_readFirst 17 = .ok (.goto 4, 3) := by decide +kernel
theorem dX6_readFirst_20 : decode cX6_readFirst 20 = .ok (.iconst 0, 1) := by decide +kernel
theorem dX6_readFirst_21 : decode cX6_readFirst 21 = .ok (.ireturn, 1) := by decide +kernel
theorem dX6_readSecond_0 : decode cX6_readSecond 0 = .ok (.aload_n 1, 1) := by decide +kernel
theorem dX6_readSecond_1 : decode cX6_readSecond 1 = .ok (.aload_n 0, 1) := by decide +kernel
theorem dX6_readSecond_2 : decode cX6_readSecond 2 = .ok (.invokevirtual 107, 3) := by decide +kernel
theorem dX6_readSecond_5 : decode cX6_readSecond 5 = .ok (.putfield 113, 3) := by decide +kernel
theorem dX6_readSecond_8 : decode cX6_readSecond 8 = .ok (.aload_n 1, 1) := by decide +kernel
theorem dX6_readSecond_9 : decode cX6_readSecond 9 = .ok (.getfield 113, 3) := by decide +kernel
theorem dX6_readSecond_12 : decode cX6_readSecond 12 = .ok (.iconst (-1), 1) := by decide +kernel
theorem dX6_readSecond_13 : decode cX6_readSecond 13 = .ok (.if_icmp .eq 7, 3) := by decide +kernel
theorem dX6_readSecond_16 : decode cX6_readSecond 16 = .ok (.iconst 1, 1) := by decide +kernel
theorem dX6_readSecond_17 : decode cX6_readSecond 17 = .ok (.goto 4, 3) := by decide +kernel
theorem dX6_readSecond_20 : decode cX6_readSecond 20 = .ok (.iconst 0, 1) := by decide +kernel
theorem dX6_readSecond_21 : decode cX6_readSecond 21 = .ok (.ireturn, 1) := by decide +kernel
theorem dX6_readDecimal_0 : decode cX6_readDecimal 0 = .ok (.aload_n 1, 1) := by decide +kernel
theorem dX6_readDecimal_1 : decode cX6_readDecimal 1 = .ok (.aload_n 0, 1) := by decide +kernel
theorem dX6_readDecimal_2 : decode cX6_readDecimal 2 = .ok (.invokevirtual 107, 3) := by decide +kernel
theorem dX6_readDecimal_5 : decode cX6_readDecimal 5 = .ok (.putfield 116, 3) := by decide +kernel
theorem dX6_readDecimal_8 : decode cX6_readDecimal 8 = .ok (.aload_n 1, 1) := by decide +kernel
theorem dX6_readDecimal_9 : decode cX6_readDecimal 9 = .ok (.iconst 0, 1) := by decide +kernel
theorem dX6_readDecimal_10 : decode cX6_readDecimal 10 = .ok (.putfield 119, 3) := by decide +kernel
theorem dX6_readDecimal_13 : decode cX6_readDecimal 13 = .ok (.aload_n 1, 1) := by decide +kernel
theorem dX6_readDecimal_14 : decode cX6_readDecimal 14 = .ok (.getfield 116, 3) := by decide +kernel
theorem dX6_readDecimal_17 : decode cX6_readDecimal 17 = .ok (.iconst (-1), 1) := by decide +kernel
theorem dX6_readDecimal_18 : decode cX6_readDecimal 18 = .ok (.if_icmp .ne 5, 3) := by decide +kernel
theorem dX6_readDecimal_21 : decode cX6_readDecimal 21 = .ok (.iconst 0, 1) := by decide +kernel
theorem dX6_readDecimal_22 : decode cX6_readDecimal 22 = .ok (.ireturn, 1) := by decide +kernel
theorem dX6_readDecimal_23 : decode cX6_readDecimal 23 = .ok (.aload_n 0, 1) := by decide +kernel
theorem dX6_readDecimal_24 : decode cX6_readDecimal 24 = .ok (.bipush 46, 2) := by decide +kernel
theorem dX6_readDecimal_26 : decode cX6_readDecimal 26 = .ok (.invokevirtual 36, 3) := by decide +kernel
theorem dX6_readDecimal_29 : decode cX6_readDecimal 29 = .ok (.ifCond .eq 11, 3) := by decide +kernel
theorem dX6_readDecimal_32 : decode cX6_readDecimal 32 = .ok (.aload_n 0, 1) := by decide +kernel
theorem dX6_readDecimal_33 : decode cX6_readDecimal 33 = .ok (.aload_n 1, 1) := by decide +kernel
theorem dX6_readDecimal_34 : decode cX6_readDecimal 34 = .ok (.invokevirtual 122, 3) := by decide +kernel
theorem dX6_readDecimal_37 : decode cX6_readDecimal 37 = .ok (.ifCond .eq 7, 3) := by decide +kernel
theorem dX6_readDecimal_40 : decode cX6_readDecimal 40 = .ok (.iconst 1, 1) := by decide +kernel
theorem dX6_readDecimal_41 : decode cX6_readDecimal 41 = .ok (.goto 4, 3) := by decide +kernel
theorem dX6_readDecimal_44 : decode cX6_readDecimal 44 = .ok (.iconst 0, 1) := by decide +kernel
theorem dX6_readDecimal_45 : decode cX6_readDecimal 45 = .ok (.ireturn, 1) := by decide +kernel
theorem dX6_readFraction_0 : decode cX6_readFraction 0 = .ok (.aload_n 0, 1) := by decide +kernel
theorem dX6_readFraction_1 : decode cX6_readFraction 1 = .ok (.invokevirtual 104, 3) := by decide +kernel
theorem dX6_readFraction_4 : decode cX6_readFraction 4 = .ok (.istore_n 2, 1) := by decide +kernel
theorem dX6_readFraction_5 : decode cX6_readFraction 5 = .ok (.iload_n 2, 1) := by decide +kernel
theorem dX6_readFraction_6 : decode cX6_readFraction 6 = .ok (.iconst (-1), 1) := by decide +kernel
theorem dX6_readFraction_7 : decode cX6_readFraction 7 = .ok (.if_icmp .ne 5, 3) := by decide +kernel
theorem dX6_readFraction_10 : decode cX6_readFraction 10 = .ok (.iconst 0, 1) := by decide +kernel
theorem dX6_readFraction_11 : decode cX6_readFraction 11 = .ok (.ireturn, 1) := by decide +kernel
theorem dX6_readFraction_12 : decode cX6_readFraction 12 = .ok (.iload_n 2, 1) := by decide +kernel
theorem dX6_readFraction_13 : decode cX6_readFraction 13 = .ok (.istore_n 3, 1) := by decide +kernel
theorem dX6_readFraction_14 : decode cX6_readFraction 14 = .ok (.iconst 1, 1) := by decide +kernel
theorem dX6_readFraction_15 : decode cX6_readFraction 15 = .ok (.istore 4, 2) := by decide +kernel
theorem dX6_readFraction_17 : decode cX6_readFraction 17 = .ok (.iload 4, 2) := by decide +kernel
theorem dX6_readFraction_19 : decode cX6_readFraction 19 = .ok (.iconst 4, 1) := by decide +kernel
theorem dX6_readFraction_20 : decode cX6_readFraction 20 = .ok (.if_icmp .ge 34, 3) := by decide +kernel
theorem dX6_readFraction_23 : decode cX6_readFraction 23 = .ok (.iload_n 2, 1) := by decide +kernel
theorem dX6_readFraction_24 : decode cX6_readFraction 24 = .ok (.iconst (-1), 1) := by decide +kernel
theorem dX6_readFraction_25 : decode cX6_readFraction 25 = .ok (.if_icmp .ne 7, 3) := by decide +kernel
theorem dX6_readFraction_28 : decode cX6_readFraction 28 = .ok (.iconst (-1), 1) := by decide +kernel
theorem dX6_readFraction_29 : decode cX6_readFraction 29 = .ok (.goto 7, 3) := by decide +kernel
theorem dX6_readFraction_32 : decode cX6_readFraction 32 = .ok (.aload_n 0, 1) := by decide +kernel
theorem dX6_readFraction_33 : decode cX6_readFraction 33 = .ok (.invokevirtual 104, 3) := by decide +kernel
theorem dX6_readFraction_36 : decode cX6_readFraction 36 = .ok (.istore_n 2, 1) := by decide +kernel
theorem dX6_readFraction_37 : decode cX6_readFraction 37 = .ok (.iload_n 3, 1) := by decide +kernel
theorem dX6_readFraction_38 : decode cX6_readFraction 38 = .ok (.bipush 10, 2) := by decide +kernel
theorem dX6_readFraction_40 : decode cX6_readFraction 40 = .ok (.imul, 1) := by decide +kernel
theorem dX6_readFraction_41 : decode cX6_readFraction 41 = .ok (.iload_n 2, 1) := by decide +kernel
theorem dX6_readFraction_42 : decode cX6_readFraction 42 = .ok (.iconst 0, 1) := by decide +kernel
theorem dX6_readFraction_43 : decode cX6_readFraction 43 = .ok (.invokestatic 94, 3) := by decide +kernel
theorem dX6_readFraction_46 : decode cX6_readFraction 46 = .ok (.iadd, 1) := by decide +kernel
theorem dX6_readFraction_47 : decode cX6_readFraction 47 = .ok (.istore_n 3, 1) := by decide +kernel
theorem dX6_readFraction_48 : decode cX6_readFraction 48 = .ok (.iinc 4 1, 3) := by decide +kernel
theorem dX6_readFraction_51 : decode cX6_readFraction 51 = .ok (.goto (-34), 3) := by decide +kernel
theorem dX6_readFraction_54 : decode cX6_readFraction 54 = .ok (.aload_n 1, 1) := by decide +kernel
theorem dX6_readFraction_55 : decode cX6_readFraction 55 = .ok (.iload_n 3, 1) := by decide +kernel
theorem dX6_readFraction_56 : decode cX6_readFraction 56 = .ok (.putfield 119, 3) := by decide +kernel
theorem dX6_readFraction_59 : decode cX6_readFraction 59 = .ok (.iconst 1, 1) := by decide +kernel
theorem dX6_readFraction_60 : decode cX6_readFraction 60 = .ok (.ireturn, 1) := by decide +kernel
theorem dX6_readScaleAndMode_0 : decode cX6_readScaleAndMode 0 = .ok (.aload_n 0, 1) := by decide +kernel
theorem dX6_readScaleAndMode_1 : decode cX6_readScaleAndMode 1 = .ok (.aload_n 1, 1) := by decide +kernel
theorem dX6_readScaleAndMode_2 : decode cX6_readScaleAndMode 2 = .ok (.invokevirtual 72, 3) := by decide +kernel
theorem dX6_readScaleAndMode_5 : decode cX6_readScaleAndMode 5 = .ok (.ifCond .eq 24, 3) := by decide +kernel
theorem dX6_readScaleAndMode_8 : decode cX6_readScaleAndMode 8 = .ok (.aload_n 0, 1) := by decide +kernel
theorem dX6_readScaleAndMode_9 : decode cX6_readScaleAndMode 9 = .ok (.bipush 32, 2) := by decide +kernel
theorem dX6_readScaleAndMode_11 : decode cX6_readScaleAndMode 11 = .ok (.invokevirtual 36, 3) := by decide +kernel
theorem dX6_readScaleAndMode_14 : decode cX6_readScaleAndMode 14 = .ok (.ifCond .eq 15, 3) := by decide +kernel
theorem dX6_readScaleAndMode_17 : decode cX6_readScaleAndMode 17 = .ok (.aload_n 0, 1) := by decide +kernel
theorem dX6_readScaleAndMode_18 : decode cX6_readScaleAndMode 18 = .ok (.aload_n 1, 1) := by decide +kernel
theorem dX6_readScaleAndMode_19 : decode cX6_readScaleAndMode 19 = .ok (.invokevirtual 75, 3) := by decide +kernel
theorem dX6_readScaleAndMode_22 : decode cX6_readScaleAndMode 22 = .ok (.ifCond .eq 7, 3) := by decide +kernel
theorem dX6_readScaleAndMode_25 : decode cX6_readScaleAndMode 25 = .ok (.iconst 1, 1) := by decide +kernel
theorem dX6_readScaleAndMode_26 : decode cX6_readScaleAndMode 26 = .ok (.goto 4, 3) := by decide +kernel
theorem dX6_readScaleAndMode_29 : decode cX6_readScaleAndMode 29 = .ok (.iconst 0, 1) := by decide +kernel
theorem dX6_readScaleAndMode_30 : decode cX6_readScaleAndMode 30 = .ok (.ireturn, 1) := by decide +kernel
theorem dX6_readScale_0 : decode cX6_readScale 0 = .ok (.aload_n 1, 1) := by decide +kernel
theorem dX6_readScale_1 : decode cX6_readScale 1 = .ok (.aload_n 0, 1) := by decide +kernel
theorem dX6_readScale_2 : decode cX6_readScale 2 = .ok (.invokevirtual 104, 3) := by decide +kernel
theorem dX6_readScale_5 : decode cX6_readScale 5 = .ok (.putfield 125, 3) := by decide +kernel
theorem dX6_readScale_8 : decode cX6_readScale 8 = .ok (.aload_n 1, 1) := by decide +kernel
theorem dX6_readScale_9 : decode cX6_readScale 9 = .ok (.getfield 125, 3) := by decide +kernel
theorem dX6_readScale_12 : decode cX6_readScale 12 = .ok (.iconst (-1), 1) := by decide +kernel
theorem dX6_readScale_13 : decode cX6_readScale 13 = .ok (.if_icmp .eq 7, 3) := by decide +kernel
theorem dX6_readScale_16 : decode cX6_readScale 16 = .ok (.iconst 1, 1) := by decide +kernel
theorem dX6_readScale_17 : decode cX6_readScale 17 = .ok (.goto 4, 3) := by decide +kernel
theorem dX6_readScale_20 : decode cX6_readScale 20 = .ok (.iconst 0, 1) := by decide +kernel
theorem dX6_readScale_21 : decode cX6_readScale 21 = .ok (.ireturn, 1) := by decide +kernel
theorem dX6_readMode_0 : decode cX6_readMode 0 = .ok (.aload_n 0, 1) := by decide +kernel
theorem dX6_readMode_1 : decode cX6_readMode 1 = .ok (.getfield 26, 3) := by decide +kernel
theorem dX6_readMode_4 : decode cX6_readMode 4 = .ok (.aload_n 0, 1) := by decide +kernel
theorem dX6_readMode_5 : decode cX6_readMode 5 = .ok (.getfield 22, 3) := by decide +kernel
theorem dX6_readMode_8 : decode cX6_readMode 8 = .ok (.if_icmp .ge 20, 3) := by decide +kernel
theorem dX6_readMode_11 : decode cX6_readMode 11 = .ok (.ldc 128, 2) := by decide +kernel
theorem dX6_readMode_13 : decode cX6_readMode 13 = .ok (.aload_n 0, 1) := by decide +kernel
theorem dX6_readMode_14 : decode cX6_readMode 14 = .ok (.getfield 9, 3) := by decide +kernel
theorem dX6_readMode_17 : decode cX6_readMode 17 = .ok (.aload_n 0, 1) := by decide +kernel
theorem dX6_readMode_18 : decode cX6_readMode 18 = .ok (.getfield 26, 3) := by decide +kernel
theorem dX6_readMode_21 : decode cX6_readMode 21 = .ok (.caload, 1) := by decide +kernel
theorem dX6_readMode_22 : decode cX6_readMode 22 = .ok (.invokevirtual 130, 3) := by decide +kernel
theorem dX6_readMode_25 : decode cX6_readMode 25 = .ok (.ifCond .ge 5, 3) := by decide +kernel
theorem dX6_readMode_28 : decode cX6_readMode 28 = .ok (.iconst 0, 1) := by decide +kernel
theorem dX6_readMode_29 : decode cX6_readMode 29 = .ok (.ireturn, 1) := by decide +kernel
theorem dX6_readMode_30 : decode cX6_readMode 30 = .ok (.aload_n 1, 1) := by decide +kernel
theorem dX6_readMode_31 : decode cX6_readMode 31 = .ok (.aload_n 0, 1) := by decide +kernel
theorem dX6_readMode_32 : decode cX6_readMode 32 = .ok (.getfield 9, 3) := by decide +kernel
theorem dX6_readMode_35 : decode cX6_readMode 35 = .ok (.aload_n 0, 1) := by decide +kernel
theorem dX6_readMode_36 : decode cX6_readMode 36 = .ok (.getfield 26, 3) := by decide +kernel
theorem dX6_readMode_39 : decode cX6_readMode 39 = .ok (.caload, 1) := by decide +kernel
theorem dX6_readMode_40 : decode cX6_readMode 40 = .ok (.putfield 134, 3) := by decide +kernel
theorem dX6_readMode_43 : decode cX6_readMode 43 = .ok (.aload_n 0, 1) := by decide +kernel
theorem dX6_readMode_44 : decode cX6_readMode 44 = .ok (.dup, 1) := by decide +kernel
theorem dX6_readMode_45 : decode cX6_readMode 45 = .ok (.getfield 26, 3) := by decide +kernel
theorem dX6_readMode_48 : decode cX6_readMode 48 = .ok (.iconst 1, 1) := by decide +kernel
theorem dX6_readMode_49 : decode cX6_readMode 49 = .ok (.iadd, 1) := by decide +kernel
theorem dX6_readMode_50 : decode cX6_readMode 50 = .ok (.putfield 26, 3) := by decide +kernel
theorem dX6_readMode_53 : decode cX6_readMode 53 = .ok (.iconst 1, 1) := by decide +kernel
theorem dX6_readMode_54 : decode cX6_readMode 54 = .ok (.ireturn, 1) := by decide +kernel
theorem dX7_stepOf_0 : decode cX7_stepOf 0 = .ok (.iload_n 0, 1) := by decide +kernel
theorem dX7_stepOf_1 : decode cX7_stepOf 1 = .ok (.tableswitch 47 0 3 #[31, 35, 39, 43], 31) := by decide +kernel
theorem dX7_stepOf_32 : decode cX7_stepOf 32 = .ok (.ldc2_w 9, 3) := by decide +kernel
theorem dX7_stepOf_35 : decode cX7_stepOf 35 = .ok (.lreturn, 1) := by decide +kernel
theorem dX7_stepOf_36 : decode cX7_stepOf 36 = .ok (.ldc2_w 11, 3) := by decide +kernel
theorem dX7_stepOf_39 : decode cX7_stepOf 39 = .ok (.lreturn, 1) := by decide +kernel
theorem dX7_stepOf_40 : decode cX7_stepOf 40 = .ok (.ldc2_w 13, 3) := by decide +kernel
theorem dX7_stepOf_43 : decode cX7_stepOf 43 = .ok (.lreturn, 1) := by decide +kernel
theorem dX7_stepOf_44 : decode cX7_stepOf 44 = .ok (.ldc2_w 15, 3) := by decide +kernel
theorem dX7_stepOf_47 : decode cX7_stepOf 47 = .ok (.lreturn, 1) := by decide +kernel
theorem dX7_stepOf_48 : decode cX7_stepOf 48 = .ok (.lconst 1, 1) := by decide +kernel
theorem dX7_stepOf_49 : decode cX7_stepOf 49 = .ok (.lreturn, 1) := by decide +kernel
theorem dX7_ofSum_0 : decode cX7_ofSum 0 = .ok (.iload_n 2, 1) := by decide +kernel
theorem dX7_ofSum_1 : decode cX7_ofSum 1 = .ok (.invokestatic 17, 3) := by decide +kernel
theorem dX7_ofSum_4 : decode cX7_ofSum 4 = .ok (.lstore 4, 2) := by decide +kernel
theorem dX7_ofSum_6 : decode cX7_ofSum 6 = .ok (.lload_n 0, 1) := by decide +kernel
theorem dX7_ofSum_7 : decode cX7_ofSum 7 = .ok (.lload 4, 2) := by decide +kernel
theorem dX7_ofSum_9 : decode cX7_ofSum 9 = .ok (.ldiv, 1) := by decide +kernel
theorem dX7_ofSum_10 : decode cX7_ofSum 10 = .ok (.lstore 6, 2) := by decide +kernel
theorem dX7_ofSum_12 : decode cX7_ofSum 12 = .ok (.lload 6, 2) := by decide +kernel
theorem dX7_ofSum_14 : decode cX7_ofSum 14 = .ok (.lload_n 0, 1) := by decide +kernel
theorem dX7_ofSum_15 : decode cX7_ofSum 15 = .ok (.lload 4, 2) := by decide +kernel
theorem dX7_ofSum_17 : decode cX7_ofSum 17 = .ok (.lrem, 1) := by decide +kernel
theorem dX7_ofSum_18 : decode cX7_ofSum 18 = .ok (.lload 4, 2) := by decide +kernel
theorem dX7_ofSum_20 : decode cX7_ofSum 20 = .ok (.iload_n 3, 1) := by decide +kernel
theorem dX7_ofSum_21 : decode cX7_ofSum 21 = .ok (.invokestatic 23, 3) := by decide +kernel
theorem dX7_ofSum_24 : decode cX7_ofSum 24 = .ok (.ifCond .eq 10, 3) := by decide +kernel
theorem dX7_ofSum_27 : decode cX7_ofSum 27 = .ok (.lload 6, 2) := by decide +kernel
theorem dX7_ofSum_29 : decode cX7_ofSum 29 = .ok (.lconst 1, 1) := by decide +kernel
theorem dX7_ofSum_30 : decode cX7_ofSum 30 = .ok (.ladd, 1) := by decide +kernel
theorem dX7_ofSum_31 : decode cX7_ofSum 31 = .ok (.goto 5, 3) := by decide +kernel
theorem dX7_ofSum_34 : decode cX7_ofSum 34 = .ok (.lload 6, 2) := by decide +kernel
theorem dX7_ofSum_36 : decode cX7_ofSum 36 = .ok (.lload 4, 2) := by decide +kernel
theorem dX7_ofSum_38 : decode cX7_ofSum 38 = .ok (.lmul, 1) := by decide +kernel
theorem dX7_ofSum_39 : decode cX7_ofSum 39 = .ok (.lreturn, 1) := by decide +kernel
theorem dX7_ofQuotient_0 : decode cX7_ofQuotient 0 = .ok (.iload_n 2, 1) := by decide +kernel
theorem dX7_ofQuotient_1 : decode cX7_ofQuotient 1 = .ok (.invokestatic 17, 3) := by decide +kernel
theorem dX7_ofQuotient_4 : decode cX7_ofQuotient 4 = .ok (.lstore 4, 2) := by decide +kernel
theorem dX7_ofQuotient_6 : decode cX7_ofQuotient 6 = .ok (.iload_n 0, 1) := by decide +kernel
theorem dX7_ofQuotient_7 : decode cX7_ofQuotient 7 = .ok (.i2l, 1) := by decide +kernel
theorem dX7_ofQuotient_8 : decode cX7_ofQuotient 8 = .ok (.ldc2_w 9, 3) := by decide +kernel
theorem dX7_ofQuotient_11 : decode cX7_ofQuotient 11 = .ok (.lmul, 1) := by decide +kernel
theorem dX7_ofQuotient_12 : decode cX7_ofQuotient 12 = .ok (.lstore 6, 2) := by decide +kernel
theorem dX7_ofQuotient_14 : decode cX7_ofQuotient 14 = .ok (.iload_n 1, 1) := by decide +kernel
theorem dX7_ofQuotient_15 : decode cX7_ofQuotient 15 = .ok (.i2l, 1) := by decide +kernel
theorem dX7_ofQuotient_16 : decode cX7_ofQuotient 16 = .ok (.lload 4, 2) := by decide +kernel
theorem dX7_ofQuotient_18 : decode cX7_ofQuotient 18 = .ok (.lmul, 1) := by decide +kernel
theorem dX7_ofQuotient_19 : decode cX7_ofQuotient 19 = .ok (.lstore 8, 2) := by decide +kernel
theorem dX7_ofQuotient_21 : decode cX7_ofQuotient 21 = .ok (.lload 8, 2) := by decide +kernel
theorem dX7_ofQuotient_23 : decode cX7_ofQuotient 23 = .ok (.lconst 1, 1) := by decide +kernel
theorem dX7_ofQuotient_24 : decode cX7_ofQuotient 24 = .ok (.lcmp, 1) := by decide +kernel
theorem dX7_ofQuotient_25 : decode cX7_ofQuotient 25 = .ok (.ifCond .ge 5, 3) := by decide +kernel
theorem dX7_ofQuotient_28 : decode cX7_ofQuotient 28 = .ok (.lconst 0, 1) := by decide +kernel
theorem dX7_ofQuotient_29 : decode cX7_ofQuotient 29 = .ok (.lreturn, 1) := by decide +kernel
theorem dX7_ofQuotient_30 : decode cX7_ofQuotient 30 = .ok (.lload 6, 2) := by decide +kernel
theorem dX7_ofQuotient_32 : decode cX7_ofQuotient 32 = .ok (.lload 8, 2) := by decide +kernel
theorem dX7_ofQuotient_34 : decode cX7_ofQuotient 34 = .ok (.ldiv, 1) := by decide +kernel
theorem dX7_ofQuotient_35 : decode cX7_ofQuotient 35 = .ok (.lstore 10, 2) := by decide +kernel
theorem dX7_ofQuotient_37 : decode cX7_ofQuotient 37 = .ok (.lload 10, 2) := by decide +kernel
theorem dX7_ofQuotient_39 : decode cX7_ofQuotient 39 = .ok (.lload 6, 2) := by decide +kernel
theorem dX7_ofQuotient_41 : decode cX7_ofQuotient 41 = .ok (.lload 8, 2) := by decide +kernel
theorem dX7_ofQuotient_43 : decode cX7_ofQuotient 43 = .ok (.lrem, 1) := by decide +kernel
theorem dX7_ofQuotient_44 : decode cX7_ofQuotient 44 = .ok (.lload 8, 2) := by decide +kernel
theorem dX7_ofQuotient_46 : decode cX7_ofQuotient 46 = .ok (.iload_n 3, 1) := by decide +kernel
theorem dX7_ofQuotient_47 : decode cX7_ofQuotient 47 = .ok (.invokestatic 23, 3) := by decide +kernel
theorem dX7_ofQuotient_50 : decode cX7_ofQuotient 50 = .ok (.ifCond .eq 10, 3) := by decide +kernel
theorem dX7_ofQuotient_53 : decode cX7_ofQuotient 53 = .ok (.lload 10, 2) := by decide +kernel
theorem dX7_ofQuotient_55 : decode cX7_ofQuotient 55 = .ok (.lconst 1, 1) := by decide +kernel
theorem dX7_ofQuotient_56 : decode cX7_ofQuotient 56 = .ok (.ladd, 1) := by decide +kernel
theorem dX7_ofQuotient_57 : decode cX7_ofQuotient 57 = .ok (.goto 5, 3) := by decide +kernel
theorem dX7_ofQuotient_60 : decode cX7_ofQuotient 60 = .ok (.lload 10, 2) := by decide +kernel
theorem dX7_ofQuotient_62 : decode cX7_ofQuotient 62 = .ok (.lload 4, 2) := by decide +kernel
theorem dX7_ofQuotient_64 : decode cX7_ofQuotient 64 = .ok (.lmul, 1) := by decide +kernel
theorem dX7_ofQuotient_65 : decode cX7_ofQuotient 65 = .ok (.lreturn, 1) := by decide +kernel
theorem dX7_goesAbove_0 : decode cX7_goesAbove 0 = .ok (.lload_n 2, 1) := by decide +kernel
theorem dX7_goesAbove_1 : decode cX7_goesAbove 1 = .ok (.lconst 0, 1) := by decide +kernel
theorem dX7_goesAbove_2 : decode cX7_goesAbove 2 = .ok (.lcmp, 1) := by decide +kernel
theorem dX7_goesAbove_3 : decode cX7_goesAbove 3 = .ok (.ifCond .eq 10, 3) := by decide +kernel
theorem dX7_goesAbove_6 : decode cX7_goesAbove 6 = .ok (.iload 6, 2) := by decide +kernel
theorem dX7_goesAbove_8 : decode cX7_goesAbove 8 = .ok (.bipush 100, 2) := by decide +kernel
theorem dX7_goesAbove_10 : decode cX7_goesAbove 10 = .ok (.if_icmp .ne 5, 3) := by decide +kernel
theorem dX7_goesAbove_13 : decode cX7_goesAbove 13 = .ok (.iconst 0, 1) := by decide +kernel
theorem dX7_goesAbove_14 : decode cX7_goesAbove 14 = .ok (.ireturn, 1) := by decide +kernel
theorem dX7_goesAbove_15 : decode cX7_goesAbove 15 = .ok (.iload 6, 2) := by decide +kernel
theorem dX7_goesAbove_17 : decode cX7_goesAbove 17 = .ok (.bipush 117, 2) := by decide +kernel
theorem dX7_goesAbove_19 : decode cX7_goesAbove 19 = .ok (.if_icmp .ne 5, 3) := by decide +kernel
theorem dX7_goesAbove_22 : decode cX7_goesAbove 22 = .ok (.iconst 1, 1) := by decide +kernel
theorem dX7_goesAbove_23 : decode cX7_goesAbove 23 = .ok (.ireturn, 1) := by decide +kernel
theorem dX7_goesAbove_24 : decode cX7_goesAbove 24 = .ok (.ldc2_w 27, 3) := by decide +kernel
theorem dX7_goesAbove_27 : decode cX7_goesAbove 27 = .ok (.lload_n 2, 1) := by decide +kernel
theorem dX7_goesAbove_28 : decode cX7_goesAbove 28 = .ok (.lmul, 1) := by decide +kernel
theorem dX7_goesAbove_29 : decode cX7_goesAbove 29 = .ok (.lload 4, 2) := by decide +kernel
theorem dX7_goesAbove_31 : decode cX7_goesAbove 31 = .ok (.lsub, 1) := by decide +kernel
theorem dX7_goesAbove_32 : decode cX7_goesAbove 32 = .ok (.lstore 7, 2) := by decide +kernel
theorem dX7_goesAbove_34 : decode cX7_goesAbove 34 = .ok (.lload 7, 2) := by decide +kernel
theorem dX7_goesAbove_36 : decode cX7_goesAbove 36 = .ok (.lconst 0, 1) := by decide +kernel
theorem dX7_goesAbove_37 : decode cX7_goesAbove 37 = .ok (.lcmp, 1) := by decide +kernel
theorem dX7_goesAbove_38 : decode cX7_goesAbove 38 = .ok (.ifCond .eq 16, 3) := by decide +kernel
theorem dX7_goesAbove_41 : decode cX7_goesAbove 41 = .ok (.lload 7, 2) := by decide +kernel
theorem dX7_goesAbove_43 : decode cX7_goesAbove 43 = .ok (.lconst 0, 1) := by decide +kernel
theorem dX7_goesAbove_44 : decode cX7_goesAbove 44 = .ok (.lcmp, 1) := by decide +kernel
theorem dX7_goesAbove_45 : decode cX7_goesAbove 45 = .ok (.ifCond .le 7, 3) := by decide +kernel
theorem dX7_goesAbove_48 : decode cX7_goesAbove 48 = .ok (.iconst 1, 1) := by decide +kernel
theorem dX7_goesAbove_49 : decode cX7_goesAbove 49 = .ok (.goto 4, 3) := by decide +kernel
theorem dX7_goesAbove_52 : decode cX7_goesAbove 52 = .ok (.iconst 0, 1) := by decide +kernel
theorem dX7_goesAbove_53 : decode cX7_goesAbove 53 = .ok (.ireturn, 1) := by decide +kernel
theorem dX7_goesAbove_54 : decode cX7_goesAbove 54 = .ok (.iload 6, 2) := by decide +kernel
theorem dX7_goesAbove_56 : decode cX7_goesAbove 56 = .ok (.bipush 104, 2) := by decide +kernel
theorem dX7_goesAbove_58 : decode cX7_goesAbove 58 = .ok (.if_icmp .eq 20, 3) := by decide +kernel
theorem dX7_goesAbove_61 : decode cX7_goesAbove 61 = .ok (.iload 6, 2) := by decide +kernel
theorem dX7_goesAbove_63 : decode cX7_goesAbove 63 = .ok (.bipush 101, 2) := by decide +kernel
theorem dX7_goesAbove_65 : decode cX7_goesAbove 65 = .ok (.if_icmp .ne 17, 3) := by decide +kernel
theorem dX7_goesAbove_68 : decode cX7_goesAbove 68 = .ok (.lload_n 0, 1) := by decide +kernel
theorem dX7_goesAbove_69 : decode cX7_goesAbove 69 = .ok (.ldc2_w 27, 3) := by decide +kernel
theorem dX7_goesAbove_72 : decode cX7_goesAbove 72 = .ok (.lrem, 1) := by decide +kernel
theorem dX7_goesAbove_73 : decode cX7_goesAbove 73 = .ok (.lconst 0, 1) := by decide +kernel
theorem dX7_goesAbove_74 : decode cX7_goesAbove 74 = .ok (.lcmp, 1) := by decide +kernel
theorem dX7_goesAbove_75 : decode cX7_goesAbove 75 = .ok (.ifCond .eq 7, 3) := by decide +kernel
theorem dX7_goesAbove_78 : decode cX7_goesAbove 78 = .ok (.iconst 1, 1) := by decide +kernel
theorem dX7_goesAbove_79 : decode cX7_goesAbove 79 = .ok (.goto 4, 3) := by decide +kernel
theorem dX7_goesAbove_82 : decode cX7_goesAbove 82 = .ok (.iconst 0, 1) := by decide +kernel
theorem dX7_goesAbove_83 : decode cX7_goesAbove 83 = .ok (.ireturn, 1) := by decide +kernel
theorem dX8_init_0 : decode cX8_init 0 = .ok (.aload_n 0, 1) := by decide +kernel
theorem dX8_init_1 : decode cX8_init 1 = .ok (.invokespecial 3, 3) := by decide +kernel
theorem dX8_init_4 : decode cX8_init 4 = .ok (.aload_n 0, 1) := by decide +kernel
theorem dX8_init_5 : decode cX8_init 5 = .ok (.bipush 6, 2) := by decide +kernel
theorem dX8_init_7 : decode cX8_init 7 = .ok (.newarray .int, 2) := by decide +kernel
theorem dX8_init_9 : decode cX8_init 9 = .ok (.putfield 9, 3) := by decide +kernel
theorem dX8_init_12 : decode cX8_init 12 = .ok (.aload_n 0, 1) := by decide +kernel
theorem dX8_init_13 : decode cX8_init 13 = .ok (.bipush 6, 2) := by decide +kernel
theorem dX8_init_15 : decode cX8_init 15 = .ok (.newarray .long, 2) := by decide +kernel
theorem dX8_init_17 : decode cX8_init 17 = .ok (.putfield 15, 3) := by decide +kernel
theorem dX8_init_20 : decode cX8_init 20 = .ok (.aload_n 0, 1) := by decide +kernel
theorem dX8_init_21 : decode cX8_init 21 = .ok (.bipush 6, 2) := by decide +kernel
theorem dX8_init_23 : decode cX8_init 23 = .ok (.newarray .int, 2) := by decide +kernel
theorem dX8_init_25 : decode cX8_init 25 = .ok (.putfield 19, 3) := by decide +kernel
theorem dX8_init_28 : decode cX8_init 28 = .ok (.aload_n 0, 1) := by decide +kernel
theorem dX8_init_29 : decode cX8_init 29 = .ok (.bipush 6, 2) := by decide +kernel
theorem dX8_init_31 : decode cX8_init 31 = .ok (.newarray .char, 2) := by decide +kernel
theorem dX8_init_33 : decode cX8_init 33 = .ok (.putfield 22, 3) := by decide +kernel
theorem dX8_init_36 : decode cX8_init 36 = .ok (.return_, 1) := by decide +kernel
theorem dX8_copyFrom_0 : decode cX8_copyFrom 0 = .ok (.aload_n 1, 1) := by decide +kernel
theorem dX8_copyFrom_1 : decode cX8_copyFrom 1 = .ok (.getfield 9, 3) := by decide +kernel
theorem dX8_copyFrom_4 : decode cX8_copyFrom 4 = .ok (.iconst 0, 1) := by decide +kernel
theorem dX8_copyFrom_5 : decode cX8_copyFrom 5 = .ok (.aload_n 0, 1) := by decide +kernel
theorem dX8_copyFrom_6 : decode cX8_copyFrom 6 = .ok (.getfield 9, 3) := by decide +kernel
theorem dX8_copyFrom_9 : decode cX8_copyFrom 9 = .ok (.iconst 0, 1) := by decide +kernel
theorem dX8_copyFrom_10 : decode cX8_copyFrom 10 = .ok (.bipush 6, 2) := by decide +kernel
theorem dX8_copyFrom_12 : decode cX8_copyFrom 12 = .ok (.invokestatic 26, 3) := by decide +kernel
theorem dX8_copyFrom_15 : decode cX8_copyFrom 15 = .ok (.aload_n 1, 1) := by decide +kernel
theorem dX8_copyFrom_16 : decode cX8_copyFrom 16 = .ok (.getfield 15, 3) := by decide +kernel
theorem dX8_copyFrom_19 : decode cX8_copyFrom 19 = .ok (.iconst 0, 1) := by decide +kernel
theorem dX8_copyFrom_20 : decode cX8_copyFrom 20 = .ok (.aload_n 0, 1) := by decide +kernel
theorem dX8_copyFrom_21 : decode cX8_copyFrom 21 = .ok (.getfield 15, 3) := by decide +kernel
theorem dX8_copyFrom_24 : decode cX8_copyFrom 24 = .ok (.iconst 0, 1) := by decide +kernel
theorem dX8_copyFrom_25 : decode cX8_copyFrom 25 = .ok (.bipush 6, 2) := by decide +kernel
theorem dX8_copyFrom_27 : decode cX8_copyFrom 27 = .ok (.invokestatic 26, 3) := by decide +kernel
theorem dX8_copyFrom_30 : decode cX8_copyFrom 30 = .ok (.aload_n 1, 1) := by decide +kernel
theorem dX8_copyFrom_31 : decode cX8_copyFrom 31 = .ok (.getfield 19, 3) := by decide +kernel
theorem dX8_copyFrom_34 : decode cX8_copyFrom 34 = .ok (.iconst 0, 1) := by decide +kernel
theorem dX8_copyFrom_35 : decode cX8_copyFrom 35 = .ok (.aload_n 0, 1) := by decide +kernel
theorem dX8_copyFrom_36 : decode cX8_copyFrom 36 = .ok (.getfield 19, 3) := by decide +kernel
theorem dX8_copyFrom_39 : decode cX8_copyFrom 39 = .ok (.iconst 0, 1) := by decide +kernel
theorem dX8_copyFrom_40 : decode cX8_copyFrom 40 = .ok (.bipush 6, 2) := by decide +kernel
theorem dX8_copyFrom_42 : decode cX8_copyFrom 42 = .ok (.invokestatic 26, 3) := by decide +kernel
theorem dX8_copyFrom_45 : decode cX8_copyFrom 45 = .ok (.aload_n 1, 1) := by decide +kernel
theorem dX8_copyFrom_46 : decode cX8_copyFrom 46 = .ok (.getfield 22, 3) := by decide +kernel
theorem dX8_copyFrom_49 : decode cX8_copyFrom 49 = .ok (.iconst 0, 1) := by decide +kernel
theorem dX8_copyFrom_50 : decode cX8_copyFrom 50 = .ok (.aload_n 0, 1) := by decide +kernel
theorem dX8_copyFrom_51 : decode cX8_copyFrom 51 = .ok (.getfield 22, 3) := by decide +kernel
theorem dX8_copyFrom_54 : decode cX8_copyFrom 54 = .ok (.iconst 0, 1) := by decide +kernel
theorem dX8_copyFrom_55 : decode cX8_copyFrom 55 = .ok (.bipush 6, 2) := by decide +kernel
theorem dX8_copyFrom_57 : decode cX8_copyFrom 57 = .ok (.invokestatic 26, 3) := by decide +kernel
theorem dX8_copyFrom_60 : decode cX8_copyFrom 60 = .ok (.aload_n 0, 1) := by decide +kernel
theorem dX8_copyFrom_61 : decode cX8_copyFrom 61 = .ok (.aload_n 1, 1) := by decide +kernel
theorem dX8_copyFrom_62 : decode cX8_copyFrom 62 = .ok (.getfield 32, 3) := by decide +kernel
theorem dX8_copyFrom_65 : decode cX8_copyFrom 65 = .ok (.putfield 32, 3) := by decide +kernel
theorem dX8_copyFrom_68 : decode cX8_copyFrom 68 = .ok (.aload_n 0, 1) := by decide +kernel
theorem dX8_copyFrom_69 : decode cX8_copyFrom 69 = .ok (.aload_n 1, 1) := by decide +kernel
theorem dX8_copyFrom_70 : decode cX8_copyFrom 70 = .ok (.getfield 36, 3) := by decide +kernel
theorem dX8_copyFrom_73 : decode cX8_copyFrom 73 = .ok (.putfield 36, 3) := by decide +kernel
theorem dX8_copyFrom_76 : decode cX8_copyFrom 76 = .ok (.aload_n 0, 1) := by decide +kernel
theorem dX8_copyFrom_77 : decode cX8_copyFrom 77 = .ok (.aload_n 1, 1) := by decide +kernel
theorem dX8_copyFrom_78 : decode cX8_copyFrom 78 = .ok (.getfield 39, 3) := by decide +kernel
theorem dX8_copyFrom_81 : decode cX8_copyFrom 81 = .ok (.putfield 39, 3) := by decide +kernel
theorem dX8_copyFrom_84 : decode cX8_copyFrom 84 = .ok (.aload_n 0, 1) := by decide +kernel
theorem dX8_copyFrom_85 : decode cX8_copyFrom 85 = .ok (.aload_n 1, 1) := by decide +kernel
theorem dX8_copyFrom_86 : decode cX8_copyFrom 86 = .ok (.getfield 42, 3) := by decide +kernel
theorem dX8_copyFrom_89 : decode cX8_copyFrom 89 = .ok (.putfield 42, 3) := by decide +kernel
theorem dX8_copyFrom_92 : decode cX8_copyFrom 92 = .ok (.aload_n 0, 1) := by decide +kernel
theorem dX8_copyFrom_93 : decode cX8_copyFrom 93 = .ok (.aload_n 1, 1) := by decide +kernel
theorem dX8_copyFrom_94 : decode cX8_copyFrom 94 = .ok (.getfield 46, 3) := by decide +kernel
theorem dX8_copyFrom_97 : decode cX8_copyFrom 97 = .ok (.putfield 46, 3) := by decide +kernel
theorem dX8_copyFrom_100 : decode cX8_copyFrom 100 = .ok (.aload_n 0, 1) := by decide +kernel
theorem dX8_copyFrom_101 : decode cX8_copyFrom 101 = .ok (.aload_n 1, 1) := by decide +kernel
theorem dX8_copyFrom_102 : decode cX8_copyFrom 102 = .ok (.getfield 49, 3) := by decide +kernel
theorem dX8_copyFrom_105 : decode cX8_copyFrom 105 = .ok (.putfield 49, 3) := by decide +kernel
theorem dX8_copyFrom_108 : decode cX8_copyFrom 108 = .ok (.aload_n 0, 1) := by decide +kernel
theorem dX8_copyFrom_109 : decode cX8_copyFrom 109 = .ok (.aload_n 1, 1) := by decide +kernel
theorem dX8_copyFrom_110 : decode cX8_copyFrom 110 = .ok (.getfield 52, 3) := by decide +kernel
theorem dX8_copyFrom_113 : decode cX8_copyFrom 113 = .ok (.putfield 52, 3) := by decide +kernel
theorem dX8_copyFrom_116 : decode cX8_copyFrom 116 = .ok (.return_, 1) := by decide +kernel
theorem dX8_enter_0 : decode cX8_enter 0 = .ok (.aload_n 0, 1) := by decide +kernel
theorem dX8_enter_1 : decode cX8_enter 1 = .ok (.getfield 36, 3) := by decide +kernel
theorem dX8_enter_4 : decode cX8_enter 4 = .ok (.istore 5, 2) := by decide +kernel
theorem dX8_enter_6 : decode cX8_enter 6 = .ok (.aload_n 0, 1) := by decide +kernel
theorem dX8_enter_7 : decode cX8_enter 7 = .ok (.getfield 9, 3) := by decide +kernel
theorem dX8_enter_10 : decode cX8_enter 10 = .ok (.aload_n 0, 1) := by decide +kernel
theorem dX8_enter_11 : decode cX8_enter 11 = .ok (.getfield 32, 3) := by decide +kernel
theorem dX8_enter_14 : decode cX8_enter 14 = .ok (.iload 5, 2) := by decide +kernel
theorem dX8_enter_16 : decode cX8_enter 16 = .ok (.iastore, 1) := by decide +kernel
theorem dX8_enter_17 : decode cX8_enter 17 = .ok (.aload_n 0, 1) := by decide +kernel
theorem dX8_enter_18 : decode cX8_enter 18 = .ok (.getfield 15, 3) := by decide +kernel
theorem dX8_enter_21 : decode cX8_enter 21 = .ok (.aload_n 0, 1) := by decide +kernel
theorem dX8_enter_22 : decode cX8_enter 22 = .ok (.getfield 32, 3) := by decide +kernel
theorem dX8_enter_25 : decode cX8_enter 25 = .ok (.lload_n 1, 1) := by decide +kernel
theorem dX8_enter_26 : decode cX8_enter 26 = .ok (.lastore, 1) := by decide +kernel
theorem dX8_enter_27 : decode cX8_enter 27 = .ok (.aload_n 0, 1) := by decide +kernel
theorem dX8_enter_28 : decode cX8_enter 28 = .ok (.getfield 19, 3) := by decide +kernel
theorem dX8_enter_31 : decode cX8_enter 31 = .ok (.aload_n 0, 1) := by decide +kernel
theorem dX8_enter_32 : decode cX8_enter 32 = .ok (.getfield 32, 3) := by decide +kernel
theorem dX8_enter_35 : decode cX8_enter 35 = .ok (.iload_n 3, 1) := by decide +kernel
theorem dX8_enter_36 : decode cX8_enter 36 = .ok (.iastore, 1) := by decide +kernel
theorem dX8_enter_37 : decode cX8_enter 37 = .ok (.aload_n 0, 1) := by decide +kernel
theorem dX8_enter_38 : decode cX8_enter 38 = .ok (.getfield 22, 3) := by decide +kernel
theorem dX8_enter_41 : decode cX8_enter 41 = .ok (.aload_n 0, 1) := by decide +kernel
theorem dX8_enter_42 : decode cX8_enter 42 = .ok (.getfield 32, 3) := by decide +kernel
theorem dX8_enter_45 : decode cX8_enter 45 = .ok (.iload 4, 2) := by decide +kernel
theorem dX8_enter_47 : decode cX8_enter 47 = .ok (.castore, 1) := by decide +kernel
theorem dX8_enter_48 : decode cX8_enter 48 = .ok (.aload_n 0, 1) := by decide +kernel
theorem dX8_enter_49 : decode cX8_enter 49 = .ok (.dup, 1) := by decide +kernel
theorem dX8_enter_50 : decode cX8_enter 50 = .ok (.getfield 32, 3) := by decide +kernel
theorem dX8_enter_53 : decode cX8_enter 53 = .ok (.iconst 1, 1) := by decide +kernel
theorem dX8_enter_54 : decode cX8_enter 54 = .ok (.iadd, 1) := by decide +kernel
theorem dX8_enter_55 : decode cX8_enter 55 = .ok (.putfield 32, 3) := by decide +kernel
theorem dX8_enter_58 : decode cX8_enter 58 = .ok (.aload_n 0, 1) := by decide +kernel
theorem dX8_enter_59 : decode cX8_enter 59 = .ok (.dup, 1) := by decide +kernel
theorem dX8_enter_60 : decode cX8_enter 60 = .ok (.getfield 36, 3) := by decide +kernel
theorem dX8_enter_63 : decode cX8_enter 63 = .ok (.iconst 1, 1) := by decide +kernel
theorem dX8_enter_64 : decode cX8_enter 64 = .ok (.iadd, 1) := by decide +kernel
theorem dX8_enter_65 : decode cX8_enter 65 = .ok (.putfield 36, 3) := by decide +kernel
theorem dX8_enter_68 : decode cX8_enter 68 = .ok (.aload_n 0, 1) := by decide +kernel
theorem dX8_enter_69 : decode cX8_enter 69 = .ok (.dup, 1) := by decide +kernel
theorem dX8_enter_70 : decode cX8_enter 70 = .ok (.getfield 46, 3) := by decide +kernel
theorem dX8_enter_73 : decode cX8_enter 73 = .ok (.lload_n 1, 1) := by decide +kernel
theorem dX8_enter_74 : decode cX8_enter 74 = .ok (.ladd, 1) := by decide +kernel
theorem dX8_enter_75 : decode cX8_enter 75 = .ok (.putfield 46, 3) := by decide +kernel
theorem dX8_enter_78 : decode cX8_enter 78 = .ok (.iload 5, 2) := by decide +kernel
theorem dX8_enter_80 : decode cX8_enter 80 = .ok (.ireturn, 1) := by decide +kernel
theorem dX8_takeOut_0 : decode cX8_takeOut 0 = .ok (.aload_n 0, 1) := by decide +kernel
theorem dX8_takeOut_1 : decode cX8_takeOut 1 = .ok (.getfield 15, 3) := by decide +kernel
theorem dX8_takeOut_4 : decode cX8_takeOut 4 = .ok (.iload_n 1, 1) := by decide +kernel
theorem dX8_takeOut_5 : decode cX8_takeOut 5 = .ok (.laload, 1) := by decide +kernel
theorem dX8_takeOut_6 : decode cX8_takeOut 6 = .ok (.lstore_n 2, 1) := by decide +kernel
theorem dX8_takeOut_7 : decode cX8_takeOut 7 = .ok (.iload_n 1, 1) := by decide +kernel
theorem dX8_takeOut_8 : decode cX8_takeOut 8 = .ok (.iconst 1, 1) := by decide +kernel
theorem dX8_takeOut_9 : decode cX8_takeOut 9 = .ok (.iadd, 1) := by decide +kernel
theorem dX8_takeOut_10 : decode cX8_takeOut 10 = .ok (.istore 4, 2) := by decide +kernel
theorem dX8_takeOut_12 : decode cX8_takeOut 12 = .ok (.iload 4, 2) := by decide +kernel
theorem dX8_takeOut_14 : decode cX8_takeOut 14 = .ok (.aload_n 0, 1) := by decide +kernel
theorem dX8_takeOut_15 : decode cX8_takeOut 15 = .ok (.getfield 32, 3) := by decide +kernel
theorem dX8_takeOut_18 : decode cX8_takeOut 18 = .ok (.if_icmp .ge 73, 3) := by decide +kernel
theorem dX8_takeOut_21 : decode cX8_takeOut 21 = .ok (.aload_n 0, 1) := by decide +kernel
theorem dX8_takeOut_22 : decode cX8_takeOut 22 = .ok (.getfield 9, 3) := by decide +kernel
theorem dX8_takeOut_25 : decode cX8_takeOut 25 = .ok (.iload 4, 2) := by decide +kernel
theorem dX8_takeOut_27 : decode cX8_takeOut 27 = .ok (.iconst 1, 1) := by decide +kernel
theorem dX8_takeOut_28 : decode cX8_takeOut 28 = .ok (.isub, 1) := by decide +kernel
theorem dX8_takeOut_29 : decode cX8_takeOut 29 = .ok (.aload_n 0, 1) := by decide +kernel
theorem dX8_takeOut_30 : decode cX8_takeOut 30 = .ok (.getfield 9, 3) := by decide +kernel
theorem dX8_takeOut_33 : decode cX8_takeOut 33 = .ok (.iload 4, 2) := by decide +kernel
theorem dX8_takeOut_35 : decode cX8_takeOut 35 = .ok (.iaload, 1) := by decide +kernel
theorem dX8_takeOut_36 : decode cX8_takeOut 36 = .ok (.iastore, 1) := by decide +kernel
theorem dX8_takeOut_37 : decode cX8_takeOut 37 = .ok (.aload_n 0, 1) := by decide +kernel
theorem dX8_takeOut_38 : decode cX8_takeOut 38 = .ok (.getfield 15, 3) := by decide +kernel
theorem dX8_takeOut_41 : decode cX8_takeOut 41 = .ok (.iload 4, 2) := by decide +kernel
theorem dX8_takeOut_43 : decode cX8_takeOut 43 = .ok (.iconst 1, 1) := by decide +kernel
theorem dX8_takeOut_44 : decode cX8_takeOut 44 = .ok (.isub, 1) := by decide +kernel
theorem dX8_takeOut_45 : decode cX8_takeOut 45 = .ok (.aload_n 0, 1) := by decide +kernel
theorem dX8_takeOut_46 : decode cX8_takeOut 46 = .ok (.getfield 15, 3) := by decide +kernel
theorem dX8_takeOut_49 : decode cX8_takeOut 49 = .ok (.iload 4, 2) := by decide +kernel
theorem dX8_takeOut_51 : decode cX8_takeOut 51 = .ok (.laload, 1) := by decide +kernel
theorem dX8_takeOut_52 : decode cX8_takeOut 52 = .ok (.lastore, 1) := by decide +kernel
theorem dX8_takeOut_53 : decode cX8_takeOut 53 = .ok (.aload_n 0, 1) := by decide +kernel
theorem dX8_takeOut_54 : decode cX8_takeOut 54 = .ok (.getfield 19, 3) := by decide +kernel
theorem dX8_takeOut_57 : decode cX8_takeOut 57 = .ok (.iload 4, 2) := by decide +kernel
theorem dX8_takeOut_59 : decode cX8_takeOut 59 = .ok (.iconst 1, 1) := by decide +kernel
theorem dX8_takeOut_60 : decode cX8_takeOut 60 = .ok (.isub, 1) := by decide +kernel
theorem dX8_takeOut_61 : decode cX8_takeOut 61 = .ok (.aload_n 0, 1) := by decide +kernel
theorem dX8_takeOut_62 : decode cX8_takeOut 62 = .ok (.getfield 19, 3) := by decide +kernel
theorem dX8_takeOut_65 : decode cX8_takeOut 65 = .ok (.iload 4, 2) := by decide +kernel
theorem dX8_takeOut_67 : decode cX8_takeOut 67 = .ok (.iaload, 1) := by decide +kernel
theorem dX8_takeOut_68 : decode cX8_takeOut 68 = .ok (.iastore, 1) := by decide +kernel
theorem dX8_takeOut_69 : decode cX8_takeOut 69 = .ok (.aload_n 0, 1) := by decide +kernel
theorem dX8_takeOut_70 : decode cX8_takeOut 70 = .ok (.getfield 22, 3) := by decide +kernel
theorem dX8_takeOut_73 : decode cX8_takeOut 73 = .ok (.iload 4, 2) := by decide +kernel
theorem dX8_takeOut_75 : decode cX8_takeOut 75 = .ok (.iconst 1, 1) := by decide +kernel
theorem dX8_takeOut_76 : decode cX8_takeOut 76 = .ok (.isub, 1) := by decide +kernel
theorem dX8_takeOut_77 : decode cX8_takeOut 77 = .ok (.aload_n 0, 1) := by decide +kernel
theorem dX8_takeOut_78 : decode cX8_takeOut 78 = .ok (.getfield 22, 3) := by decide +kernel
theorem dX8_takeOut_81 : decode cX8_takeOut 81 = .ok (.iload 4, 2) := by decide +kernel
theorem dX8_takeOut_83 : decode cX8_takeOut 83 = .ok (.caload, 1) := by decide +kernel
theorem dX8_takeOut_84 : decode cX8_takeOut 84 = .ok (.castore, 1) := by decide +kernel
theorem dX8_takeOut_85 : decode cX8_takeOut 85 = .ok (.iinc 4 1, 3) := by decide +kernel
theorem dX8_takeOut_88 : decode cX8_takeOut 88 = .ok (.goto (-76), 3) := by decide +kernel
theorem dX8_takeOut_91 : decode cX8_takeOut 91 = .ok (.aload_n 0, 1) := by decide +kernel
theorem dX8_takeOut_92 : decode cX8_takeOut 92 = .ok (.dup, 1) := by decide +kernel
theorem dX8_takeOut_93 : decode cX8_takeOut 93 = .ok (.getfield 32, 3) := by decide +kernel
theorem dX8_takeOut_96 : decode cX8_takeOut 96 = .ok (.iconst 1, 1) := by decide +kernel
theorem dX8_takeOut_97 : decode cX8_takeOut 97 = .ok (.isub, 1) := by decide +kernel
theorem dX8_takeOut_98 : decode cX8_takeOut 98 = .ok (.putfield 32, 3) := by decide +kernel
theorem dX8_takeOut_101 : decode cX8_takeOut 101 = .ok (.aload_n 0, 1) := by decide +kernel
theorem dX8_takeOut_102 : decode cX8_takeOut 102 = .ok (.dup, 1) := by decide +kernel
theorem dX8_takeOut_103 : decode cX8_takeOut 103 = .ok (.getfield 52, 3) := by decide +kernel
theorem dX8_takeOut_106 : decode cX8_takeOut 106 = .ok (.lload_n 2, 1) := by decide +kernel
theorem dX8_takeOut_107 : decode cX8_takeOut 107 = .ok (.ladd, 1) := by decide +kernel
theorem dX8_takeOut_108 : decode cX8_takeOut 108 = .ok (.putfield 52, 3) := by decide +kernel
theorem dX8_takeOut_111 : decode cX8_takeOut 111 = .ok (.lload_n 2, 1) := by decide +kernel
theorem dX8_takeOut_112 : decode cX8_takeOut 112 = .ok (.lreturn, 1) := by decide +kernel
theorem dX8_becomeRounded_0 : decode cX8_becomeRounded 0 = .ok (.aload_n 0, 1) := by decide +kernel
theorem dX8_becomeRounded_1 : decode cX8_becomeRounded 1 = .ok (.iload_n 1, 1) := by decide +kernel
theorem dX8_becomeRounded_2 : decode cX8_becomeRounded 2 = .ok (.lload_n 2, 1) := by decide +kernel
theorem dX8_becomeRounded_3 : decode cX8_becomeRounded 3 = .ok (.lload_n 2, 1) := by decide +kernel
theorem dX8_becomeRounded_4 : decode cX8_becomeRounded 4 = .ok (.aload_n 0, 1) := by decide +kernel
theorem dX8_becomeRounded_5 : decode cX8_becomeRounded 5 = .ok (.getfield 19, 3) := by decide +kernel
theorem dX8_becomeRounded_8 : decode cX8_becomeRounded 8 = .ok (.iload_n 1, 1) := by decide +kernel
theorem dX8_becomeRounded_9 : decode cX8_becomeRounded 9 = .ok (.iaload, 1) := by decide +kernel
theorem dX8_becomeRounded_10 : decode cX8_becomeRounded 10 = .ok (.aload_n 0, 1) := by decide +kernel
theorem dX8_becomeRounded_11 : decode cX8_becomeRounded 11 = .ok (.getfield 22, 3) := by decide +kernel
theorem dX8_becomeRounded_14 : decode cX8_becomeRounded 14 = .ok (.iload_n 1, 1) := by decide +kernel
theorem dX8_becomeRounded_15 : decode cX8_becomeRounded 15 = .ok (.caload, 1) := by decide +kernel
theorem dX8_becomeRounded_16 : decode cX8_becomeRounded 16 = .ok (.invokestatic 55, 3) := by decide +kernel
theorem dX8_becomeRounded_19 : decode cX8_becomeRounded 19 = .ok (.invokevirtual 61, 3) := by decide +kernel
theorem dX8_becomeRounded_22 : decode cX8_becomeRounded 22 = .ok (.aload_n 0, 1) := by decide +kernel
theorem dX8_becomeRounded_23 : decode cX8_becomeRounded 23 = .ok (.getfield 15, 3) := by decide +kernel
theorem dX8_becomeRounded_26 : decode cX8_becomeRounded 26 = .ok (.iload_n 1, 1) := by decide +kernel
theorem dX8_becomeRounded_27 : decode cX8_becomeRounded 27 = .ok (.laload, 1) := by decide +kernel
theorem dX8_becomeRounded_28 : decode cX8_becomeRounded 28 = .ok (.lreturn, 1) := by decide +kernel
theorem dX8_become_0 : decode cX8_become 0 = .ok (.aload_n 0, 1) := by decide +kernel
theorem dX8_become_1 : decode cX8_become 1 = .ok (.dup, 1) := by decide +kernel
theorem dX8_become_2 : decode cX8_become 2 = .ok (.getfield 42, 3) := by decide +kernel
theorem dX8_become_5 : decode cX8_become 5 = .ok (.lload 4, 2) := by decide +kernel
theorem dX8_become_7 : decode cX8_become 7 = .ok (.lload_n 2, 1) := by decide +kernel
theorem dX8_become_8 : decode cX8_become 8 = .ok (.lsub, 1) := by decide +kernel
theorem dX8_become_9 : decode cX8_become 9 = .ok (.ladd, 1) := by decide +kernel
theorem dX8_become_10 : decode cX8_become 10 = .ok (.putfield 42, 3) := by decide +kernel
theorem dX8_become_13 : decode cX8_become 13 = .ok (.aload_n 0, 1) := by decide +kernel
theorem dX8_become_14 : decode cX8_become 14 = .ok (.getfield 15, 3) := by decide +kernel
theorem dX8_become_17 : decode cX8_become 17 = .ok (.iload_n 1, 1) := by decide +kernel
theorem dX8_become_18 : decode cX8_become 18 = .ok (.lload 4, 2) := by decide +kernel
theorem dX8_become_20 : decode cX8_become 20 = .ok (.lastore, 1) := by decide +kernel
theorem dX8_become_21 : decode cX8_become 21 = .ok (.lload 4, 2) := by decide +kernel
theorem dX8_become_23 : decode cX8_become 23 = .ok (.ldc2_w 65, 3) := by decide +kernel
theorem dX8_become_26 : decode cX8_become 26 = .ok (.lcmp, 1) := by decide +kernel
theorem dX8_become_27 : decode cX8_become 27 = .ok (.ifCond .lt 25, 3) := by decide +kernel
theorem dX8_become_30 : decode cX8_become 30 = .ok (.aload_n 0, 1) := by decide +kernel
theorem dX8_become_31 : decode cX8_become 31 = .ok (.getfield 15, 3) := by decide +kernel
theorem dX8_become_34 : decode cX8_become 34 = .ok (.iload_n 1, 1) := by decide +kernel
theorem dX8_become_35 : decode cX8_become 35 = .ok (.lload 4, 2) := by decide +kernel
theorem dX8_become_37 : decode cX8_become 37 = .ok (.ldc2_w 65, 3) := by decide +kernel
theorem dX8_become_40 : decode cX8_become 40 = .ok (.lsub, 1) := by decide +kernel
theorem dX8_become_41 : decode cX8_become 41 = .ok (.lastore, 1) := by decide +kernel
theorem dX8_become_42 : decode cX8_become 42 = .ok (.aload_n 0, 1) := by decide +kernel
theorem dX8_become_43 : decode cX8_become 43 = .ok (.dup, 1) := by decide +kernel
theorem dX8_become_44 : decode cX8_become 44 = .ok (.getfield 39, 3) := by decide +kernel
theorem dX8_become_47 : decode cX8_become 47 = .ok (.iconst 1, 1) := by decide +kernel
theorem dX8_become_48 : decode cX8_become 48 = .ok (.iadd, 1) := by decide +kernel
theorem dX8_become_49 : decode cX8_become 49 = .ok (.putfield 39, 3) := by decide +kernel
theorem dX8_become_52 : decode cX8_become 52 = .ok (.return_, 1) := by decide +kernel
theorem dX8_rankOf_0 : decode cX8_rankOf 0 = .ok (.iconst 0, 1) := by decide +kernel
theorem dX8_rankOf_1 : decode cX8_rankOf 1 = .ok (.istore_n 2, 1) := by decide +kernel
theorem dX8_rankOf_2 : decode cX8_rankOf 2 = .ok (.iconst 0, 1) := by decide +kernel
theorem dX8_rankOf_3 : decode cX8_rankOf 3 = .ok (.istore_n 3, 1) := by decide +kernel
theorem dX8_rankOf_4 : decode cX8_rankOf 4 = .ok (.iload_n 3, 1) := by decide +kernel
theorem dX8_rankOf_5 : decode cX8_rankOf 5 = .ok (.aload_n 0, 1) := by decide +kernel
theorem dX8_rankOf_6 : decode cX8_rankOf 6 = .ok (.getfield 32, 3) := by decide +kernel
theorem dX8_rankOf_9 : decode cX8_rankOf 9 = .ok (.if_icmp .ge 21, 3) := by decide +kernel
theorem dX8_rankOf_12 : decode cX8_rankOf 12 = .ok (.aload_n 0, 1) := by decide +kernel
theorem dX8_rankOf_13 : decode cX8_rankOf 13 = .ok (.iload_n 3, 1) := by decide +kernel
theorem dX8_rankOf_14 : decode cX8_rankOf 14 = .ok (.iload_n 1, 1) := by decide +kernel
theorem dX8_rankOf_15 : decode cX8_rankOf 15 = .ok (.invokevirtual 67, 3) := by decide +kernel
theorem dX8_rankOf_18 : decode cX8_rankOf 18 = .ok (.ifCond .eq 6, 3) := by decide +kernel
theorem dX8_rankOf_21 : decode cX8_rankOf 21 = .ok (.iinc 2 1, 3) := by decide +kernel
theorem dX8_rankOf_24 : decode cX8_rankOf 24 = .ok (.iinc 3 1, 3) := by decide +kernel
theorem dX8_rankOf_27 : decode cX8_rankOf 27 = .ok (.goto (-23), 3) := by decide +kernel
theorem dX8_rankOf_30 : decode cX8_rankOf 30 = .ok (.iload_n 2, 1) := by decide +kernel
theorem dX8_rankOf_31 : decode cX8_rankOf 31 = .ok (.ireturn, 1) := by decide +kernel
theorem dX8_isAhead_0 : decode cX8_isAhead 0 = .ok (.aload_n 0, 1) := by decide +kernel
theorem dX8_isAhead_1 : decode cX8_isAhead 1 = .ok (.getfield 15, 3) := by decide +kernel
theorem dX8_isAhead_4 : decode cX8_isAhead 4 = .ok (.iload_n 1, 1) := by decide +kernel
theorem dX8_isAhead_5 : decode cX8_isAhead 5 = .ok (.laload, 1) := by decide +kernel
theorem dX8_isAhead_6 : decode cX8_isAhead 6 = .ok (.aload_n 0, 1) := by decide +kernel
theorem dX8_isAhead_7 : decode cX8_isAhead 7 = .ok (.getfield 15, 3) := by decide +kernel
theorem dX8_isAhead_10 : decode cX8_isAhead 10 = .ok (.iload_n 2, 1) := by decide +kernel
theorem dX8_isAhead_11 : decode cX8_isAhead 11 = .ok (.laload, 1) := by decide +kernel
theorem dX8_isAhead_12 : decode cX8_isAhead 12 = .ok (.lcmp, 1) := by decide +kernel
theorem dX8_isAhead_13 : decode cX8_isAhead 13 = .ok (.ifCond .eq 25, 3) := by decide +kernel
theorem dX8_isAhead_16 : decode cX8_isAhead 16 = .ok (.aload_n 0, 1) := by decide +kernel
theorem dX8_isAhead_17 : decode cX8_isAhead 17 = .ok (.getfield 15, 3) := by decide +kernel
theorem dX8_isAhead_20 : decode cX8_isAhead 20 = .ok (.iload_n 1, 1) := by decide +kernel
theorem dX8_isAhead_21 : decode cX8_isAhead 21 = .ok (.laload, 1) := by decide +kernel
theorem dX8_isAhead_22 : decode cX8_isAhead 22 = .ok (.aload_n 0, 1) := by decide +kernel
theorem dX8_isAhead_23 : decode cX8_isAhead 23 = .ok (.getfield 15, 3) := by decide +kernel
theorem dX8_isAhead_26 : decode cX8_isAhead 26 = .ok (.iload_n 2, 1) := by decide +kernel
theorem dX8_isAhead_27 : decode cX8_isAhead 27 = .ok (.laload, 1) := by decide +kernel
theorem dX8_isAhead_28 : decode cX8_isAhead 28 = .ok (.lcmp, 1) := by decide +kernel
theorem dX8_isAhead_29 : decode cX8_isAhead 29 = .ok (.ifCond .le 7, 3) := by decide +kernel
theorem dX8_isAhead_32 : decode cX8_isAhead 32 = .ok (.iconst 1, 1) := by decide +kernel
theorem dX8_isAhead_33 : decode cX8_isAhead 33 = .ok (.goto 4, 3) := by decide +kernel
theorem dX8_isAhead_36 : decode cX8_isAhead 36 = .ok (.iconst 0, 1) := by decide +kernel
theorem dX8_isAhead_37 : decode cX8_isAhead 37 = .ok (.ireturn, 1) := by decide +kernel
theorem dX8_isAhead_38 : decode cX8_isAhead 38 = .ok (.aload_n 0, 1) := by decide +kernel
theorem dX8_isAhead_39 : decode cX8_isAhead 39 = .ok (.getfield 19, 3) := by decide +kernel
theorem dX8_isAhead_42 : decode cX8_isAhead 42 = .ok (.iload_n 1, 1) := by decide +kernel
theorem dX8_isAhead_43 : decode cX8_isAhead 43 = .ok (.iaload, 1) := by decide +kernel
theorem dX8_isAhead_44 : decode cX8_isAhead 44 = .ok (.aload_n 0, 1) := by decide +kernel
theorem dX8_isAhead_45 : decode cX8_isAhead 45 = .ok (.getfield 19, 3) := by decide +kernel
theorem dX8_isAhead_48 : decode cX8_isAhead 48 = .ok (.iload_n 2, 1) := by decide +kernel
theorem dX8_isAhead_49 : decode cX8_isAhead 49 = .ok (.iaload, 1) := by decide +kernel
theorem dX8_isAhead_50 : decode cX8_isAhead 50 = .ok (.if_icmp .eq 24, 3) := by decide +kernel
theorem dX8_isAhead_53 : decode cX8_isAhead 53 = .ok (.aload_n 0, 1) := by decide +kernel
theorem dX8_isAhead_54 : decode cX8_isAhead 54 = .ok (.getfield 19, 3) := by decide +kernel
theorem dX8_isAhead_57 : decode cX8_isAhead 57 = .ok (.iload_n 1, 1) := by decide +kernel
theorem dX8_isAhead_58 : decode cX8_isAhead 58 = .ok (.iaload, 1) := by decide +kernel
theorem dX8_isAhead_59 : decode cX8_isAhead 59 = .ok (.aload_n 0, 1) := by decide +kernel
theorem dX8_isAhead_60 : decode cX8_isAhead 60 = .ok (.getfield 19, 3) := by decide +kernel
theorem dX8_isAhead_63 : decode cX8_isAhead 63 = .ok (.iload_n 2, 1) := by decide +kernel
theorem dX8_isAhead_64 : decode cX8_isAhead 64 = .ok (.iaload, 1) := by decide +kernel
theorem dX8_isAhead_65 : decode cX8_isAhead 65 = .ok (.if_icmp .le 7, 3) := by decide +kernel
theorem dX8_isAhead_68 : decode cX8_isAhead 68 = .ok (.iconst 1, 1) := by decide +kernel
theorem dX8_isAhead_69 : decode cX8_isAhead 69 = .ok (.goto 4, 3) := by decide +kernel
theorem dX8_isAhead_72 : decode cX8_isAhead 72 = .ok (.iconst 0, 1) := by decide +kernel
theorem dX8_isAhead_73 : decode cX8_isAhead 73 = .ok (.ireturn, 1) := by decide +kernel
theorem dX8_isAhead_74 : decode cX8_isAhead 74 = .ok (.iload_n 1, 1) := by decide +kernel
theorem dX8_isAhead_75 : decode cX8_isAhead 75 = .ok (.iload_n 2, 1) := by decide +kernel
theorem dX8_isAhead_76 : decode cX8_isAhead 76 = .ok (.if_icmp .ge 7, 3) := by decide +kernel
theorem dX8_isAhead_79 : decode cX8_isAhead 79 = .ok (.iconst 1, 1) := by decide +kernel
theorem dX8_isAhead_80 : decode cX8_isAhead 80 = .ok (.goto 4, 3) := by decide +kernel
theorem dX8_isAhead_83 : decode cX8_isAhead 83 = .ok (.iconst 0, 1) := by decide +kernel
theorem dX8_isAhead_84 : decode cX8_isAhead 84 = .ok (.ireturn, 1) := by decide +kernel
theorem dX8_fitsSteps_0 : decode cX8_fitsSteps 0 = .ok (.iconst 0, 1) := by decide +kernel
theorem dX8_fitsSteps_1 : decode cX8_fitsSteps 1 = .ok (.istore_n 1, 1) := by decide +kernel
theorem dX8_fitsSteps_2 : decode cX8_fitsSteps 2 = .ok (.iload_n 1, 1) := by decide +kernel
theorem dX8_fitsSteps_3 : decode cX8_fitsSteps 3 = .ok (.aload_n 0, 1) := by decide +kernel
theorem dX8_fitsSteps_4 : decode cX8_fitsSteps 4 = .ok (.getfield 32, 3) := by decide +kernel
theorem dX8_fitsSteps_7 : decode cX8_fitsSteps 7 = .ok (.if_icmp .ge 32, 3) := by decide +kernel
theorem dX8_fitsSteps_10 : decode cX8_fitsSteps 10 = .ok (.aload_n 0, 1) := by decide +kernel
theorem dX8_fitsSteps_11 : decode cX8_fitsSteps 11 = .ok (.getfield 15, 3) := by decide +kernel
theorem dX8_fitsSteps_14 : decode cX8_fitsSteps 14 = .ok (.iload_n 1, 1) := by decide +kernel
theorem dX8_fitsSteps_15 : decode cX8_fitsSteps 15 = .ok (.laload, 1) := by decide +kernel
theorem dX8_fitsSteps_16 : decode cX8_fitsSteps 16 = .ok (.aload_n 0, 1) := by decide +kernel
theorem dX8_fitsSteps_17 : decode cX8_fitsSteps 17 = .ok (.getfield 19, 3) := by decide +kernel
theorem dX8_fitsSteps_20 : decode cX8_fitsSteps 20 = .ok (.iload_n 1, 1) := by decide +kernel
theorem dX8_fitsSteps_21 : decode cX8_fitsSteps 21 = .ok (.iaload, 1) := by decide +kernel
theorem dX8_fitsSteps_22 : decode cX8_fitsSteps 22 = .ok (.invokestatic 71, 3) := by decide +kernel
theorem dX8_fitsSteps_25 : decode cX8_fitsSteps 25 = .ok (.lrem, 1) := by decide +kernel
theorem dX8_fitsSteps_26 : decode cX8_fitsSteps 26 = .ok (.lconst 0, 1) := by decide +kernel
theorem dX8_fitsSteps_27 : decode cX8_fitsSteps 27 = .ok (.lcmp, 1) := by decide +kernel
theorem dX8_fitsSteps_28 : decode cX8_fitsSteps 28 = .ok (.ifCond .eq 5, 3) := by decide +kernel
theorem dX8_fitsSteps_31 : decode cX8_fitsSteps 31 = .ok (.iconst 0, 1) := by decide +kernel
theorem dX8_fitsSteps_32 : decode cX8_fitsSteps 32 = .ok (.ireturn, 1) := by decide +kernel
theorem dX8_fitsSteps_33 : decode cX8_fitsSteps 33 = .ok (.iinc 1 1, 3) := by decide +kernel
theorem dX8_fitsSteps_36 : decode cX8_fitsSteps 36 = .ok (.goto (-34), 3) := by decide +kernel
theorem dX8_fitsSteps_39 : decode cX8_fitsSteps 39 = .ok (.iconst 1, 1) := by decide +kernel
theorem dX8_fitsSteps_40 : decode cX8_fitsSteps 40 = .ok (.ireturn, 1) := by decide +kernel
theorem dX8_sumOfValues_0 : decode cX8_sumOfValues 0 = .ok (.lconst 0, 1) := by decide +kernel
theorem dX8_sumOfValues_1 : decode cX8_sumOfValues 1 = .ok (.lstore_n 1, 1) := by decide +kernel
theorem dX8_sumOfValues_2 : decode cX8_sumOfValues 2 = .ok (.iconst 0, 1) := by decide +kernel
theorem dX8_sumOfValues_3 : decode cX8_sumOfValues 3 = .ok (.istore_n 3, 1) := by decide +kernel
theorem dX8_sumOfValues_4 : decode cX8_sumOfValues 4 = .ok (.iload_n 3, 1) := by decide +kernel
theorem dX8_sumOfValues_5 : decode cX8_sumOfValues 5 = .ok (.aload_n 0, 1) := by decide +kernel
theorem dX8_sumOfValues_6 : decode cX8_sumOfValues 6 = .ok (.getfield 32, 3) := by decide +kernel
theorem dX8_sumOfValues_9 : decode cX8_sumOfValues 9 = .ok (.if_icmp .ge 18, 3) := by decide +kernel
theorem dX8_sumOfValues_12 : decode cX8_sumOfValues 12 = .ok (.lload_n 1, 1) := by decide +kernel
theorem dX8_sumOfValues_13 : decode cX8_sumOfValues 13 = .ok (.aload_n 0, 1) := by decide +kernel
theorem dX8_sumOfValues_14 : decode cX8_sumOfValues 14 = .ok (.getfield 15, 3) := by decide +kernel
theorem dX8_sumOfValues_17 : decode cX8_sumOfValues 17 = .ok (.iload_n 3, 1) := by decide +kernel
theorem dX8_sumOfValues_18 : decode cX8_sumOfValues 18 = .ok (.laload, 1) := by decide +kernel
theorem dX8_sumOfValues_19 : decode cX8_sumOfValues 19 = .ok (.ladd, 1) := by decide +kernel
theorem dX8_sumOfValues_20 : decode cX8_sumOfValues 20 = .ok (.lstore_n 1, 1) := by decide +kernel
theorem dX8_sumOfValues_21 : decode cX8_sumOfValues 21 = .ok (.iinc 3 1, 3) := by decide +kernel
theorem dX8_sumOfValues_24 : decode cX8_sumOfValues 24 = .ok (.goto (-20), 3) := by decide +kernel
theorem dX8_sumOfValues_27 : decode cX8_sumOfValues 27 = .ok (.lload_n 1, 1) := by decide +kernel
theorem dX8_sumOfValues_28 : decode cX8_sumOfValues 28 = .ok (.lreturn, 1) := by decide +kernel
theorem dX8_sumByAccounts_0 : decode cX8_sumByAccounts 0 = .ok (.aload_n 0, 1) := by decide +kernel
theorem dX8_sumByAccounts_1 : decode cX8_sumByAccounts 1 = .ok (.getfield 46, 3) := by decide +kernel
theorem dX8_sumByAccounts_4 : decode cX8_sumByAccounts 4 = .ok (.aload_n 0, 1) := by decide +kernel
theorem dX8_sumByAccounts_5 : decode cX8_sumByAccounts 5 = .ok (.getfield 49, 3) := by decide +kernel
theorem dX8_sumByAccounts_8 : decode cX8_sumByAccounts 8 = .ok (.ladd, 1) := by decide +kernel
theorem dX8_sumByAccounts_9 : decode cX8_sumByAccounts 9 = .ok (.aload_n 0, 1) := by decide +kernel
theorem dX8_sumByAccounts_10 : decode cX8_sumByAccounts 10 = .ok (.getfield 42, 3) := by decide +kernel
theorem dX8_sumByAccounts_13 : decode cX8_sumByAccounts 13 = .ok (.ladd, 1) := by decide +kernel
theorem dX8_sumByAccounts_14 : decode cX8_sumByAccounts 14 = .ok (.aload_n 0, 1) := by decide +kernel
theorem dX8_sumByAccounts_15 : decode cX8_sumByAccounts 15 = .ok (.getfield 52, 3) := by decide +kernel
theorem dX8_sumByAccounts_18 : decode cX8_sumByAccounts 18 = .ok (.lsub, 1) := by decide +kernel
theorem dX8_sumByAccounts_19 : decode cX8_sumByAccounts 19 = .ok (.ldc2_w 65, 3) := by decide +kernel
theorem dX8_sumByAccounts_22 : decode cX8_sumByAccounts 22 = .ok (.aload_n 0, 1) := by decide +kernel
theorem dX8_sumByAccounts_23 : decode cX8_sumByAccounts 23 = .ok (.getfield 39, 3) := by decide +kernel
theorem dX8_sumByAccounts_26 : decode cX8_sumByAccounts 26 = .ok (.i2l, 1) := by decide +kernel
theorem dX8_sumByAccounts_27 : decode cX8_sumByAccounts 27 = .ok (.lmul, 1) := by decide +kernel
theorem dX8_sumByAccounts_28 : decode cX8_sumByAccounts 28 = .ok (.lsub, 1) := by decide +kernel
theorem dX8_sumByAccounts_29 : decode cX8_sumByAccounts 29 = .ok (.lreturn, 1) := by decide +kernel
theorem dX9_isUp_0 : decode cX9_isUp 0 = .ok (.iload_n 0, 1) := by decide +kernel
theorem dX9_isUp_1 : decode cX9_isUp 1 = .ok (.iload_n 1, 1) := by decide +kernel
theorem dX9_isUp_2 : decode cX9_isUp 2 = .ok (.ishr, 1) := by decide +kernel
theorem dX9_isUp_3 : decode cX9_isUp 3 = .ok (.iconst 1, 1) := by decide +kernel
theorem dX9_isUp_4 : decode cX9_isUp 4 = .ok (.iand, 1) := by decide +kernel
theorem dX9_isUp_5 : decode cX9_isUp 5 = .ok (.iconst 1, 1) := by decide +kernel
theorem dX9_isUp_6 : decode cX9_isUp 6 = .ok (.if_icmp .ne 7, 3) := by decide +kernel
theorem dX9_isUp_9 : decode cX9_isUp 9 = .ok (.iconst 1, 1) := by decide +kernel
theorem dX9_isUp_10 : decode cX9_isUp 10 = .ok (.goto 4, 3) := by decide +kernel
theorem dX9_isUp_13 : decode cX9_isUp 13 = .ok (.iconst 0, 1) := by decide +kernel
theorem dX9_isUp_14 : decode cX9_isUp 14 = .ok (.ireturn, 1) := by decide +kernel
theorem dX9_roundedBy_0 : decode cX9_roundedBy 0 = .ok (.iload 4, 2) := by decide +kernel
theorem dX9_roundedBy_2 : decode cX9_roundedBy 2 = .ok (.invokestatic 9, 3) := by decide +kernel
theorem dX9_roundedBy_5 : decode cX9_roundedBy 5 = .ok (.lstore 5, 2) := by decide +kernel
theorem dX9_roundedBy_7 : decode cX9_roundedBy 7 = .ok (.lload_n 2, 1) := by decide +kernel
theorem dX9_roundedBy_8 : decode cX9_roundedBy 8 = .ok (.lload_n 2, 1) := by decide +kernel
theorem dX9_roundedBy_9 : decode cX9_roundedBy 9 = .ok (.lload 5, 2) := by decide +kernel
theorem dX9_roundedBy_11 : decode cX9_roundedBy 11 = .ok (.lrem, 1) := by decide +kernel
theorem dX9_roundedBy_12 : decode cX9_roundedBy 12 = .ok (.lsub, 1) := by decide +kernel
theorem dX9_roundedBy_13 : decode cX9_roundedBy 13 = .ok (.lstore 7, 2) := by decide +kernel
theorem dX9_roundedBy_15 : decode cX9_roundedBy 15 = .ok (.iload_n 0, 1) := by decide +kernel
theorem dX9_roundedBy_16 : decode cX9_roundedBy 16 = .ok (.iload_n 1, 1) := by decide +kernel
theorem dX9_roundedBy_17 : decode cX9_roundedBy 17 = .ok (.invokestatic 15, 3) := by decide +kernel
theorem dX9_roundedBy_20 : decode cX9_roundedBy 20 = .ok (.ifCond .eq 11, 3) := by decide +kernel
theorem dX9_roundedBy_23 : decode cX9_roundedBy 23 = .ok (.lload 7, 2) := by decide +kernel
theorem dX9_roundedBy_25 : decode cX9_roundedBy 25 = .ok (.lload 5, 2) := by decide +kernel
theorem dX9_roundedBy_27 : decode cX9_roundedBy 27 = .ok (.ladd, 1) := by decide +kernel
theorem dX9_roundedBy_28 : decode cX9_roundedBy 28 = .ok (.goto 5, 3) := by decide +kernel
theorem dX9_roundedBy_31 : decode cX9_roundedBy 31 = .ok (.lload 7, 2) := by decide +kernel
theorem dX9_roundedBy_33 : decode cX9_roundedBy 33 = .ok (.lreturn, 1) := by decide +kernel
theorem dX9_sumOf_0 : decode cX9_sumOf 0 = .ok (.lconst 0, 1) := by decide +kernel
theorem dX9_sumOf_1 : decode cX9_sumOf 1 = .ok (.lstore_n 3, 1) := by decide +kernel
theorem dX9_sumOf_2 : decode cX9_sumOf 2 = .ok (.iconst 0, 1) := by decide +kernel
theorem dX9_sumOf_3 : decode cX9_sumOf 3 = .ok (.istore 5, 2) := by decide +kernel
theorem dX9_sumOf_5 : decode cX9_sumOf 5 = .ok (.iload 5, 2) := by decide +kernel
theorem dX9_sumOf_7 : decode cX9_sumOf 7 = .ok (.aload_n 0, 1) := by decide +kernel
theorem dX9_sumOf_8 : decode cX9_sumOf 8 = .ok (.getfield 21, 3) := by decide +kernel
theorem dX9_sumOf_11 : decode cX9_sumOf 11 = .ok (.if_icmp .ge 26, 3) := by decide +kernel
theorem dX9_sumOf_14 : decode cX9_sumOf 14 = .ok (.lload_n 3, 1) := by decide +kernel
theorem dX9_sumOf_15 : decode cX9_sumOf 15 = .ok (.iload_n 2, 1) := by decide +kernel
theorem dX9_sumOf_16 : decode cX9_sumOf 16 = .ok (.iload 5, 2) := by decide +kernel
theorem dX9_sumOf_18 : decode cX9_sumOf 18 = .ok (.aload_n 0, 1) := by decide +kernel
theorem dX9_sumOf_19 : decode cX9_sumOf 19 = .ok (.getfield 27, 3) := by decide +kernel
theorem dX9_sumOf_22 : decode cX9_sumOf 22 = .ok (.iload 5, 2) := by decide +kernel
theorem dX9_sumOf_24 : decode cX9_sumOf 24 = .ok (.laload, 1) := by decide +kernel
theorem dX9_sumOf_25 : decode cX9_sumOf 25 = .ok (.iload_n 1, 1) := by decide +kernel
theorem dX9_sumOf_26 : decode cX9_sumOf 26 = .ok (.invokestatic 31, 3) := by decide +kernel
theorem dX9_sumOf_29 : decode cX9_sumOf 29 = .ok (.ladd, 1) := by decide +kernel
theorem dX9_sumOf_30 : decode cX9_sumOf 30 = .ok (.lstore_n 3, 1) := by decide +kernel
theorem dX9_sumOf_31 : decode cX9_sumOf 31 = .ok (.iinc 5 1, 3) := by decide +kernel
theorem dX9_sumOf_34 : decode cX9_sumOf 34 = .ok (.goto (-29), 3) := by decide +kernel
theorem dX9_sumOf_37 : decode cX9_sumOf 37 = .ok (.lload_n 3, 1) := by decide +kernel
theorem dX9_sumOf_38 : decode cX9_sumOf 38 = .ok (.lreturn, 1) := by decide +kernel
theorem dX9_errorOf_0 : decode cX9_errorOf 0 = .ok (.lconst 0, 1) := by decide +kernel
theorem dX9_errorOf_1 : decode cX9_errorOf 1 = .ok (.lstore_n 3, 1) := by decide +kernel
theorem dX9_errorOf_2 : decode cX9_errorOf 2 = .ok (.iconst 0, 1) := by decide +kernel
theorem dX9_errorOf_3 : decode cX9_errorOf 3 = .ok (.istore 5, 2) := by decide +kernel
theorem dX9_errorOf_5 : decode cX9_errorOf 5 = .ok (.iload 5, 2) := by decide +kernel
theorem dX9_errorOf_7 : decode cX9_errorOf 7 = .ok (.aload_n 0, 1) := by decide +kernel
theorem dX9_errorOf_8 : decode cX9_errorOf 8 = .ok (.getfield 21, 3) := by decide +kernel
theorem dX9_errorOf_11 : decode cX9_errorOf 11 = .ok (.if_icmp .ge 36, 3) := by decide +kernel
theorem dX9_errorOf_14 : decode cX9_errorOf 14 = .ok (.aload_n 0, 1) := by decide +kernel
theorem dX9_errorOf_15 : decode cX9_errorOf 15 = .ok (.getfield 27, 3) := by decide +kernel
theorem dX9_errorOf_18 : decode cX9_errorOf 18 = .ok (.iload 5, 2) := by decide +kernel
theorem dX9_errorOf_20 : decode cX9_errorOf 20 = .ok (.laload, 1) := by decide +kernel
theorem dX9_errorOf_21 : decode cX9_errorOf 21 = .ok (.lstore 6, 2) := by decide +kernel
theorem dX9_errorOf_23 : decode cX9_errorOf 23 = .ok (.lload_n 3, 1) := by decide +kernel
theorem dX9_errorOf_24 : decode cX9_errorOf 24 = .ok (.iload_n 2, 1) := by decide +kernel
theorem dX9_errorOf_25 : decode cX9_errorOf 25 = .ok (.iload 5, 2) := by decide +kernel
theorem dX9_errorOf_27 : decode cX9_errorOf 27 = .ok (.lload 6, 2) := by decide +kernel
theorem dX9_errorOf_29 : decode cX9_errorOf 29 = .ok (.iload_n 1, 1) := by decide +kernel
theorem dX9_errorOf_30 : decode cX9_errorOf 30 = .ok (.invokestatic 31, 3) := by decide +kernel
theorem dX9_errorOf_33 : decode cX9_errorOf 33 = .ok (.lload 6, 2) := by decide +kernel
theorem dX9_errorOf_35 : decode cX9_errorOf 35 = .ok (.lsub, 1) := by decide +kernel
theorem dX9_errorOf_36 : decode cX9_errorOf 36 = .ok (.invokestatic 35, 3) := by decide +kernel
theorem dX9_errorOf_39 : decode cX9_errorOf 39 = .ok (.ladd, 1) := by decide +kernel
theorem dX9_errorOf_40 : decode cX9_errorOf 40 = .ok (.lstore_n 3, 1) := by decide +kernel
theorem dX9_errorOf_41 : decode cX9_errorOf 41 = .ok (.iinc 5 1, 3) := by decide +kernel
theorem dX9_errorOf_44 : decode cX9_errorOf 44 = .ok (.goto (-39), 3) := by decide +kernel
theorem dX9_errorOf_47 : decode cX9_errorOf 47 = .ok (.lload_n 3, 1) := by decide +kernel
theorem dX9_errorOf_48 : decode cX9_errorOf 48 = .ok (.lreturn, 1) := by decide +kernel
theorem dX9_bestChoice_0 : decode cX9_bestChoice 0 = .ok (.iload_n 1, 1) := by decide +kernel
theorem dX9_bestChoice_1 : decode cX9_bestChoice 1 = .ok (.invokestatic 9, 3) := by decide +kernel
theorem dX9_bestChoice_4 : decode cX9_bestChoice 4 = .ok (.lstore_n 2, 1) := by decide +kernel
theorem dX9_bestChoice_5 : decode cX9_bestChoice 5 = .ok (.lconst 0, 1) := by decide +kernel
theorem dX9_bestChoice_6 : decode cX9_bestChoice 6 = .ok (.lstore 4, 2) := by decide +kernel
theorem dX9_bestChoice_8 : decode cX9_bestChoice 8 = .ok (.iconst 0, 1) := by decide +kernel
theorem dX9_bestChoice_9 : decode cX9_bestChoice 9 = .ok (.istore 6, 2) := by decide +kernel
theorem dX9_bestChoice_11 : decode cX9_bestChoice 11 = .ok (.iload 6, 2) := by decide +kernel
theorem dX9_bestChoice_13 : decode cX9_bestChoice 13 = .ok (.aload_n 0, 1) := by decide +kernel
theorem dX9_bestChoice_14 : decode cX9_bestChoice 14 = .ok (.getfield 21, 3) := by decide +kernel
theorem dX9_bestChoice_17 : decode cX9_bestChoice 17 = .ok (.if_icmp .ge 23, 3) := by decide +kernel
theorem dX9_bestChoice_20 : decode cX9_bestChoice 20 = .ok (.lload 4, 2) := by decide +kernel
theorem dX9_bestChoice_22 : decode cX9_bestChoice 22 = .ok (.aload_n 0, 1) := by decide +kernel
theorem dX9_bestChoice_23 : decode cX9_bestChoice 23 = .ok (.getfield 27, 3) := by decide +kernel
theorem dX9_bestChoice_26 : decode cX9_bestChoice 26 = .ok (.iload 6, 2) := by decide +kernel
theorem dX9_bestChoice_28 : decode cX9_bestChoice 28 = .ok (.laload, 1) := by decide +kernel
theorem dX9_bestChoice_29 : decode cX9_bestChoice 29 = .ok (.lload_n 2, 1) := by decide +kernel
theorem dX9_bestChoice_30 : decode cX9_bestChoice 30 = .ok (.lrem, 1) := by decide +kernel
theorem dX9_bestChoice_31 : decode cX9_bestChoice 31 = .ok (.ladd, 1) := by decide +kernel
theorem dX9_bestChoice_32 : decode cX9_bestChoice 32 = .ok (.lstore 4, 2) := by decide +kernel
theorem dX9_bestChoice_34 : decode cX9_bestChoice 34 = .ok (.iinc 6 1, 3) := by decide +kernel
theorem dX9_bestChoice_37 : decode cX9_bestChoice 37 = .ok (.goto (-26), 3) := by decide +kernel
theorem dX9_bestChoice_40 : decode cX9_bestChoice 40 = .ok (.lload 4, 2) := by decide +kernel
theorem dX9_bestChoice_42 : decode cX9_bestChoice 42 = .ok (.iload_n 1, 1) := by decide +kernel
theorem dX9_bestChoice_43 : decode cX9_bestChoice 43 = .ok (.bipush 104, 2) := by decide +kernel
theorem dX9_bestChoice_45 : decode cX9_bestChoice 45 = .ok (.invokestatic 41, 3) := by decide +kernel
theorem dX9_bestChoice_48 : decode cX9_bestChoice 48 = .ok (.lload_n 2, 1) := by decide +kernel
theorem dX9_bestChoice_49 : decode cX9_bestChoice 49 = .ok (.ldiv, 1) := by decide +kernel
theorem dX9_bestChoice_50 : decode cX9_bestChoice 50 = .ok (.lstore 6, 2) := by decide +kernel
theorem dX9_bestChoice_52 : decode cX9_bestChoice 52 = .ok (.iconst 0, 1) := by decide +kernel
theorem dX9_bestChoice_53 : decode cX9_bestChoice 53 = .ok (.istore 8, 2) := by decide +kernel
theorem dX9_bestChoice_55 : decode cX9_bestChoice 55 = .ok (.iconst 0, 1) := by decide +kernel
theorem dX9_bestChoice_56 : decode cX9_bestChoice 56 = .ok (.istore 9, 2) := by decide +kernel
theorem dX9_bestChoice_58 : decode cX9_bestChoice 58 = .ok (.iload 9, 2) := by decide +kernel
theorem dX9_bestChoice_60 : decode cX9_bestChoice 60 = .ok (.i2l, 1) := by decide +kernel
theorem dX9_bestChoice_61 : decode cX9_bestChoice 61 = .ok (.lload 6, 2) := by decide +kernel
theorem dX9_bestChoice_63 : decode cX9_bestChoice 63 = .ok (.lcmp, 1) := by decide +kernel
theorem dX9_bestChoice_64 : decode cX9_bestChoice 64 = .ok (.ifCond .ge 28, 3) := by decide +kernel
theorem dX9_bestChoice_67 : decode cX9_bestChoice 67 = .ok (.iload 9, 2) := by decide +kernel
theorem dX9_bestChoice_69 : decode cX9_bestChoice 69 = .ok (.bipush 6, 2) := by decide +kernel
theorem dX9_bestChoice_71 : decode cX9_bestChoice 71 = .ok (.if_icmp .ge 21, 3) := by decide +kernel
theorem dX9_bestChoice_74 : decode cX9_bestChoice 74 = .ok (.iload 8, 2) := by decide +kernel
theorem dX9_bestChoice_76 : decode cX9_bestChoice 76 = .ok (.aload_n 0, 1) := by decide +kernel
theorem dX9_bestChoice_77 : decode cX9_bestChoice 77 = .ok (.lload_n 2, 1) := by decide +kernel
theorem dX9_bestChoice_78 : decode cX9_bestChoice 78 = .ok (.iload 8, 2) := by decide +kernel
theorem dX9_bestChoice_80 : decode cX9_bestChoice 80 = .ok (.invokestatic 45, 3) := by decide +kernel
theorem dX9_bestChoice_83 : decode cX9_bestChoice 83 = .ok (.ior, 1) := by decide +kernel
theorem dX9_bestChoice_84 : decode cX9_bestChoice 84 = .ok (.istore 8, 2) := by decide +kernel
theorem dX9_bestChoice_86 : decode cX9_bestChoice 86 = .ok (.iinc 9 1, 3) := by decide +kernel
theorem dX9_bestChoice_89 : decode cX9_bestChoice 89 = .ok (.goto (-31), 3) := by decide +kernel
theorem dX9_bestChoice_92 : decode cX9_bestChoice 92 = .ok (.iload 8, 2) := by decide +kernel
theorem dX9_bestChoice_94 : decode cX9_bestChoice 94 = .ok (.ireturn, 1) := by decide +kernel
theorem dX9_nearestToUp_0 : decode cX9_nearestToUp 0 = .ok (.lconst 0, 1) := by decide +kernel
theorem dX9_nearestToUp_1 : decode cX9_nearestToUp 1 = .ok (.lstore 4, 2) := by decide +kernel
theorem dX9_nearestToUp_3 : decode cX9_nearestToUp 3 = .ok (.iconst 0, 1) := by decide +kernel
theorem dX9_nearestToUp_4 : decode cX9_nearestToUp 4 = .ok (.istore 6, 2) := by decide +kernel
theorem dX9_nearestToUp_6 : decode cX9_nearestToUp 6 = .ok (.iconst 0, 1) := by decide +kernel
theorem dX9_nearestToUp_7 : decode cX9_nearestToUp 7 = .ok (.istore 7, 2) := by decide +kernel
theorem dX9_nearestToUp_9 : decode cX9_nearestToUp 9 = .ok (.iload 7, 2) := by decide +kernel
theorem dX9_nearestToUp_11 : decode cX9_nearestToUp 11 = .ok (.aload_n 0, 1) := by decide +kernel
theorem dX9_nearestToUp_12 : decode cX9_nearestToUp 12 = .ok (.getfield 21, 3) := by decide +kernel
theorem dX9_nearestToUp_15 : decode cX9_nearestToUp 15 = .ok (.if_icmp .ge 47, 3) := by decide +kernel
theorem dX9_nearestToUp_18 : decode cX9_nearestToUp 18 = .ok (.aload_n 0, 1) := by decide +kernel
theorem dX9_nearestToUp_19 : decode cX9_nearestToUp 19 = .ok (.getfield 27, 3) := by decide +kernel
theorem dX9_nearestToUp_22 : decode cX9_nearestToUp 22 = .ok (.iload 7, 2) := by decide +kernel
theorem dX9_nearestToUp_24 : decode cX9_nearestToUp 24 = .ok (.laload, 1) := by decide +kernel
theorem dX9_nearestToUp_25 : decode cX9_nearestToUp 25 = .ok (.lload_n 1, 1) := by decide +kernel
theorem dX9_nearestToUp_26 : decode cX9_nearestToUp 26 = .ok (.lrem, 1) := by decide +kernel
theorem dX9_nearestToUp_27 : decode cX9_nearestToUp 27 = .ok (.lstore 8, 2) := by decide +kernel
theorem dX9_nearestToUp_29 : decode cX9_nearestToUp 29 = .ok (.lload 8, 2) := by decide +kernel
theorem dX9_nearestToUp_31 : decode cX9_nearestToUp 31 = .ok (.lload 4, 2) := by decide +kernel
theorem dX9_nearestToUp_33 : decode cX9_nearestToUp 33 = .ok (.lcmp, 1) := by decide +kernel
theorem dX9_nearestToUp_34 : decode cX9_nearestToUp 34 = .ok (.ifCond .le 22, 3) := by decide +kernel
theorem dX9_nearestToUp_37 : decode cX9_nearestToUp 37 = .ok (.iload_n 3, 1) := by decide +kernel
theorem dX9_nearestToUp_38 : decode cX9_nearestToUp 38 = .ok (.iload 7, 2) := by decide +kernel
theorem dX9_nearestToUp_40 : decode cX9_nearestToUp 40 = .ok (.invokestatic 15, 3) := by decide +kernel
theorem dX9_nearestToUp_43 : decode cX9_nearestToUp 43 = .ok (.ifCond .ne 13, 3) := by decide +kernel
theorem dX9_nearestToUp_46 : decode cX9_nearestToUp 46 = .ok (.lload 8, 2) := by decide +kernel
theorem dX9_nearestToUp_48 : decode cX9_nearestToUp 48 = .ok (.lstore 4, 2) := by decide +kernel
theorem dX9_nearestToUp_50 : decode cX9_nearestToUp 50 = .ok (.iconst 1, 1) := by decide +kernel
theorem dX9_nearestToUp_51 : decode cX9_nearestToUp 51 = .ok (.iload 7, 2) := by decide +kernel
theorem dX9_nearestToUp_53 : decode cX9_nearestToUp 53 = .ok (.ishl, 1) := by decide +kernel
theorem dX9_nearestToUp_54 : decode cX9_nearestToUp 54 = .ok (.istore 6, 2) := by decide +kernel
theorem dX9_nearestToUp_56 : decode cX9_nearestToUp 56 = .ok (.iinc 7 1, 3) := by decide +kernel
theorem dX9_nearestToUp_59 : decode cX9_nearestToUp 59 = .ok (.goto (-50), 3) := by decide +kernel
theorem dX9_nearestToUp_62 : decode cX9_nearestToUp 62 = .ok (.iload 6, 2) := by decide +kernel
theorem dX9_nearestToUp_64 : decode cX9_nearestToUp 64 = .ok (.ireturn, 1) := by decide +kernel
theorem dX9_leastErrorOfSets_0 : decode cX9_leastErrorOfSets 0 = .ok (.aload_n 0, 1) := by decide +kernel
theorem dX9_leastErrorOfSets_1 : decode cX9_leastErrorOfSets 1 = .ok (.invokevirtual 49, 3) := by decide +kernel
theorem dX9_leastErrorOfSets_4 : decode cX9_leastErrorOfSets 4 = .ok (.iload_n 1, 1) := by decide +kernel
theorem dX9_leastErrorOfSets_5 : decode cX9_leastErrorOfSets 5 = .ok (.bipush 104, 2) := by decide +kernel
theorem dX9_leastErrorOfSets_7 : decode cX9_leastErrorOfSets 7 = .ok (.invokestatic 41, 3) := by decide +kernel
theorem dX9_leastErrorOfSets_10 : decode cX9_leastErrorOfSets 10 = .ok (.lstore_n 2, 1) := by decide +kernel
theorem dX9_leastErrorOfSets_11 : decode cX9_leastErrorOfSets 11 = .ok (.ldc2_w 55, 3) := by decide +kernel
theorem dX9_leastErrorOfSets_14 : decode cX9_leastErrorOfSets 14 = .ok (.lstore 4, 2) := by decide +kernel
theorem dX9_leastErrorOfSets_16 : decode cX9_leastErrorOfSets 16 = .ok (.iconst 0, 1) := by decide +kernel
theorem dX9_leastErrorOfSets_17 : decode cX9_leastErrorOfSets 17 = .ok (.istore 6, 2) := by decide +kernel
theorem dX9_leastErrorOfSets_19 : decode cX9_leastErrorOfSets 19 = .ok (.iload 6, 2) := by decide +kernel
theorem dX9_leastErrorOfSets_21 : decode cX9_leastErrorOfSets 21 = .ok (.iconst 1, 1) := by decide +kernel
theorem dX9_leastErrorOfSets_22 : decode cX9_leastErrorOfSets 22 = .ok (.aload_n 0, 1) := by decide +kernel
theorem dX9_leastErrorOfSets_23 : decode cX9_leastErrorOfSets 23 = .ok (.getfield 21, 3) := by decide +kernel
theorem dX9_leastErrorOfSets_26 : decode cX9_leastErrorOfSets 26 = .ok (.ishl, 1) := by decide +kernel
theorem dX9_leastErrorOfSets_27 : decode cX9_leastErrorOfSets 27 = .ok (.if_icmp .ge 45, 3) := by decide +kernel
theorem dX9_leastErrorOfSets_30 : decode cX9_leastErrorOfSets 30 = .ok (.aload_n 0, 1) := by decide +kernel
theorem dX9_leastErrorOfSets_31 : decode cX9_leastErrorOfSets 31 = .ok (.iload_n 1, 1) := by decide +kernel
theorem dX9_leastErrorOfSets_32 : decode cX9_leastErrorOfSets 32 = .ok (.iload 6, 2) := by decide +kernel
theorem dX9_leastErrorOfSets_34 : decode cX9_leastErrorOfSets 34 = .ok (.invokestatic 57, 3) := by decide +kernel
theorem dX9_leastErrorOfSets_37 : decode cX9_leastErrorOfSets 37 = .ok (.ifCond .eq 29, 3) := by decide +kernel
theorem dX9_leastErrorOfSets_40 : decode cX9_leastErrorOfSets 40 = .ok (.aload_n 0, 1) := by decide +kernel
theorem dX9_leastErrorOfSets_41 : decode cX9_leastErrorOfSets 41 = .ok (.iload_n 1, 1) := by decide +kernel
theorem dX9_leastErrorOfSets_42 : decode cX9_leastErrorOfSets 42 = .ok (.iload 6, 2) := by decide +kernel
theorem dX9_leastErrorOfSets_44 : decode cX9_leastErrorOfSets 44 = .ok (.invokestatic 61, 3) := by decide +kernel
theorem dX9_leastErrorOfSets_47 : decode cX9_leastErrorOfSets 47 = .ok (.lload_n 2, 1) := by decide +kernel
theorem dX9_leastErrorOfSets_48 : decode cX9_leastErrorOfSets 48 = .ok (.lcmp, 1) := by decide +kernel
theorem dX9_leastErrorOfSets_49 : decode cX9_leastErrorOfSets 49 = .ok (.ifCond .ne 17, 3) := by decide +kernel
theorem dX9_leastErrorOfSets_52 : decode cX9_leastErrorOfSets 52 = .ok (.lload 4, 2) := by decide +kernel
theorem dX9_leastErrorOfSets_54 : decode cX9_leastErrorOfSets 54 = .ok (.aload_n 0, 1) := by decide +kernel
theorem dX9_leastErrorOfSets_55 : decode cX9_leastErrorOfSets 55 = .ok (.iload_n 1, 1) := by decide +kernel
theorem dX9_leastErrorOfSets_56 : decode cX9_leastErrorOfSets 56 = .ok (.iload 6, 2) := by decide +kernel
theorem dX9_leastErrorOfSets_58 : decode cX9_leastErrorOfSets 58 = .ok (.invokestatic 65, 3) := by decide +kernel
theorem dX9_leastErrorOfSets_61 : decode cX9_leastErrorOfSets 61 = .ok (.invokestatic 68, 3) := by decide +kernel
theorem dX9_leastErrorOfSets_64 : decode cX9_leastErrorOfSets 64 = .ok (.lstore 4, 2) := by decide +kernel
theorem dX9_leastErrorOfSets_66 : decode cX9_leastErrorOfSets 66 = .ok (.iinc 6 1, 3) := by decide +kernel
theorem dX9_leastErrorOfSets_69 : decode cX9_leastErrorOfSets 69 = .ok (.goto (-50), 3) := by decide +kernel
theorem dX9_leastErrorOfSets_72 : decode cX9_leastErrorOfSets 72 = .ok (.lload 4, 2) := by decide +kernel
theorem dX9_leastErrorOfSets_74 : decode cX9_leastErrorOfSets 74 = .ok (.lreturn, 1) := by decide +kernel
theorem dX9_hasOnlyRests_0 : decode cX9_hasOnlyRests 0 = .ok (.iload_n 1, 1) := by decide +kernel
theorem dX9_hasOnlyRests_1 : decode cX9_hasOnlyRests 1 = .ok (.invokestatic 9, 3) := by decide +kernel
theorem dX9_hasOnlyRests_4 : decode cX9_hasOnlyRests 4 = .ok (.lstore_n 3, 1) := by decide +kernel
theorem dX9_hasOnlyRests_5 : decode cX9_hasOnlyRests 5 = .ok (.iconst 0, 1) := by decide +kernel
theorem dX9_hasOnlyRests_6 : decode cX9_hasOnlyRests 6 = .ok (.istore 5, 2) := by decide +kernel
theorem dX9_hasOnlyRests_8 : decode cX9_hasOnlyRests 8 = .ok (.iload 5, 2) := by decide +kernel
theorem dX9_hasOnlyRests_10 : decode cX9_hasOnlyRests 10 = .ok (.aload_n 0, 1) := by decide +kernel
theorem dX9_hasOnlyRests_11 : decode cX9_hasOnlyRests 11 = .ok (.getfield 21, 3) := by decide +kernel
theorem dX9_hasOnlyRests_14 : decode cX9_hasOnlyRests 14 = .ok (.if_icmp .ge 34, 3) := by decide +kernel
theorem dX9_hasOnlyRests_17 : decode cX9_hasOnlyRests 17 = .ok (.iload_n 2, 1) := by decide +kernel
theorem dX9_hasOnlyRests_18 : decode cX9_hasOnlyRests 18 = .ok (.iload 5, 2) := by decide +kernel
theorem dX9_hasOnlyRests_20 : decode cX9_hasOnlyRests 20 = .ok (.invokestatic 15, 3) := by decide +kernel
theorem dX9_hasOnlyRests_23 : decode cX9_hasOnlyRests 23 = .ok (.ifCond .eq 19, 3) := by decide +kernel
theorem dX9_hasOnlyRests_26 : decode cX9_hasOnlyRests 26 = .ok (.aload_n 0, 1) := by decide +kernel
theorem dX9_hasOnlyRests_27 : decode cX9_hasOnlyRests 27 = .ok (.getfield 27, 3) := by decide +kernel
theorem dX9_hasOnlyRests_30 : decode cX9_hasOnlyRests 30 = .ok (.iload 5, 2) := by decide +kernel
theorem dX9_hasOnlyRests_32 : decode cX9_hasOnlyRests 32 = .ok (.laload, 1) := by decide +kernel
theorem dX9_hasOnlyRests_33 : decode cX9_hasOnlyRests 33 = .ok (.lload_n 3, 1) := by decide +kernel
theorem dX9_hasOnlyRests_34 : decode cX9_hasOnlyRests 34 = .ok (.lrem, 1) := by decide +kernel
theorem dX9_hasOnlyRests_35 : decode cX9_hasOnlyRests 35 = .ok (.lconst 0, 1) := by decide +kernel
theorem dX9_hasOnlyRests_36 : decode cX9_hasOnlyRests 36 = .ok (.lcmp, 1) := by decide +kernel
theorem dX9_hasOnlyRests_37 : decode cX9_hasOnlyRests 37 = .ok (.ifCond .ne 5, 3) := by decide +kernel
theorem dX9_hasOnlyRests_40 : decode cX9_hasOnlyRests 40 = .ok (.iconst 0, 1) := by decide +kernel
theorem dX9_hasOnlyRests_41 : decode cX9_hasOnlyRests 41 = .ok (.ireturn, 1) := by decide +kernel
theorem dX9_hasOnlyRests_42 : decode cX9_hasOnlyRests 42 = .ok (.iinc 5 1, 3) := by decide +kernel
theorem dX9_hasOnlyRests_45 : decode cX9_hasOnlyRests 45 = .ok (.goto (-37), 3) := by decide +kernel
theorem dX9_hasOnlyRests_48 : decode cX9_hasOnlyRests 48 = .ok (.iconst 1, 1) := by decide +kernel
theorem dX9_hasOnlyRests_49 : decode cX9_hasOnlyRests 49 = .ok (.ireturn, 1) := by decide +kernel
theorem dX10_init_0 : decode cX10_init 0 = .ok (.aload_n 0, 1) := by decide +kernel
theorem dX10_init_1 : decode cX10_init 1 = .ok (.invokespecial 1, 3) := by decide +kernel
theorem dX10_init_4 : decode cX10_init 4 = .ok (.aload_n 0, 1) := by decide +kernel
theorem dX10_init_5 : decode cX10_init 5 = .ok (.new 7, 3) := by decide +kernel
theorem dX10_init_8 : decode cX10_init 8 = .ok (.dup, 1) := by decide +kernel
theorem dX10_init_9 : decode cX10_init 9 = .ok (.invokespecial 9, 3) := by decide +kernel
theorem dX10_init_12 : decode cX10_init 12 = .ok (.putfield 10, 3) := by decide +kernel
theorem dX10_init_15 : decode cX10_init 15 = .ok (.aload_n 0, 1) := by decide +kernel
theorem dX10_init_16 : decode cX10_init 16 = .ok (.new 7, 3) := by decide +kernel
theorem dX10_init_19 : decode cX10_init 19 = .ok (.dup, 1) := by decide +kernel
theorem dX10_init_20 : decode cX10_init 20 = .ok (.invokespecial 9, 3) := by decide +kernel
theorem dX10_init_23 : decode cX10_init 23 = .ok (.putfield 16, 3) := by decide +kernel
theorem dX10_init_26 : decode cX10_init 26 = .ok (.aload_n 0, 1) := by decide +kernel
theorem dX10_init_27 : decode cX10_init 27 = .ok (.new 19, 3) := by decide +kernel
theorem dX10_init_30 : decode cX10_init 30 = .ok (.dup, 1) := by decide +kernel
theorem dX10_init_31 : decode cX10_init 31 = .ok (.invokespecial 21, 3) := by decide +kernel
theorem dX10_init_34 : decode cX10_init 34 = .ok (.putfield 22, 3) := by decide +kernel
theorem dX10_init_37 : decode cX10_init 37 = .ok (.aload_n 0, 1) := by decide +kernel
theorem dX10_init_38 : decode cX10_init 38 = .ok (.new 26, 3) := by decide +kernel
theorem dX10_init_41 : decode cX10_init 41 = .ok (.dup, 1) := by decide +kernel
theorem dX10_init_42 : decode cX10_init 42 = .ok (.invokespecial 28, 3) := by decide +kernel
theorem dX10_init_45 : decode cX10_init 45 = .ok (.putfield 29, 3) := by decide +kernel
theorem dX10_init_48 : decode cX10_init 48 = .ok (.aload_n 0, 1) := by decide +kernel
theorem dX10_init_49 : decode cX10_init 49 = .ok (.new 33, 3) := by decide +kernel
theorem dX10_init_52 : decode cX10_init 52 = .ok (.dup, 1) := by decide +kernel
theorem dX10_init_53 : decode cX10_init 53 = .ok (.invokespecial 35, 3) := by decide +kernel
theorem dX10_init_56 : decode cX10_init 56 = .ok (.putfield 36, 3) := by decide +kernel
theorem dX10_init_59 : decode cX10_init 59 = .ok (.aload_n 0, 1) := by decide +kernel
theorem dX10_init_60 : decode cX10_init 60 = .ok (.iconst (-1), 1) := by decide +kernel
theorem dX10_init_61 : decode cX10_init 61 = .ok (.putfield 40, 3) := by decide +kernel
theorem dX10_init_64 : decode cX10_init 64 = .ok (.aload_n 0, 1) := by decide +kernel
theorem dX10_init_65 : decode cX10_init 65 = .ok (.iconst (-1), 1) := by decide +kernel
theorem dX10_init_66 : decode cX10_init 66 = .ok (.putfield 44, 3) := by decide +kernel
theorem dX10_init_69 : decode cX10_init 69 = .ok (.aload_n 0, 1) := by decide +kernel
theorem dX10_init_70 : decode cX10_init 70 = .ok (.new 47, 3) := by decide +kernel
theorem dX10_init_73 : decode cX10_init 73 = .ok (.dup, 1) := by decide +kernel
theorem dX10_init_74 : decode cX10_init 74 = .ok (.invokespecial 49, 3) := by decide +kernel
theorem dX10_init_77 : decode cX10_init 77 = .ok (.putfield 50, 3) := by decide +kernel
theorem dX10_init_80 : decode cX10_init 80 = .ok (.return_, 1) := by decide +kernel
theorem dX10_addNumber_0 : decode cX10_addNumber 0 = .ok (.aload_n 0, 1) := by decide +kernel
theorem dX10_addNumber_1 : decode cX10_addNumber 1 = .ok (.getfield 22, 3) := by decide +kernel
theorem dX10_addNumber_4 : decode cX10_addNumber 4 = .ok (.aload_n 0, 1) := by decide +kernel
theorem dX10_addNumber_5 : decode cX10_addNumber 5 = .ok (.getfield 10, 3) := by decide +kernel
theorem dX10_addNumber_8 : decode cX10_addNumber 8 = .ok (.invokevirtual 54, 3) := by decide +kernel
theorem dX10_addNumber_11 : decode cX10_addNumber 11 = .ok (.aload_n 0, 1) := by decide +kernel
theorem dX10_addNumber_12 : decode cX10_addNumber 12 = .ok (.iload_n 1, 1) := by decide +kernel
theorem dX10_addNumber_13 : decode cX10_addNumber 13 = .ok (.iload_n 2, 1) := by decide +kernel
theorem dX10_addNumber_14 : decode cX10_addNumber 14 = .ok (.iload_n 3, 1) := by decide +kernel
theorem dX10_addNumber_15 : decode cX10_addNumber 15 = .ok (.iload 4, 2) := by decide +kernel
theorem dX10_addNumber_17 : decode cX10_addNumber 17 = .ok (.invokevirtual 58, 3) := by decide +kernel
theorem dX10_addNumber_20 : decode cX10_addNumber 20 = .ok (.istore 5, 2) := by decide +kernel
theorem dX10_addNumber_22 : decode cX10_addNumber 22 = .ok (.aload_n 0, 1) := by decide +kernel
theorem dX10_addNumber_23 : decode cX10_addNumber 23 = .ok (.getfield 22, 3) := by decide +kernel
theorem dX10_addNumber_26 : decode cX10_addNumber 26 = .ok (.invokevirtual 62, 3) := by decide +kernel
theorem dX10_addNumber_29 : decode cX10_addNumber 29 = .ok (.iload 5, 2) := by decide +kernel
theorem dX10_addNumber_31 : decode cX10_addNumber 31 = .ok (.ireturn, 1) := by decide +kernel
theorem dX10_addQuotient_0 : decode cX10_addQuotient 0 = .ok (.aload_n 0, 1) := by decide +kernel
theorem dX10_addQuotient_1 : decode cX10_addQuotient 1 = .ok (.getfield 22, 3) := by decide +kernel
theorem dX10_addQuotient_4 : decode cX10_addQuotient 4 = .ok (.aload_n 0, 1) := by decide +kernel
theorem dX10_addQuotient_5 : decode cX10_addQuotient 5 = .ok (.getfield 10, 3) := by decide +kernel
theorem dX10_addQuotient_8 : decode cX10_addQuotient 8 = .ok (.invokevirtual 54, 3) := by decide +kernel
theorem dX10_addQuotient_11 : decode cX10_addQuotient 11 = .ok (.aload_n 0, 1) := by decide +kernel
theorem dX10_addQuotient_12 : decode cX10_addQuotient 12 = .ok (.iload_n 1, 1) := by decide +kernel
theorem dX10_addQuotient_13 : decode cX10_addQuotient 13 = .ok (.iload_n 2, 1) := by decide +kernel
theorem dX10_addQuotient_14 : decode cX10_addQuotient 14 = .ok (.iload_n 3, 1) := by decide +kernel
theorem dX10_addQuotient_15 : decode cX10_addQuotient 15 = .ok (.iload 4, 2) := by decide +kernel
theorem dX10_addQuotient_17 : decode cX10_addQuotient 17 = .ok (.invokevirtual 65, 3) := by decide +kernel
theorem dX10_addQuotient_20 : decode cX10_addQuotient 20 = .ok (.istore 5, 2) := by decide +kernel
theorem dX10_addQuotient_22 : decode cX10_addQuotient 22 = .ok (.aload_n 0, 1) := by decide +kernel
theorem dX10_addQuotient_23 : decode cX10_addQuotient 23 = .ok (.getfield 22, 3) := by decide +kernel
theorem dX10_addQuotient_26 : decode cX10_addQuotient 26 = .ok (.invokevirtual 62, 3) := by decide +kernel
theorem dX10_addQuotient_29 : decode cX10_addQuotient 29 = .ok (.iload 5, 2) := by decide +kernel
theorem dX10_addQuotient_31 : decode cX10_addQuotient 31 = .ok (.ireturn, 1) := by decide +kernel
theorem dX10_remove_0 : decode cX10_remove 0 = .ok (.aload_n 0, 1) := by decide +kernel
theorem dX10_remove_1 : decode cX10_remove 1 = .ok (.getfield 22, 3) := by decide +kernel
theorem dX10_remove_4 : decode cX10_remove 4 = .ok (.aload_n 0, 1) := by decide +kernel
theorem dX10_remove_5 : decode cX10_remove 5 = .ok (.getfield 10, 3) := by decide +kernel
theorem dX10_remove_8 : decode cX10_remove 8 = .ok (.invokevirtual 54, 3) := by decide +kernel
theorem dX10_remove_11 : decode cX10_remove 11 = .ok (.aload_n 0, 1) := by decide +kernel
theorem dX10_remove_12 : decode cX10_remove 12 = .ok (.iload_n 1, 1) := by decide +kernel
theorem dX10_remove_13 : decode cX10_remove 13 = .ok (.invokevirtual 68, 3) := by decide +kernel
theorem dX10_remove_16 : decode cX10_remove 16 = .ok (.lstore_n 2, 1) := by decide +kernel
theorem dX10_remove_17 : decode cX10_remove 17 = .ok (.aload_n 0, 1) := by decide +kernel
theorem dX10_remove_18 : decode cX10_remove 18 = .ok (.getfield 22, 3) := by decide +kernel
theorem dX10_remove_21 : decode cX10_remove 21 = .ok (.invokevirtual 62, 3) := by decide +kernel
theorem dX10_remove_24 : decode cX10_remove 24 = .ok (.lload_n 2, 1) := by decide +kernel
theorem dX10_remove_25 : decode cX10_remove 25 = .ok (.lreturn, 1) := by decide +kernel
theorem dX10_feed_0 : decode cX10_feed 0 = .ok (.aload_n 0, 1) := by decide +kernel
theorem dX10_feed_1 : decode cX10_feed 1 = .ok (.getfield 22, 3) := by decide +kernel
theorem dX10_feed_4 : decode cX10_feed 4 = .ok (.aload_n 0, 1) := by decide +kernel
theorem dX10_feed_5 : decode cX10_feed 5 = .ok (.getfield 10, 3) := by decide +kernel
theorem dX10_feed_8 : decode cX10_feed 8 = .ok (.invokevirtual 54, 3) := by decide +kernel
theorem dX10_feed_11 : decode cX10_feed 11 = .ok (.aload_n 0, 1) := by decide +kernel
theorem dX10_feed_12 : decode cX10_feed 12 = .ok (.iload_n 1, 1) := by decide +kernel
theorem dX10_feed_13 : decode cX10_feed 13 = .ok (.iload_n 2, 1) := by decide +kernel
theorem dX10_feed_14 : decode cX10_feed 14 = .ok (.iload_n 3, 1) := by decide +kernel
theorem dX10_feed_15 : decode cX10_feed 15 = .ok (.invokevirtual 72, 3) := by decide +kernel
theorem dX10_feed_18 : decode cX10_feed 18 = .ok (.lstore 4, 2) := by decide +kernel
theorem dX10_feed_20 : decode cX10_feed 20 = .ok (.aload_n 0, 1) := by decide +kernel
theorem dX10_feed_21 : decode cX10_feed 21 = .ok (.getfield 22, 3) := by decide +kernel
theorem dX10_feed_24 : decode cX10_feed 24 = .ok (.invokevirtual 62, 3) := by decide +kernel
theorem dX10_feed_27 : decode cX10_feed 27 = .ok (.lload 4, 2) := by decide +kernel
theorem dX10_feed_29 : decode cX10_feed 29 = .ok (.lreturn, 1) := by decide +kernel
theorem dX10_trade_0 : decode cX10_trade 0 = .ok (.aload_n 0, 1) := by decide +kernel
theorem dX10_trade_1 : decode cX10_trade 1 = .ok (.getfield 22, 3) := by decide +kernel
theorem dX10_trade_4 : decode cX10_trade 4 = .ok (.aload_n 0, 1) := by decide +kernel
theorem dX10_trade_5 : decode cX10_trade 5 = .ok (.getfield 10, 3) := by decide +kernel
theorem dX10_trade_8 : decode cX10_trade 8 = .ok (.invokevirtual 54, 3) := by decide +kernel
theorem dX10_trade_11 : decode cX10_trade 11 = .ok (.aload_n 0, 1) := by decide +kernel
theorem dX10_trade_12 : decode cX10_trade 12 = .ok (.iload_n 1, 1) := by decide +kernel
theorem dX10_trade_13 : decode cX10_trade 13 = .ok (.iload_n 2, 1) := by decide +kernel
theorem dX10_trade_14 : decode cX10_trade 14 = .ok (.iload_n 3, 1) := by decide +kernel
theorem dX10_trade_15 : decode cX10_trade 15 = .ok (.iload 4, 2) := by decide +kernel
theorem dX10_trade_17 : decode cX10_trade 17 = .ok (.invokevirtual 76, 3) := by decide +kernel
theorem dX10_trade_20 : decode cX10_trade 20 = .ok (.lstore 5, 2) := by decide +kernel
theorem dX10_trade_22 : decode cX10_trade 22 = .ok (.aload_n 0, 1) := by decide +kernel
theorem dX10_trade_23 : decode cX10_trade 23 = .ok (.getfield 22, 3) := by decide +kernel
theorem dX10_trade_26 : decode cX10_trade 26 = .ok (.invokevirtual 62, 3) := by decide +kernel
theorem dX10_trade_29 : decode cX10_trade 29 = .ok (.lload 5, 2) := by decide +kernel
theorem dX10_trade_31 : decode cX10_trade 31 = .ok (.lreturn, 1) := by decide +kernel
theorem dX10_setScale_0 : decode cX10_setScale 0 = .ok (.aload_n 0, 1) := by decide +kernel
theorem dX10_setScale_1 : decode cX10_setScale 1 = .ok (.getfield 22, 3) := by decide +kernel
theorem dX10_setScale_4 : decode cX10_setScale 4 = .ok (.aload_n 0, 1) := by decide +kernel
theorem dX10_setScale_5 : decode cX10_setScale 5 = .ok (.getfield 10, 3) := by decide +kernel
theorem dX10_setScale_8 : decode cX10_setScale 8 = .ok (.invokevirtual 54, 3) := by decide +kernel
theorem dX10_setScale_11 : decode cX10_setScale 11 = .ok (.aload_n 0, 1) := by decide +kernel
theorem dX10_setScale_12 : decode cX10_setScale 12 = .ok (.iload_n 1, 1) := by decide +kernel
theorem dX10_setScale_13 : decode cX10_setScale 13 = .ok (.iload_n 2, 1) := by decide +kernel
theorem dX10_setScale_14 : decode cX10_setScale 14 = .ok (.invokevirtual 80, 3) := by decide +kernel
theorem dX10_setScale_17 : decode cX10_setScale 17 = .ok (.istore_n 3, 1) := by decide +kernel
theorem dX10_setScale_18 : decode cX10_setScale 18 = .ok (.aload_n 0, 1) := by decide +kernel
theorem dX10_setScale_19 : decode cX10_setScale 19 = .ok (.getfield 22, 3) := by decide +kernel
theorem dX10_setScale_22 : decode cX10_setScale 22 = .ok (.invokevirtual 62, 3) := by decide +kernel
theorem dX10_setScale_25 : decode cX10_setScale 25 = .ok (.iload_n 3, 1) := by decide +kernel
theorem dX10_setScale_26 : decode cX10_setScale 26 = .ok (.ireturn, 1) := by decide +kernel
theorem dX10_setMode_0 : decode cX10_setMode 0 = .ok (.aload_n 0, 1) := by decide +kernel
theorem dX10_setMode_1 : decode cX10_setMode 1 = .ok (.getfield 22, 3) := by decide +kernel
theorem dX10_setMode_4 : decode cX10_setMode 4 = .ok (.aload_n 0, 1) := by decide +kernel
theorem dX10_setMode_5 : decode cX10_setMode 5 = .ok (.getfield 10, 3) := by decide +kernel
theorem dX10_setMode_8 : decode cX10_setMode 8 = .ok (.invokevirtual 54, 3) := by decide +kernel
theorem dX10_setMode_11 : decode cX10_setMode 11 = .ok (.aload_n 0, 1) := by decide +kernel
theorem dX10_setMode_12 : decode cX10_setMode 12 = .ok (.iload_n 1, 1) := by decide +kernel
theorem dX10_setMode_13 : decode cX10_setMode 13 = .ok (.iload_n 2, 1) := by decide +kernel
theorem dX10_setMode_14 : decode cX10_setMode 14 = .ok (.invokevirtual 84, 3) := by decide +kernel
theorem dX10_setMode_17 : decode cX10_setMode 17 = .ok (.istore_n 3, 1) := by decide +kernel
theorem dX10_setMode_18 : decode cX10_setMode 18 = .ok (.aload_n 0, 1) := by decide +kernel
theorem dX10_setMode_19 : decode cX10_setMode 19 = .ok (.getfield 22, 3) := by decide +kernel
theorem dX10_setMode_22 : decode cX10_setMode 22 = .ok (.invokevirtual 62, 3) := by decide +kernel
theorem dX10_setMode_25 : decode cX10_setMode 25 = .ok (.iload_n 3, 1) := by decide +kernel
theorem dX10_setMode_26 : decode cX10_setMode 26 = .ok (.ireturn, 1) := by decide +kernel
theorem dX10_roundTogether_0 : decode cX10_roundTogether 0 = .ok (.aload_n 0, 1) := by decide +kernel
theorem dX10_roundTogether_1 : decode cX10_roundTogether 1 = .ok (.getfield 22, 3) := by decide +kernel
theorem dX10_roundTogether_4 : decode cX10_roundTogether 4 = .ok (.aload_n 0, 1) := by decide +kernel
theorem dX10_roundTogether_5 : decode cX10_roundTogether 5 = .ok (.getfield 10, 3) := by decide +kernel
theorem dX10_roundTogether_8 : decode cX10_roundTogether 8 = .ok (.invokevirtual 54, 3) := by decide +kernel
theorem dX10_roundTogether_11 : decode cX10_roundTogether 11 = .ok (.aload_n 0, 1) := by decide +kernel
theorem dX10_roundTogether_12 : decode cX10_roundTogether 12 = .ok (.iload_n 1, 1) := by decide +kernel
theorem dX10_roundTogether_13 : decode cX10_roundTogether 13 = .ok (.invokevirtual 88, 3) := by decide +kernel
theorem dX10_roundTogether_16 : decode cX10_roundTogether 16 = .ok (.istore_n 2, 1) := by decide +kernel
theorem dX10_roundTogether_17 : decode cX10_roundTogether 17 = .ok (.aload_n 0, 1) := by decide +kernel
theorem dX10_roundTogether_18 : decode cX10_roundTogether 18 = .ok (.getfield 22, 3) := by decide +kernel
theorem dX10_roundTogether_21 : decode cX10_roundTogether 21 = .ok (.invokevirtual 62, 3) := by decide +kernel
theorem dX10_roundTogether_24 : decode cX10_roundTogether 24 = .ok (.iload_n 2, 1) := by decide +kernel
theorem dX10_roundTogether_25 : decode cX10_roundTogether 25 = .ok (.ireturn, 1) := by decide +kernel
theorem dX10_enterNumber_0 : decode cX10_enterNumber 0 = .ok (.iload_n 1, 1) := by decide +kernel
theorem dX10_enterNumber_1 : decode cX10_enterNumber 1 = .ok (.iload_n 2, 1) := by decide +kernel
theorem dX10_enterNumber_2 : decode cX10_enterNumber 2 = .ok (.invokestatic 92, 3) := by decide +kernel
theorem dX10_enterNumber_5 : decode cX10_enterNumber 5 = .ok (.iload_n 3, 1) := by decide +kernel
theorem dX10_enterNumber_6 : decode cX10_enterNumber 6 = .ok (.invokestatic 96, 3) := by decide +kernel
theorem dX10_enterNumber_9 : decode cX10_enterNumber 9 = .ok (.iload 4, 2) := by decide +kernel
theorem dX10_enterNumber_11 : decode cX10_enterNumber 11 = .ok (.invokestatic 100, 3) := by decide +kernel
theorem dX10_enterNumber_14 : decode cX10_enterNumber 14 = .ok (.aload_n 0, 1) := by decide +kernel
theorem dX10_enterNumber_15 : decode cX10_enterNumber 15 = .ok (.invokevirtual 104, 3) := by decide +kernel
theorem dX10_enterNumber_18 : decode cX10_enterNumber 18 = .ok (.iload_n 1, 1) := by decide +kernel
theorem dX10_enterNumber_19 : decode cX10_enterNumber 19 = .ok (.iload_n 2, 1) := by decide +kernel
theorem dX10_enterNumber_20 : decode cX10_enterNumber 20 = .ok (.invokestatic 107, 3) := by decide +kernel
theorem dX10_enterNumber_23 : decode cX10_enterNumber 23 = .ok (.lstore 5, 2) := by decide +kernel
theorem dX10_enterNumber_25 : decode cX10_enterNumber 25 = .ok (.lload 5, 2) := by decide +kernel
theorem dX10_enterNumber_27 : decode cX10_enterNumber 27 = .ok (.iload_n 3, 1) := by decide +kernel
theorem dX10_enterNumber_28 : decode cX10_enterNumber 28 = .ok (.invokestatic 111, 3) := by decide +kernel
theorem dX10_enterNumber_31 : decode cX10_enterNumber 31 = .ok (.lrem, 1) := by decide +kernel
theorem dX10_enterNumber_32 : decode cX10_enterNumber 32 = .ok (.lconst 0, 1) := by decide +kernel
theorem dX10_enterNumber_33 : decode cX10_enterNumber 33 = .ok (.lcmp, 1) := by decide +kernel
theorem dX10_enterNumber_34 : decode cX10_enterNumber 34 = .ok (.ifCond .eq 13, 3) := by decide +kernel
theorem dX10_enterNumber_37 : decode cX10_enterNumber 37 = .ok (.new 116, 3) := by decide +kernel
theorem dX10_enterNumber_40 : decode cX10_enterNumber 40 = .ok (.dup, 1) := by decide +kernel
theorem dX10_enterNumber_41 : decode cX10_enterNumber 41 = .ok (.ldc 118, 2) := by decide +kernel
theorem dX10_enterNumber_43 : decode cX10_enterNumber 43 = .ok (.invokespecial 120, 3) := by decide +kernel
theorem dX10_enterNumber_46 : decode cX10_enterNumber 46 = .ok (.athrow, 1) := by decide +kernel
theorem dX10_enterNumber_47 : decode cX10_enterNumber 47 = .ok (.aload_n 0, 1) := by decide +kernel
theorem dX10_enterNumber_48 : decode cX10_enterNumber 48 = .ok (.getfield 10, 3) := by decide +kernel
theorem dX10_enterNumber_51 : decode cX10_enterNumber 51 = .ok (.lload 5, 2) := by decide +kernel
theorem dX10_enterNumber_53 : decode cX10_enterNumber 53 = .ok (.iload_n 3, 1) := by decide +kernel
theorem dX10_enterNumber_54 : decode cX10_enterNumber 54 = .ok (.iload 4, 2) := by decide +kernel
theorem dX10_enterNumber_56 : decode cX10_enterNumber 56 = .ok (.invokevirtual 123, 3) := by decide +kernel
theorem dX10_enterNumber_59 : decode cX10_enterNumber 59 = .ok (.ireturn, 1) := by decide +kernel
theorem dX10_enterQuotient_0 : decode cX10_enterQuotient 0 = .ok (.iload_n 1, 1) := by decide +kernel
theorem dX10_enterQuotient_1 : decode cX10_enterQuotient 1 = .ok (.iload_n 2, 1) := by decide +kernel
theorem dX10_enterQuotient_2 : decode cX10_enterQuotient 2 = .ok (.invokestatic 127, 3) := by decide +kernel
theorem dX10_enterQuotient_5 : decode cX10_enterQuotient 5 = .ok (.iload_n 3, 1) := by decide +kernel
theorem dX10_enterQuotient_6 : decode cX10_enterQuotient 6 = .ok (.invokestatic 96, 3) := by decide +kernel
theorem dX10_enterQuotient_9 : decode cX10_enterQuotient 9 = .ok (.iload 4, 2) := by decide +kernel
theorem dX10_enterQuotient_11 : decode cX10_enterQuotient 11 = .ok (.invokestatic 100, 3) := by decide +kernel
theorem dX10_enterQuotient_14 : decode cX10_enterQuotient 14 = .ok (.aload_n 0, 1) := by decide +kernel
theorem dX10_enterQuotient_15 : decode cX10_enterQuotient 15 = .ok (.invokevirtual 104, 3) := by decide +kernel
theorem dX10_enterQuotient_18 : decode cX10_enterQuotient 18 = .ok (.aload_n 0, 1) := by decide +kernel
theorem dX10_enterQuotient_19 : decode cX10_enterQuotient 19 = .ok (.getfield 10, 3) := by decide +kernel
theorem dX10_enterQuotient_22 : decode cX10_enterQuotient 22 = .ok (.iload_n 1, 1) := by decide +kernel
theorem dX10_enterQuotient_23 : decode cX10_enterQuotient 23 = .ok (.iload_n 2, 1) := by decide +kernel
theorem dX10_enterQuotient_24 : decode cX10_enterQuotient 24 = .ok (.iload_n 3, 1) := by decide +kernel
theorem dX10_enterQuotient_25 : decode cX10_enterQuotient 25 = .ok (.iload 4, 2) := by decide +kernel
theorem dX10_enterQuotient_27 : decode cX10_enterQuotient 27 = .ok (.invokestatic 130, 3) := by decide +kernel
theorem dX10_enterQuotient_30 : decode cX10_enterQuotient 30 = .ok (.iload_n 3, 1) := by decide +kernel
theorem dX10_enterQuotient_31 : decode cX10_enterQuotient 31 = .ok (.iload 4, 2) := by decide +kernel
theorem dX10_enterQuotient_33 : decode cX10_enterQuotient 33 = .ok (.invokevirtual 123, 3) := by decide +kernel
theorem dX10_enterQuotient_36 : decode cX10_enterQuotient 36 = .ok (.ireturn, 1) := by decide +kernel
theorem dX10_releaseNumber_0 : decode cX10_releaseNumber 0 = .ok (.aload_n 0, 1) := by decide +kernel
theorem dX10_releaseNumber_1 : decode cX10_releaseNumber 1 = .ok (.getfield 10, 3) := by decide +kernel
theorem dX10_releaseNumber_4 : decode cX10_releaseNumber 4 = .ok (.aload_n 0, 1) := by decide +kernel
theorem dX10_releaseNumber_5 : decode cX10_releaseNumber 5 = .ok (.iload_n 1, 1) := by decide +kernel
theorem dX10_releaseNumber_6 : decode cX10_releaseNumber 6 = .ok (.invokevirtual 134, 3) := by decide +kernel
theorem dX10_releaseNumber_9 : decode cX10_releaseNumber 9 = .ok (.invokevirtual 137, 3) := by decide +kernel
theorem dX10_releaseNumber_12 : decode cX10_releaseNumber 12 = .ok (.lreturn, 1) := by decide +kernel
theorem dX10_feedNumber_0 : decode cX10_feedNumber 0 = .ok (.aload_n 0, 1) := by decide +kernel
theorem dX10_feedNumber_1 : decode cX10_feedNumber 1 = .ok (.iload_n 1, 1) := by decide +kernel
theorem dX10_feedNumber_2 : decode cX10_feedNumber 2 = .ok (.invokevirtual 134, 3) := by decide +kernel
theorem dX10_feedNumber_5 : decode cX10_feedNumber 5 = .ok (.istore 4, 2) := by decide +kernel
theorem dX10_feedNumber_7 : decode cX10_feedNumber 7 = .ok (.iload_n 2, 1) := by decide +kernel
theorem dX10_feedNumber_8 : decode cX10_feedNumber 8 = .ok (.iload_n 3, 1) := by decide +kernel
theorem dX10_feedNumber_9 : decode cX10_feedNumber 9 = .ok (.invokestatic 92, 3) := by decide +kernel
theorem dX10_feedNumber_12 : decode cX10_feedNumber 12 = .ok (.iload_n 2, 1) := by decide +kernel
theorem dX10_feedNumber_13 : decode cX10_feedNumber 13 = .ok (.iload_n 3, 1) := by decide +kernel
theorem dX10_feedNumber_14 : decode cX10_feedNumber 14 = .ok (.invokestatic 107, 3) := by decide +kernel
theorem dX10_feedNumber_17 : decode cX10_feedNumber 17 = .ok (.lstore 5, 2) := by decide +kernel
theorem dX10_feedNumber_19 : decode cX10_feedNumber 19 = .ok (.aload_n 0, 1) := by decide +kernel
theorem dX10_feedNumber_20 : decode cX10_feedNumber 20 = .ok (.getfield 10, 3) := by decide +kernel
theorem dX10_feedNumber_23 : decode cX10_feedNumber 23 = .ok (.dup, 1) := by decide +kernel
theorem dX10_feedNumber_24 : decode cX10_feedNumber 24 = .ok (.getfield 140, 3) := by decide +kernel
theorem dX10_feedNumber_27 : decode cX10_feedNumber 27 = .ok (.lload 5, 2) := by decide +kernel
theorem dX10_feedNumber_29 : decode cX10_feedNumber 29 = .ok (.ladd, 1) := by decide +kernel
theorem dX10_feedNumber_30 : decode cX10_feedNumber 30 = .ok (.putfield 140, 3) := by decide +kernel
theorem dX10_feedNumber_33 : decode cX10_feedNumber 33 = .ok (.aload_n 0, 1) := by decide +kernel
theorem dX10_feedNumber_34 : decode cX10_feedNumber 34 = .ok (.getfield 10, 3) := by decide +kernel
theorem dX10_feedNumber_37 : decode cX10_feedNumber 37 = .ok (.iload 4, 2) := by decide +kernel
theorem dX10_feedNumber_39 : decode cX10_feedNumber 39 = .ok (.aload_n 0, 1) := by decide +kernel
theorem dX10_feedNumber_40 : decode cX10_feedNumber 40 = .ok (.getfield 10, 3) := by decide +kernel
theorem dX10_feedNumber_43 : decode cX10_feedNumber 43 = .ok (.getfield 144, 3) := by decide +kernel
theorem dX10_feedNumber_46 : decode cX10_feedNumber 46 = .ok (.iload 4, 2) := by decide +kernel
theorem dX10_feedNumber_48 : decode cX10_feedNumber 48 = .ok (.laload, 1) := by decide +kernel
theorem dX10_feedNumber_49 : decode cX10_feedNumber 49 = .ok (.lload 5, 2) := by decide +kernel
theorem dX10_feedNumber_51 : decode cX10_feedNumber 51 = .ok (.ladd, 1) := by decide +kernel
theorem dX10_feedNumber_52 : decode cX10_feedNumber 52 = .ok (.invokevirtual 148, 3) := by decide +kernel
theorem dX10_feedNumber_55 : decode cX10_feedNumber 55 = .ok (.lreturn, 1) := by decide +kernel
theorem dX10_tradeAmount_0 : decode cX10_tradeAmount 0 = .ok (.aload_n 0, 1) := by decide +kernel
theorem dX10_tradeAmount_1 : decode cX10_tradeAmount 1 = .ok (.iload_n 1, 1) := by decide +kernel
theorem dX10_tradeAmount_2 : decode cX10_tradeAmount 2 = .ok (.invokevirtual 134, 3) := by decide +kernel
theorem dX10_tradeAmount_5 : decode cX10_tradeAmount 5 = .ok (.istore 5, 2) := by decide +kernel
theorem dX10_tradeAmount_7 : decode cX10_tradeAmount 7 = .ok (.aload_n 0, 1) := by decide +kernel
theorem dX10_tradeAmount_8 : decode cX10_tradeAmount 8 = .ok (.iload_n 2, 1) := by decide +kernel
theorem dX10_tradeAmount_9 : decode cX10_tradeAmount 9 = .ok (.invokevirtual 134, 3) := by decide +kernel
theorem dX10_tradeAmount_12 : decode cX10_tradeAmount 12 = .ok (.istore 6, 2) := by decide +kernel
theorem dX10_tradeAmount_14 : decode cX10_tradeAmount 14 = .ok (.iload 5, 2) := by decide +kernel
theorem dX10_tradeAmount_16 : decode cX10_tradeAmount 16 = .ok (.iload 6, 2) := by decide +kernel
theorem dX10_tradeAmount_18 : decode cX10_tradeAmount 18 = .ok (.if_icmp .ne 13, 3) := by decide +kernel
theorem dX10_tradeAmount_21 : decode cX10_tradeAmount 21 = .ok (.new 152, 3) := by decide +kernel
theorem dX10_tradeAmount_24 : decode cX10_tradeAmount 24 = .ok (.dup, 1) := by decide +kernel
theorem dX10_tradeAmount_25 : decode cX10_tradeAmount 25 = .ok (.ldc 154, 2) := by decide +kernel
theorem dX10_tradeAmount_27 : decode cX10_tradeAmount 27 = .ok (.invokespecial 156, 3) := by decide +kernel
theorem dX10_tradeAmount_30 : decode cX10_tradeAmount 30 = .ok (.athrow, 1) := by decide +kernel
theorem dX10_tradeAmount_31 : decode cX10_tradeAmount 31 = .ok (.iload_n 3, 1) := by decide +kernel
theorem dX10_tradeAmount_32 : decode cX10_tradeAmount 32 = .ok (.iload 4, 2) := by decide +kernel
theorem dX10_tradeAmount_34 : decode cX10_tradeAmount 34 = .ok (.invokestatic 92, 3) := by decide +kernel
theorem dX10_tradeAmount_37 : decode cX10_tradeAmount 37 = .ok (.iload_n 3, 1) := by decide +kernel
theorem dX10_tradeAmount_38 : decode cX10_tradeAmount 38 = .ok (.iload 4, 2) := by decide +kernel
theorem dX10_tradeAmount_40 : decode cX10_tradeAmount 40 = .ok (.invokestatic 107, 3) := by decide +kernel
theorem dX10_tradeAmount_43 : decode cX10_tradeAmount 43 = .ok (.lstore 7, 2) := by decide +kernel
theorem dX10_tradeAmount_45 : decode cX10_tradeAmount 45 = .ok (.aload_n 0, 1) := by decide +kernel
theorem dX10_tradeAmount_46 : decode cX10_tradeAmount 46 = .ok (.getfield 10, 3) := by decide +kernel
theorem dX10_tradeAmount_49 : decode cX10_tradeAmount 49 = .ok (.getfield 144, 3) := by decide +kernel
theorem dX10_tradeAmount_52 : decode cX10_tradeAmount 52 = .ok (.iload 5, 2) := by decide +kernel
theorem dX10_tradeAmount_54 : decode cX10_tradeAmount 54 = .ok (.laload, 1) := by decide +kernel
theorem dX10_tradeAmount_55 : decode cX10_tradeAmount 55 = .ok (.lload 7, 2) := by decide +kernel
theorem dX10_tradeAmount_57 : decode cX10_tradeAmount 57 = .ok (.lcmp, 1) := by decide +kernel
theorem dX10_tradeAmount_58 : decode cX10_tradeAmount 58 = .ok (.ifCond .ge 13, 3) := by decide +kernel
theorem dX10_tradeAmount_61 : decode cX10_tradeAmount 61 = .ok (.new 157, 3) := by decide +kernel
theorem dX10_tradeAmount_64 : decode cX10_tradeAmount 64 = .ok (.dup, 1) := by decide +kernel
theorem dX10_tradeAmount_65 : decode cX10_tradeAmount 65 = .ok (.ldc 159, 2) := by decide +kernel
theorem dX10_tradeAmount_67 : decode cX10_tradeAmount 67 = .ok (.invokespecial 161, 3) := by decide +kernel
theorem dX10_tradeAmount_70 : decode cX10_tradeAmount 70 = .ok (.athrow, 1) := by decide +kernel
theorem dX10_tradeAmount_71 : decode cX10_tradeAmount 71 = .ok (.lload 7, 2) := by decide +kernel
theorem dX10_tradeAmount_73 : decode cX10_tradeAmount 73 = .ok (.aload_n 0, 1) := by decide +kernel
theorem dX10_tradeAmount_74 : decode cX10_tradeAmount 74 = .ok (.getfield 10, 3) := by decide +kernel
theorem dX10_tradeAmount_77 : decode cX10_tradeAmount 77 = .ok (.getfield 162, 3) := by decide +kernel
theorem dX10_tradeAmount_80 : decode cX10_tradeAmount 80 = .ok (.iload 5, 2) := by decide +kernel
theorem dX10_tradeAmount_82 : decode cX10_tradeAmount 82 = .ok (.iaload, 1) := by decide +kernel
theorem dX10_tradeAmount_83 : decode cX10_tradeAmount 83 = .ok (.invokestatic 111, 3) := by decide +kernel
theorem dX10_tradeAmount_86 : decode cX10_tradeAmount 86 = .ok (.lrem, 1) := by decide +kernel
theorem dX10_tradeAmount_87 : decode cX10_tradeAmount 87 = .ok (.lconst 0, 1) := by decide +kernel
theorem dX10_tradeAmount_88 : decode cX10_tradeAmount 88 = .ok (.lcmp, 1) := by decide +kernel
theorem dX10_tradeAmount_89 : decode cX10_tradeAmount 89 = .ok (.ifCond .eq 13, 3) := by decide +kernel
theorem dX10_tradeAmount_92 : decode cX10_tradeAmount 92 = .ok (.new 116, 3) := by decide +kernel
theorem dX10_tradeAmount_95 : decode cX10_tradeAmount 95 = .ok (.dup, 1) := by decide +kernel
theorem dX10_tradeAmount_96 : decode cX10_tradeAmount 96 = .ok (.ldc 166, 2) := by decide +kernel
theorem dX10_tradeAmount_98 : decode cX10_tradeAmount 98 = .ok (.invokespecial 120, 3) := by decide +kernel
theorem dX10_tradeAmount_101 : decode cX10_tradeAmount 101 = .ok (.athrow, 1) := by decide +kernel
theorem dX10_tradeAmount_102 : decode cX10_tradeAmount 102 = .ok (.aload_n 0, 1) := by decide +kernel
theorem dX10_tradeAmount_103 : decode cX10_tradeAmount 103 = .ok (.getfield 10, 3) := by decide +kernel
theorem dX10_tradeAmount_106 : decode cX10_tradeAmount 106 = .ok (.getfield 144, 3) := by decide +kernel
theorem dX10_tradeAmount_109 : decode cX10_tradeAmount 109 = .ok (.iload 5, 2) := by decide +kernel
theorem dX10_tradeAmount_111 : decode cX10_tradeAmount 111 = .ok (.dup2, 1) := by decide +kernel
theorem dX10_tradeAmount_112 : decode cX10_tradeAmount 112 = .ok (.laload, 1) := by decide +kernel
theorem dX10_tradeAmount_113 : decode cX10_tradeAmount 113 = .ok (.lload 7, 2) := by decide +kernel
theorem dX10_tradeAmount_115 : decode cX10_tradeAmount 115 = .ok (.lsub, 1) := by decide +kernel
theorem dX10_tradeAmount_116 : decode cX10_tradeAmount 116 = .ok (.lastore, 1) := by decide +kernel
theorem dX10_tradeAmount_117 : decode cX10_tradeAmount 117 = .ok (.aload_n 0, 1) := by decide +kernel
theorem dX10_tradeAmount_118 : decode cX10_tradeAmount 118 = .ok (.getfield 10, 3) := by decide +kernel
theorem dX10_tradeAmount_121 : decode cX10_tradeAmount 121 = .ok (.iload 6, 2) := by decide +kernel
theorem dX10_tradeAmount_123 : decode cX10_tradeAmount 123 = .ok (.aload_n 0, 1) := by decide +kernel
theorem dX10_tradeAmount_124 : decode cX10_tradeAmount 124 = .ok (.getfield 10, 3) := by decide +kernel
theorem dX10_tradeAmount_127 : decode cX10_tradeAmount 127 = .ok (.getfield 144, 3) := by decide +kernel
theorem dX10_tradeAmount_130 : decode cX10_tradeAmount 130 = .ok (.iload 6, 2) := by decide +kernel
theorem dX10_tradeAmount_132 : decode cX10_tradeAmount 132 = .ok (.laload, 1) := by decide +kernel
theorem dX10_tradeAmount_133 : decode cX10_tradeAmount 133 = .ok (.lload 7, 2) := by decide +kernel
theorem dX10_tradeAmount_135 : decode cX10_tradeAmount 135 = .ok (.ladd, 1) := by decide +kernel
theorem dX10_tradeAmount_136 : decode cX10_tradeAmount 136 = .ok (.invokevirtual 148, 3) := by decide +kernel
theorem dX10_tradeAmount_139 : decode cX10_tradeAmount 139 = .ok (.lreturn, 1) := by decide +kernel
theorem dX10_changeScale_0 : decode cX10_changeScale 0 = .ok (.aload_n 0, 1) := by decide +kernel
theorem dX10_changeScale_1 : decode cX10_changeScale 1 = .ok (.iload_n 1, 1) := by decide +kernel
theorem dX10_changeScale_2 : decode cX10_changeScale 2 = .ok (.invokevirtual 134, 3) := by decide +kernel
theorem dX10_changeScale_5 : decode cX10_changeScale 5 = .ok (.istore_n 3, 1) := by decide +kernel
theorem dX10_changeScale_6 : decode cX10_changeScale 6 = .ok (.iload_n 2, 1) := by decide +kernel
theorem dX10_changeScale_7 : decode cX10_changeScale 7 = .ok (.invokestatic 96, 3) := by decide +kernel
theorem dX10_changeScale_10 : decode cX10_changeScale 10 = .ok (.aload_n 0, 1) := by decide +kernel
theorem dX10_changeScale_11 : decode cX10_changeScale 11 = .ok (.getfield 10, 3) := by decide +kernel
theorem dX10_changeScale_14 : decode cX10_changeScale 14 = .ok (.getfield 162, 3) := by decide +kernel
theorem dX10_changeScale_17 : decode cX10_changeScale 17 = .ok (.iload_n 3, 1) := by decide +kernel
theorem dX10_changeScale_18 : decode cX10_changeScale 18 = .ok (.iaload, 1) := by decide +kernel
theorem dX10_changeScale_19 : decode cX10_changeScale 19 = .ok (.istore 4, 2) := by decide +kernel
theorem dX10_changeScale_21 : decode cX10_changeScale 21 = .ok (.aload_n 0, 1) := by decide +kernel
theorem dX10_changeScale_22 : decode cX10_changeScale 22 = .ok (.getfield 10, 3) := by decide +kernel
theorem dX10_changeScale_25 : decode cX10_changeScale 25 = .ok (.getfield 162, 3) := by decide +kernel
theorem dX10_changeScale_28 : decode cX10_changeScale 28 = .ok (.iload_n 3, 1) := by decide +kernel
theorem dX10_changeScale_29 : decode cX10_changeScale 29 = .ok (.iload_n 2, 1) := by decide +kernel
theorem dX10_changeScale_30 : decode cX10_changeScale 30 = .ok (.iastore, 1) := by decide +kernel
theorem dX10_changeScale_31 : decode cX10_changeScale 31 = .ok (.aload_n 0, 1) := by decide +kernel
theorem dX10_changeScale_32 : decode cX10_changeScale 32 = .ok (.getfield 10, 3) := by decide +kernel
theorem dX10_changeScale_35 : decode cX10_changeScale 35 = .ok (.iload_n 3, 1) := by decide +kernel
theorem dX10_changeScale_36 : decode cX10_changeScale 36 = .ok (.aload_n 0, 1) := by decide +kernel
theorem dX10_changeScale_37 : decode cX10_changeScale 37 = .ok (.getfield 10, 3) := by decide +kernel
theorem dX10_changeScale_40 : decode cX10_changeScale 40 = .ok (.getfield 144, 3) := by decide +kernel
theorem dX10_changeScale_43 : decode cX10_changeScale 43 = .ok (.iload_n 3, 1) := by decide +kernel
theorem dX10_changeScale_44 : decode cX10_changeScale 44 = .ok (.laload, 1) := by decide +kernel
theorem dX10_changeScale_45 : decode cX10_changeScale 45 = .ok (.invokevirtual 148, 3) := by decide +kernel
theorem dX10_changeScale_48 : decode cX10_changeScale 48 = .ok (.pop2, 1) := by decide +kernel
theorem dX10_changeScale_49 : decode cX10_changeScale 49 = .ok (.iload 4, 2) := by decide +kernel
theorem dX10_changeScale_51 : decode cX10_changeScale 51 = .ok (.ireturn, 1) := by decide +kernel
theorem dX10_changeMode_0 : decode cX10_changeMode 0 = .ok (.aload_n 0, 1) := by decide +kernel
theorem dX10_changeMode_1 : decode cX10_changeMode 1 = .ok (.iload_n 1, 1) := by decide +kernel
theorem dX10_changeMode_2 : decode cX10_changeMode 2 = .ok (.invokevirtual 134, 3) := by decide +kernel
theorem dX10_changeMode_5 : decode cX10_changeMode 5 = .ok (.istore_n 3, 1) := by decide +kernel
theorem dX10_changeMode_6 : decode cX10_changeMode 6 = .ok (.iload_n 2, 1) := by decide +kernel
theorem dX10_changeMode_7 : decode cX10_changeMode 7 = .ok (.invokestatic 100, 3) := by decide +kernel
theorem dX10_changeMode_10 : decode cX10_changeMode 10 = .ok (.aload_n 0, 1) := by decide +kernel
theorem dX10_changeMode_11 : decode cX10_changeMode 11 = .ok (.getfield 10, 3) := by decide +kernel
theorem dX10_changeMode_14 : decode cX10_changeMode 14 = .ok (.getfield 168, 3) := by decide +kernel
theorem dX10_changeMode_17 : decode cX10_changeMode 17 = .ok (.iload_n 3, 1) := by decide +kernel
theorem dX10_changeMode_18 : decode cX10_changeMode 18 = .ok (.caload, 1) := by decide +kernel
theorem dX10_changeMode_19 : decode cX10_changeMode 19 = .ok (.istore 4, 2) := by decide +kernel
theorem dX10_changeMode_21 : decode cX10_changeMode 21 = .ok (.aload_n 0, 1) := by decide +kernel
theorem dX10_changeMode_22 : decode cX10_changeMode 22 = .ok (.getfield 10, 3) := by decide +kernel
theorem dX10_changeMode_25 : decode cX10_changeMode 25 = .ok (.getfield 168, 3) := by decide +kernel
theorem dX10_changeMode_28 : decode cX10_changeMode 28 = .ok (.iload_n 3, 1) := by decide +kernel
theorem dX10_changeMode_29 : decode cX10_changeMode 29 = .ok (.iload_n 2, 1) := by decide +kernel
theorem dX10_changeMode_30 : decode cX10_changeMode 30 = .ok (.castore, 1) := by decide +kernel
theorem dX10_changeMode_31 : decode cX10_changeMode 31 = .ok (.iload 4, 2) := by decide +kernel
theorem dX10_changeMode_33 : decode cX10_changeMode 33 = .ok (.ireturn, 1) := by decide +kernel
theorem dX10_roundAll_0 : decode cX10_roundAll 0 = .ok (.iload_n 1, 1) := by decide +kernel
theorem dX10_roundAll_1 : decode cX10_roundAll 1 = .ok (.invokestatic 96, 3) := by decide +kernel
theorem dX10_roundAll_4 : decode cX10_roundAll 4 = .ok (.aload_n 0, 1) := by decide +kernel
theorem dX10_roundAll_5 : decode cX10_roundAll 5 = .ok (.getfield 10, 3) := by decide +kernel
theorem dX10_roundAll_8 : decode cX10_roundAll 8 = .ok (.iload_n 1, 1) := by decide +kernel
theorem dX10_roundAll_9 : decode cX10_roundAll 9 = .ok (.invokestatic 172, 3) := by decide +kernel
theorem dX10_roundAll_12 : decode cX10_roundAll 12 = .ok (.istore_n 2, 1) := by decide +kernel
theorem dX10_roundAll_13 : decode cX10_roundAll 13 = .ok (.iconst 0, 1) := by decide +kernel
theorem dX10_roundAll_14 : decode cX10_roundAll 14 = .ok (.istore_n 3, 1) := by decide +kernel
theorem dX10_roundAll_15 : decode cX10_roundAll 15 = .ok (.iload_n 3, 1) := by decide +kernel
theorem dX10_roundAll_16 : decode cX10_roundAll 16 = .ok (.aload_n 0, 1) := by decide +kernel
theorem dX10_roundAll_17 : decode cX10_roundAll 17 = .ok (.getfield 10, 3) := by decide +kernel
theorem dX10_roundAll_20 : decode cX10_roundAll 20 = .ok (.getfield 178, 3) := by decide +kernel
theorem dX10_roundAll_23 : decode cX10_roundAll 23 = .ok (.if_icmp .ge 60, 3) := by decide +kernel
theorem dX10_roundAll_26 : decode cX10_roundAll 26 = .ok (.aload_n 0, 1) := by decide +kernel
theorem dX10_roundAll_27 : decode cX10_roundAll 27 = .ok (.getfield 10, 3) := by decide +kernel
theorem dX10_roundAll_30 : decode cX10_roundAll 30 = .ok (.getfield 144, 3) := by decide +kernel
theorem dX10_roundAll_33 : decode cX10_roundAll 33 = .ok (.iload_n 3, 1) := by decide +kernel
theorem dX10_roundAll_34 : decode cX10_roundAll 34 = .ok (.laload, 1) := by decide +kernel
theorem dX10_roundAll_35 : decode cX10_roundAll 35 = .ok (.lstore 4, 2) := by decide +kernel
theorem dX10_roundAll_37 : decode cX10_roundAll 37 = .ok (.aload_n 0, 1) := by decide +kernel
theorem dX10_roundAll_38 : decode cX10_roundAll 38 = .ok (.getfield 10, 3) := by decide +kernel
theorem dX10_roundAll_41 : decode cX10_roundAll 41 = .ok (.iload_n 3, 1) := by decide +kernel
theorem dX10_roundAll_42 : decode cX10_roundAll 42 = .ok (.lload 4, 2) := by decide +kernel
theorem dX10_roundAll_44 : decode cX10_roundAll 44 = .ok (.iload_n 2, 1) := by decide +kernel
theorem dX10_roundAll_45 : decode cX10_roundAll 45 = .ok (.iload_n 3, 1) := by decide +kernel
theorem dX10_roundAll_46 : decode cX10_roundAll 46 = .ok (.lload 4, 2) := by decide +kernel
theorem dX10_roundAll_48 : decode cX10_roundAll 48 = .ok (.iload_n 1, 1) := by decide +kernel
theorem dX10_roundAll_49 : decode cX10_roundAll 49 = .ok (.invokestatic 181, 3) := by decide +kernel
theorem dX10_roundAll_52 : decode cX10_roundAll 52 = .ok (.invokevirtual 185, 3) := by decide +kernel
theorem dX10_roundAll_55 : decode cX10_roundAll 55 = .ok (.aload_n 0, 1) := by decide +kernel
theorem dX10_roundAll_56 : decode cX10_roundAll 56 = .ok (.getfield 10, 3) := by decide +kernel
theorem dX10_roundAll_59 : decode cX10_roundAll 59 = .ok (.getfield 162, 3) := by decide +kernel
theorem dX10_roundAll_62 : decode cX10_roundAll 62 = .ok (.iload_n 3, 1) := by decide +kernel
theorem dX10_roundAll_63 : decode cX10_roundAll 63 = .ok (.aload_n 0, 1) := by decide +kernel
theorem dX10_roundAll_64 : decode cX10_roundAll 64 = .ok (.getfield 10, 3) := by decide +kernel
theorem dX10_roundAll_67 : decode cX10_roundAll 67 = .ok (.getfield 162, 3) := by decide +kernel
theorem dX10_roundAll_70 : decode cX10_roundAll 70 = .ok (.iload_n 3, 1) := by decide +kernel
theorem dX10_roundAll_71 : decode cX10_roundAll 71 = .ok (.iaload, 1) := by decide +kernel
theorem dX10_roundAll_72 : decode cX10_roundAll 72 = .ok (.iload_n 1, 1) := by decide +kernel
theorem dX10_roundAll_73 : decode cX10_roundAll 73 = .ok (.invokestatic 189, 3) := by decide +kernel
theorem dX10_roundAll_76 : decode cX10_roundAll 76 = .ok (.iastore, 1) := by decide +kernel
theorem dX10_roundAll_77 : decode cX10_roundAll 77 = .ok (.iinc 3 1, 3) := by decide +kernel
theorem dX10_roundAll_80 : decode cX10_roundAll 80 = .ok (.goto (-65), 3) := by decide +kernel
theorem dX10_roundAll_83 : decode cX10_roundAll 83 = .ok (.iload_n 2, 1) := by decide +kernel
theorem dX10_roundAll_84 : decode cX10_roundAll 84 = .ok (.invokestatic 194, 3) := by decide +kernel
theorem dX10_roundAll_87 : decode cX10_roundAll 87 = .ok (.ireturn, 1) := by decide +kernel
theorem dX10_count_0 : decode cX10_count 0 = .ok (.aload_n 0, 1) := by decide +kernel
theorem dX10_count_1 : decode cX10_count 1 = .ok (.getfield 10, 3) := by decide +kernel
theorem dX10_count_4 : decode cX10_count 4 = .ok (.getfield 178, 3) := by decide +kernel
theorem dX10_count_7 : decode cX10_count 7 = .ok (.ireturn, 1) := by decide +kernel
theorem dX10_numberAt_0 : decode cX10_numberAt 0 = .ok (.iload_n 1, 1) := by decide +kernel
theorem dX10_numberAt_1 : decode cX10_numberAt 1 = .ok (.ifCond .lt 14, 3) := by decide +kernel
theorem dX10_numberAt_4 : decode cX10_numberAt 4 = .ok (.iload_n 1, 1) := by decide +kernel
theorem dX10_numberAt_5 : decode cX10_numberAt 5 = .ok (.aload_n 0, 1) := by decide +kernel
theorem dX10_numberAt_6 : decode cX10_numberAt 6 = .ok (.getfield 10, 3) := by decide +kernel
theorem dX10_numberAt_9 : decode cX10_numberAt 9 = .ok (.getfield 178, 3) := by decide +kernel
theorem dX10_numberAt_12 : decode cX10_numberAt 12 = .ok (.if_icmp .lt 13, 3) := by decide +kernel
theorem dX10_numberAt_15 : decode cX10_numberAt 15 = .ok (.new 199, 3) := by decide +kernel
theorem dX10_numberAt_18 : decode cX10_numberAt 18 = .ok (.dup, 1) := by decide +kernel
theorem dX10_numberAt_19 : decode cX10_numberAt 19 = .ok (.ldc 201, 2) := by decide +kernel
theorem dX10_numberAt_21 : decode cX10_numberAt 21 = .ok (.invokespecial 203, 3) := by decide +kernel
theorem dX10_numberAt_24 : decode cX10_numberAt 24 = .ok (.athrow, 1) := by decide +kernel
theorem dX10_numberAt_25 : decode cX10_numberAt 25 = .ok (.aload_n 0, 1) := by decide +kernel
theorem dX10_numberAt_26 : decode cX10_numberAt 26 = .ok (.getfield 10, 3) := by decide +kernel
theorem dX10_numberAt_29 : decode cX10_numberAt 29 = .ok (.getfield 204, 3) := by decide +kernel
theorem dX10_numberAt_32 : decode cX10_numberAt 32 = .ok (.iload_n 1, 1) := by decide +kernel
theorem dX10_numberAt_33 : decode cX10_numberAt 33 = .ok (.iaload, 1) := by decide +kernel
theorem dX10_numberAt_34 : decode cX10_numberAt 34 = .ok (.ireturn, 1) := by decide +kernel
theorem dX10_value_0 : decode cX10_value 0 = .ok (.aload_n 0, 1) := by decide +kernel
theorem dX10_value_1 : decode cX10_value 1 = .ok (.getfield 10, 3) := by decide +kernel
theorem dX10_value_4 : decode cX10_value 4 = .ok (.getfield 144, 3) := by decide +kernel
theorem dX10_value_7 : decode cX10_value 7 = .ok (.aload_n 0, 1) := by decide +kernel
theorem dX10_value_8 : decode cX10_value 8 = .ok (.iload_n 1, 1) := by decide +kernel
theorem dX10_value_9 : decode cX10_value 9 = .ok (.invokevirtual 134, 3) := by decide +kernel
theorem dX10_value_12 : decode cX10_value 12 = .ok (.laload, 1) := by decide +kernel
theorem dX10_value_13 : decode cX10_value 13 = .ok (.lreturn, 1) := by decide +kernel
theorem dX10_scale_0 : decode cX10_scale 0 = .ok (.aload_n 0, 1) := by decide +kernel
theorem dX10_scale_1 : decode cX10_scale 1 = .ok (.getfield 10, 3) := by decide +kernel
theorem dX10_scale_4 : decode cX10_scale 4 = .ok (.getfield 162, 3) := by decide +kernel
theorem dX10_scale_7 : decode cX10_scale 7 = .ok (.aload_n 0, 1) := by decide +kernel
theorem dX10_scale_8 : decode cX10_scale 8 = .ok (.iload_n 1, 1) := by decide +kernel
theorem dX10_scale_9 : decode cX10_scale 9 = .ok (.invokevirtual 134, 3) := by decide +kernel
theorem dX10_scale_12 : decode cX10_scale 12 = .ok (.iaload, 1) := by decide +kernel
theorem dX10_scale_13 : decode cX10_scale 13 = .ok (.ireturn, 1) := by decide +kernel
theorem dX10_mode_0 : decode cX10_mode 0 = .ok (.aload_n 0, 1) := by decide +kernel
theorem dX10_mode_1 : decode cX10_mode 1 = .ok (.getfield 10, 3) := by decide +kernel
theorem dX10_mode_4 : decode cX10_mode 4 = .ok (.getfield 168, 3) := by decide +kernel
theorem dX10_mode_7 : decode cX10_mode 7 = .ok (.aload_n 0, 1) := by decide +kernel
theorem dX10_mode_8 : decode cX10_mode 8 = .ok (.iload_n 1, 1) := by decide +kernel
theorem dX10_mode_9 : decode cX10_mode 9 = .ok (.invokevirtual 134, 3) := by decide +kernel
theorem dX10_mode_12 : decode cX10_mode 12 = .ok (.caload, 1) := by decide +kernel
theorem dX10_mode_13 : decode cX10_mode 13 = .ok (.ireturn, 1) := by decide +kernel
theorem dX10_digit_0 : decode cX10_digit 0 = .ok (.aload_n 0, 1) := by decide +kernel
theorem dX10_digit_1 : decode cX10_digit 1 = .ok (.iload_n 1, 1) := by decide +kernel
theorem dX10_digit_2 : decode cX10_digit 2 = .ok (.invokevirtual 134, 3) := by decide +kernel
theorem dX10_digit_5 : decode cX10_digit 5 = .ok (.istore_n 3, 1) := by decide +kernel
theorem dX10_digit_6 : decode cX10_digit 6 = .ok (.iload_n 2, 1) := by decide +kernel
theorem dX10_digit_7 : decode cX10_digit 7 = .ok (.bipush (-4), 2) := by decide +kernel
theorem dX10_digit_9 : decode cX10_digit 9 = .ok (.if_icmp .lt 9, 3) := by decide +kernel
theorem dX10_digit_12 : decode cX10_digit 12 = .ok (.iload_n 2, 1) := by decide +kernel
theorem dX10_digit_13 : decode cX10_digit 13 = .ok (.bipush 6, 2) := by decide +kernel
theorem dX10_digit_15 : decode cX10_digit 15 = .ok (.if_icmp .lt 13, 3) := by decide +kernel
theorem dX10_digit_18 : decode cX10_digit 18 = .ok (.new 199, 3) := by decide +kernel
theorem dX10_digit_21 : decode cX10_digit 21 = .ok (.dup, 1) := by decide +kernel
theorem dX10_digit_22 : decode cX10_digit 22 = .ok (.ldc 207, 2) := by decide +kernel
theorem dX10_digit_24 : decode cX10_digit 24 = .ok (.invokespecial 203, 3) := by decide +kernel
theorem dX10_digit_27 : decode cX10_digit 27 = .ok (.athrow, 1) := by decide +kernel
theorem dX10_digit_28 : decode cX10_digit 28 = .ok (.aload_n 0, 1) := by decide +kernel
theorem dX10_digit_29 : decode cX10_digit 29 = .ok (.getfield 10, 3) := by decide +kernel
theorem dX10_digit_32 : decode cX10_digit 32 = .ok (.getfield 144, 3) := by decide +kernel
theorem dX10_digit_35 : decode cX10_digit 35 = .ok (.iload_n 3, 1) := by decide +kernel
theorem dX10_digit_36 : decode cX10_digit 36 = .ok (.laload, 1) := by decide +kernel
theorem dX10_digit_37 : decode cX10_digit 37 = .ok (.iload_n 2, 1) := by decide +kernel
theorem dX10_digit_38 : decode cX10_digit 38 = .ok (.iconst 4, 1) := by decide +kernel
theorem dX10_digit_39 : decode cX10_digit 39 = .ok (.iadd, 1) := by decide +kernel
theorem dX10_digit_40 : decode cX10_digit 40 = .ok (.invokestatic 209, 3) := by decide +kernel
theorem dX10_digit_43 : decode cX10_digit 43 = .ok (.ireturn, 1) := by decide +kernel
theorem dX10_digitSum_0 : decode cX10_digitSum 0 = .ok (.aload_n 0, 1) := by decide +kernel
theorem dX10_digitSum_1 : decode cX10_digitSum 1 = .ok (.getfield 10, 3) := by decide +kernel
theorem dX10_digitSum_4 : decode cX10_digitSum 4 = .ok (.getfield 144, 3) := by decide +kernel
theorem dX10_digitSum_7 : decode cX10_digitSum 7 = .ok (.aload_n 0, 1) := by decide +kernel
theorem dX10_digitSum_8 : decode cX10_digitSum 8 = .ok (.iload_n 1, 1) := by decide +kernel
theorem dX10_digitSum_9 : decode cX10_digitSum 9 = .ok (.invokevirtual 134, 3) := by decide +kernel
theorem dX10_digitSum_12 : decode cX10_digitSum 12 = .ok (.laload, 1) := by decide +kernel
theorem dX10_digitSum_13 : decode cX10_digitSum 13 = .ok (.invokestatic 213, 3) := by decide +kernel
theorem dX10_digitSum_16 : decode cX10_digitSum 16 = .ok (.ireturn, 1) := by decide +kernel
theorem dX10_numberAtRank_0 : decode cX10_numberAtRank 0 = .ok (.iconst 0, 1) := by decide +kernel
theorem dX10_numberAtRank_1 : decode cX10_numberAtRank 1 = .ok (.istore_n 2, 1) := by decide +kernel
theorem dX10_numberAtRank_2 : decode cX10_numberAtRank 2 = .ok (.iload_n 2, 1) := by decide +kernel
theorem dX10_numberAtRank_3 : decode cX10_numberAtRank 3 = .ok (.aload_n 0, 1) := by decide +kernel
theorem dX10_numberAtRank_4 : decode cX10_numberAtRank 4 = .ok (.getfield 10, 3) := by decide +kernel
theorem dX10_numberAtRank_7 : decode cX10_numberAtRank 7 = .ok (.getfield 178, 3) := by decide +kernel
theorem dX10_numberAtRank_10 : decode cX10_numberAtRank 10 = .ok (.if_icmp .ge 31, 3) := by decide +kernel
theorem dX10_numberAtRank_13 : decode cX10_numberAtRank 13 = .ok (.aload_n 0, 1) := by decide +kernel
theorem dX10_numberAtRank_14 : decode cX10_numberAtRank 14 = .ok (.getfield 10, 3) := by decide +kernel
theorem dX10_numberAtRank_17 : decode cX10_numberAtRank 17 = .ok (.iload_n 2, 1) := by decide +kernel
theorem dX10_numberAtRank_18 : decode cX10_numberAtRank 18 = .ok (.invokevirtual 217, 3) := by decide +kernel
theorem dX10_numberAtRank_21 : decode cX10_numberAtRank 21 = .ok (.iload_n 1, 1) := by decide +kernel
theorem dX10_numberAtRank_22 : decode cX10_numberAtRank 22 = .ok (.if_icmp .ne 13, 3) := by decide +kernel
theorem dX10_numberAtRank_25 : decode cX10_numberAtRank 25 = .ok (.aload_n 0, 1) := by decide +kernel
theorem dX10_numberAtRank_26 : decode cX10_numberAtRank 26 = .ok (.getfield 10, 3) := by decide +kernel
theorem dX10_numberAtRank_29 : decode cX10_numberAtRank 29 = .ok (.getfield 204, 3) := by decide +kernel
theorem dX10_numberAtRank_32 : decode cX10_numberAtRank 32 = .ok (.iload_n 2, 1) := by decide +kernel
theorem dX10_numberAtRank_33 : decode cX10_numberAtRank 33 = .ok (.iaload, 1) := by decide +kernel
theorem dX10_numberAtRank_34 : decode cX10_numberAtRank 34 = .ok (.ireturn, 1) := by decide +kernel
theorem dX10_numberAtRank_35 : decode cX10_numberAtRank 35 = .ok (.iinc 2 1, 3) := by decide +kernel
theorem dX10_numberAtRank_38 : decode cX10_numberAtRank 38 = .ok (.goto (-36), 3) := by decide +kernel
theorem dX10_numberAtRank_41 : decode cX10_numberAtRank 41 = .ok (.new 199, 3) := by decide +kernel
theorem dX10_numberAtRank_44 : decode cX10_numberAtRank 44 = .ok (.dup, 1) := by decide +kernel
theorem dX10_numberAtRank_45 : decode cX10_numberAtRank 45 = .ok (.ldc 220, 2) := by decide +kernel
theorem dX10_numberAtRank_47 : decode cX10_numberAtRank 47 = .ok (.invokespecial 203, 3) := by decide +kernel
theorem dX10_numberAtRank_50 : decode cX10_numberAtRank 50 = .ok (.athrow, 1) := by decide +kernel
theorem dX10_rounded_0 : decode cX10_rounded 0 = .ok (.aload_n 0, 1) := by decide +kernel
theorem dX10_rounded_1 : decode cX10_rounded 1 = .ok (.iload_n 1, 1) := by decide +kernel
theorem dX10_rounded_2 : decode cX10_rounded 2 = .ok (.invokevirtual 134, 3) := by decide +kernel
theorem dX10_rounded_5 : decode cX10_rounded 5 = .ok (.istore 4, 2) := by decide +kernel
theorem dX10_rounded_7 : decode cX10_rounded 7 = .ok (.iload_n 2, 1) := by decide +kernel
theorem dX10_rounded_8 : decode cX10_rounded 8 = .ok (.invokestatic 96, 3) := by decide +kernel
theorem dX10_rounded_11 : decode cX10_rounded 11 = .ok (.iload_n 3, 1) := by decide +kernel
theorem dX10_rounded_12 : decode cX10_rounded 12 = .ok (.invokestatic 100, 3) := by decide +kernel
theorem dX10_rounded_15 : decode cX10_rounded 15 = .ok (.aload_n 0, 1) := by decide +kernel
theorem dX10_rounded_16 : decode cX10_rounded 16 = .ok (.getfield 10, 3) := by decide +kernel
theorem dX10_rounded_19 : decode cX10_rounded 19 = .ok (.getfield 144, 3) := by decide +kernel
theorem dX10_rounded_22 : decode cX10_rounded 22 = .ok (.iload 4, 2) := by decide +kernel
theorem dX10_rounded_24 : decode cX10_rounded 24 = .ok (.laload, 1) := by decide +kernel
theorem dX10_rounded_25 : decode cX10_rounded 25 = .ok (.iload_n 2, 1) := by decide +kernel
theorem dX10_rounded_26 : decode cX10_rounded 26 = .ok (.iload_n 3, 1) := by decide +kernel
theorem dX10_rounded_27 : decode cX10_rounded 27 = .ok (.invokestatic 222, 3) := by decide +kernel
theorem dX10_rounded_30 : decode cX10_rounded 30 = .ok (.lreturn, 1) := by decide +kernel
theorem dX10_part_0 : decode cX10_part 0 = .ok (.aload_n 0, 1) := by decide +kernel
theorem dX10_part_1 : decode cX10_part 1 = .ok (.iload_n 1, 1) := by decide +kernel
theorem dX10_part_2 : decode cX10_part 2 = .ok (.invokevirtual 134, 3) := by decide +kernel
theorem dX10_part_5 : decode cX10_part 5 = .ok (.istore 4, 2) := by decide +kernel
theorem dX10_part_7 : decode cX10_part 7 = .ok (.iload_n 2, 1) := by decide +kernel
theorem dX10_part_8 : decode cX10_part 8 = .ok (.iconst 1, 1) := by decide +kernel
theorem dX10_part_9 : decode cX10_part 9 = .ok (.if_icmp .lt 9, 3) := by decide +kernel
theorem dX10_part_12 : decode cX10_part 12 = .ok (.iload_n 2, 1) := by decide +kernel
theorem dX10_part_13 : decode cX10_part 13 = .ok (.bipush 9, 2) := by decide +kernel
theorem dX10_part_15 : decode cX10_part 15 = .ok (.if_icmp .le 13, 3) := by decide +kernel
theorem dX10_part_18 : decode cX10_part 18 = .ok (.new 152, 3) := by decide +kernel
theorem dX10_part_21 : decode cX10_part 21 = .ok (.dup, 1) := by decide +kernel
theorem dX10_part_22 : decode cX10_part 22 = .ok (.ldc 226, 2) := by decide +kernel
theorem dX10_part_24 : decode cX10_part 24 = .ok (.invokespecial 156, 3) := by decide +kernel
theorem dX10_part_27 : decode cX10_part 27 = .ok (.athrow, 1) := by decide +kernel
theorem dX10_part_28 : decode cX10_part 28 = .ok (.iload_n 3, 1) := by decide +kernel
theorem dX10_part_29 : decode cX10_part 29 = .ok (.ifCond .lt 8, 3) := by decide +kernel
theorem dX10_part_32 : decode cX10_part 32 = .ok (.iload_n 3, 1) := by decide +kernel
theorem dX10_part_33 : decode cX10_part 33 = .ok (.iload_n 2, 1) := by decide +kernel
theorem dX10_part_34 : decode cX10_part 34 = .ok (.if_icmp .lt 13, 3) := by decide +kernel
theorem dX10_part_37 : decode cX10_part 37 = .ok (.new 199, 3) := by decide +kernel
theorem dX10_part_40 : decode cX10_part 40 = .ok (.dup, 1) := by decide +kernel
theorem dX10_part_41 : decode cX10_part 41 = .ok (.ldc 228, 2) := by decide +kernel
theorem dX10_part_43 : decode cX10_part 43 = .ok (.invokespecial 203, 3) := by decide +kernel
theorem dX10_part_46 : decode cX10_part 46 = .ok (.athrow, 1) := by decide +kernel
theorem dX10_part_47 : decode cX10_part 47 = .ok (.aload_n 0, 1) := by decide +kernel
theorem dX10_part_48 : decode cX10_part 48 = .ok (.getfield 10, 3) := by decide +kernel
theorem dX10_part_51 : decode cX10_part 51 = .ok (.getfield 162, 3) := by decide +kernel
theorem dX10_part_54 : decode cX10_part 54 = .ok (.iload 4, 2) := by decide +kernel
theorem dX10_part_56 : decode cX10_part 56 = .ok (.iaload, 1) := by decide +kernel
theorem dX10_part_57 : decode cX10_part 57 = .ok (.invokestatic 111, 3) := by decide +kernel
theorem dX10_part_60 : decode cX10_part 60 = .ok (.lstore 5, 2) := by decide +kernel
theorem dX10_part_62 : decode cX10_part 62 = .ok (.aload_n 0, 1) := by decide +kernel
theorem dX10_part_63 : decode cX10_part 63 = .ok (.getfield 10, 3) := by decide +kernel
theorem dX10_part_66 : decode cX10_part 66 = .ok (.getfield 144, 3) := by decide +kernel
theorem dX10_part_69 : decode cX10_part 69 = .ok (.iload 4, 2) := by decide +kernel
theorem dX10_part_71 : decode cX10_part 71 = .ok (.laload, 1) := by decide +kernel
theorem dX10_part_72 : decode cX10_part 72 = .ok (.lload 5, 2) := by decide +kernel
theorem dX10_part_74 : decode cX10_part 74 = .ok (.ldiv, 1) := by decide +kernel
theorem dX10_part_75 : decode cX10_part 75 = .ok (.lstore 7, 2) := by decide +kernel
theorem dX10_part_77 : decode cX10_part 77 = .ok (.lload 7, 2) := by decide +kernel
theorem dX10_part_79 : decode cX10_part 79 = .ok (.iload_n 2, 1) := by decide +kernel
theorem dX10_part_80 : decode cX10_part 80 = .ok (.i2l, 1) := by decide +kernel
theorem dX10_part_81 : decode cX10_part 81 = .ok (.lrem, 1) := by decide +kernel
theorem dX10_part_82 : decode cX10_part 82 = .ok (.lstore 9, 2) := by decide +kernel
theorem dX10_part_84 : decode cX10_part 84 = .ok (.lload 7, 2) := by decide +kernel
theorem dX10_part_86 : decode cX10_part 86 = .ok (.iload_n 2, 1) := by decide +kernel
theorem dX10_part_87 : decode cX10_part 87 = .ok (.i2l, 1) := by decide +kernel
theorem dX10_part_88 : decode cX10_part 88 = .ok (.ldiv, 1) := by decide +kernel
theorem dX10_part_89 : decode cX10_part 89 = .ok (.iload_n 3, 1) := by decide +kernel
theorem dX10_part_90 : decode cX10_part 90 = .ok (.i2l, 1) := by decide +kernel
theorem dX10_part_91 : decode cX10_part 91 = .ok (.lload 9, 2) := by decide +kernel
theorem dX10_part_93 : decode cX10_part 93 = .ok (.lcmp, 1) := by decide +kernel
theorem dX10_part_94 : decode cX10_part 94 = .ok (.ifCond .ge 7, 3) := by decide +kernel
theorem dX10_part_97 : decode cX10_part 97 = .ok (.iconst 1, 1) := by decide +kernel
theorem dX10_part_98 : decode cX10_part 98 = .ok (.goto 4, 3) := by decide +kernel
theorem dX10_part_101 : decode cX10_part 101 = .ok (.iconst 0, 1) := by decide +kernel
theorem dX10_part_102 : decode cX10_part 102 = .ok (.i2l, 1) := by decide +kernel
theorem dX10_part_103 : decode cX10_part 103 = .ok (.ladd, 1) := by decide +kernel
theorem dX10_part_104 : decode cX10_part 104 = .ok (.lload 5, 2) := by decide +kernel
theorem dX10_part_106 : decode cX10_part 106 = .ok (.lmul, 1) := by decide +kernel
theorem dX10_part_107 : decode cX10_part 107 = .ok (.lreturn, 1) := by decide +kernel
theorem dX10_carries_0 : decode cX10_carries 0 = .ok (.aload_n 0, 1) := by decide +kernel
theorem dX10_carries_1 : decode cX10_carries 1 = .ok (.iload_n 1, 1) := by decide +kernel
theorem dX10_carries_2 : decode cX10_carries 2 = .ok (.invokevirtual 134, 3) := by decide +kernel
theorem dX10_carries_5 : decode cX10_carries 5 = .ok (.istore 4, 2) := by decide +kernel
theorem dX10_carries_7 : decode cX10_carries 7 = .ok (.iload_n 2, 1) := by decide +kernel
theorem dX10_carries_8 : decode cX10_carries 8 = .ok (.iload_n 3, 1) := by decide +kernel
theorem dX10_carries_9 : decode cX10_carries 9 = .ok (.invokestatic 92, 3) := by decide +kernel
theorem dX10_carries_12 : decode cX10_carries 12 = .ok (.aload_n 0, 1) := by decide +kernel
theorem dX10_carries_13 : decode cX10_carries 13 = .ok (.getfield 10, 3) := by decide +kernel
theorem dX10_carries_16 : decode cX10_carries 16 = .ok (.getfield 144, 3) := by decide +kernel
theorem dX10_carries_19 : decode cX10_carries 19 = .ok (.iload 4, 2) := by decide +kernel
theorem dX10_carries_21 : decode cX10_carries 21 = .ok (.laload, 1) := by decide +kernel
theorem dX10_carries_22 : decode cX10_carries 22 = .ok (.iload_n 2, 1) := by decide +kernel
theorem dX10_carries_23 : decode cX10_carries 23 = .ok (.iload_n 3, 1) := by decide +kernel
theorem dX10_carries_24 : decode cX10_carries 24 = .ok (.invokestatic 107, 3) := by decide +kernel
theorem dX10_carries_27 : decode cX10_carries 27 = .ok (.invokestatic 230, 3) := by decide +kernel
theorem dX10_carries_30 : decode cX10_carries 30 = .ok (.invokestatic 194, 3) := by decide +kernel
theorem dX10_carries_33 : decode cX10_carries 33 = .ok (.ireturn, 1) := by decide +kernel
theorem dX10_carriesBySums_0 : decode cX10_carriesBySums 0 = .ok (.aload_n 0, 1) := by decide +kernel
theorem dX10_carriesBySums_1 : decode cX10_carriesBySums 1 = .ok (.iload_n 1, 1) := by decide +kernel
theorem dX10_carriesBySums_2 : decode cX10_carriesBySums 2 = .ok (.invokevirtual 134, 3) := by decide +kernel
theorem dX10_carriesBySums_5 : decode cX10_carriesBySums 5 = .ok (.istore 4, 2) := by decide +kernel
theorem dX10_carriesBySums_7 : decode cX10_carriesBySums 7 = .ok (.iload_n 2, 1) := by decide +kernel
theorem dX10_carriesBySums_8 : decode cX10_carriesBySums 8 = .ok (.iload_n 3, 1) := by decide +kernel
theorem dX10_carriesBySums_9 : decode cX10_carriesBySums 9 = .ok (.invokestatic 92, 3) := by decide +kernel
theorem dX10_carriesBySums_12 : decode cX10_carriesBySums 12 = .ok (.aload_n 0, 1) := by decide +kernel
theorem dX10_carriesBySums_13 : decode cX10_carriesBySums 13 = .ok (.getfield 10, 3) := by decide +kernel
theorem dX10_carriesBySums_16 : decode cX10_carriesBySums 16 = .ok (.getfield 144, 3) := by decide +kernel
theorem dX10_carriesBySums_19 : decode cX10_carriesBySums 19 = .ok (.iload 4, 2) := by decide +kernel
theorem dX10_carriesBySums_21 : decode cX10_carriesBySums 21 = .ok (.laload, 1) := by decide +kernel
theorem dX10_carriesBySums_22 : decode cX10_carriesBySums 22 = .ok (.iload_n 2, 1) := by decide +kernel
theorem dX10_carriesBySums_23 : decode cX10_carriesBySums 23 = .ok (.iload_n 3, 1) := by decide +kernel
theorem dX10_carriesBySums_24 : decode cX10_carriesBySums 24 = .ok (.invokestatic 107, 3) := by decide +kernel
theorem dX10_carriesBySums_27 : decode cX10_carriesBySums 27 = .ok (.invokestatic 234, 3) := by decide +kernel
theorem dX10_carriesBySums_30 : decode cX10_carriesBySums 30 = .ok (.ireturn, 1) := by decide +kernel
theorem dX10_longestCarry_0 : decode cX10_longestCarry 0 = .ok (.aload_n 0, 1) := by decide +kernel
theorem dX10_longestCarry_1 : decode cX10_longestCarry 1 = .ok (.iload_n 1, 1) := by decide +kernel
theorem dX10_longestCarry_2 : decode cX10_longestCarry 2 = .ok (.invokevirtual 134, 3) := by decide +kernel
theorem dX10_longestCarry_5 : decode cX10_longestCarry 5 = .ok (.istore 4, 2) := by decide +kernel
theorem dX10_longestCarry_7 : decode cX10_longestCarry 7 = .ok (.iload_n 2, 1) := by decide +kernel
theorem dX10_longestCarry_8 : decode cX10_longestCarry 8 = .ok (.iload_n 3, 1) := by decide +kernel
theorem dX10_longestCarry_9 : decode cX10_longestCarry 9 = .ok (.invokestatic 92, 3) := by decide +kernel
theorem dX10_longestCarry_12 : decode cX10_longestCarry 12 = .ok (.aload_n 0, 1) := by decide +kernel
theorem dX10_longestCarry_13 : decode cX10_longestCarry 13 = .ok (.getfield 10, 3) := by decide +kernel
theorem dX10_longestCarry_16 : decode cX10_longestCarry 16 = .ok (.getfield 144, 3) := by decide +kernel
