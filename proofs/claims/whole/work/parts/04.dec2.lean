theorem dX11_numberAt_15 : decode cX11_numberAt 15 = .ok (.invokestatic 72, 3) := by decide +kernel
theorem dX11_numberAt_18 : decode cX11_numberAt 18 = .ok (.ifCond .eq 16, 3) := by decide +kernel
theorem dX11_numberAt_21 : decode cX11_numberAt 21 = .ok (.aload_n 0, 1) := by decide +kernel
theorem dX11_numberAt_22 : decode cX11_numberAt 22 = .ok (.getfield 9, 3) := by decide +kernel
theorem dX11_numberAt_25 : decode cX11_numberAt 25 = .ok (.iload_n 1, 1) := by decide +kernel
theorem dX11_numberAt_26 : decode cX11_numberAt 26 = .ok (.invokestatic 66, 3) := by decide +kernel
theorem dX11_numberAt_29 : decode cX11_numberAt 29 = .ok (.laload, 1) := by decide +kernel
theorem dX11_numberAt_30 : decode cX11_numberAt 30 = .ok (.l2i, 1) := by decide +kernel
theorem dX11_numberAt_31 : decode cX11_numberAt 31 = .ok (.goto 8, 3) := by decide +kernel
theorem dX11_numberAt_34 : decode cX11_numberAt 34 = .ok (.aload_n 0, 1) := by decide +kernel
theorem dX11_numberAt_35 : decode cX11_numberAt 35 = .ok (.iconst 1, 1) := by decide +kernel
theorem dX11_numberAt_36 : decode cX11_numberAt 36 = .ok (.invokevirtual 119, 3) := by decide +kernel
theorem dX11_numberAt_39 : decode cX11_numberAt 39 = .ok (.ireturn, 1) := by decide +kernel
theorem dX11_ofNumber_0 : decode cX11_ofNumber 0 = .ok (.aload_n 0, 1) := by decide +kernel
theorem dX11_ofNumber_1 : decode cX11_ofNumber 1 = .ok (.iconst 0, 1) := by decide +kernel
theorem dX11_ofNumber_2 : decode cX11_ofNumber 2 = .ok (.putfield 56, 3) := by decide +kernel
theorem dX11_ofNumber_5 : decode cX11_ofNumber 5 = .ok (.aload_n 0, 1) := by decide +kernel
theorem dX11_ofNumber_6 : decode cX11_ofNumber 6 = .ok (.iload_n 1, 1) := by decide +kernel
theorem dX11_ofNumber_7 : decode cX11_ofNumber 7 = .ok (.invokevirtual 144, 3) := by decide +kernel
theorem dX11_ofNumber_10 : decode cX11_ofNumber 10 = .ok (.iconst (-1), 1) := by decide +kernel
theorem dX11_ofNumber_11 : decode cX11_ofNumber 11 = .ok (.if_icmp .ne 12, 3) := by decide +kernel
theorem dX11_ofNumber_14 : decode cX11_ofNumber 14 = .ok (.aload_n 0, 1) := by decide +kernel
theorem dX11_ofNumber_15 : decode cX11_ofNumber 15 = .ok (.iconst 1, 1) := by decide +kernel
theorem dX11_ofNumber_16 : decode cX11_ofNumber 16 = .ok (.invokevirtual 119, 3) := by decide +kernel
theorem dX11_ofNumber_19 : decode cX11_ofNumber 19 = .ok (.i2l, 1) := by decide +kernel
theorem dX11_ofNumber_20 : decode cX11_ofNumber 20 = .ok (.goto 18, 3) := by decide +kernel
theorem dX11_ofNumber_23 : decode cX11_ofNumber 23 = .ok (.aload_n 0, 1) := by decide +kernel
theorem dX11_ofNumber_24 : decode cX11_ofNumber 24 = .ok (.getfield 9, 3) := by decide +kernel
theorem dX11_ofNumber_27 : decode cX11_ofNumber 27 = .ok (.aload_n 0, 1) := by decide +kernel
theorem dX11_ofNumber_28 : decode cX11_ofNumber 28 = .ok (.iload_n 1, 1) := by decide +kernel
theorem dX11_ofNumber_29 : decode cX11_ofNumber 29 = .ok (.invokevirtual 144, 3) := by decide +kernel
theorem dX11_ofNumber_32 : decode cX11_ofNumber 32 = .ok (.invokestatic 66, 3) := by decide +kernel
theorem dX11_ofNumber_35 : decode cX11_ofNumber 35 = .ok (.iload_n 2, 1) := by decide +kernel
theorem dX11_ofNumber_36 : decode cX11_ofNumber 36 = .ok (.iadd, 1) := by decide +kernel
theorem dX11_ofNumber_37 : decode cX11_ofNumber 37 = .ok (.laload, 1) := by decide +kernel
theorem dX11_ofNumber_38 : decode cX11_ofNumber 38 = .ok (.lreturn, 1) := by decide +kernel
theorem dX11_value_0 : decode cX11_value 0 = .ok (.aload_n 0, 1) := by decide +kernel
theorem dX11_value_1 : decode cX11_value 1 = .ok (.iload_n 1, 1) := by decide +kernel
theorem dX11_value_2 : decode cX11_value 2 = .ok (.iconst 1, 1) := by decide +kernel
theorem dX11_value_3 : decode cX11_value 3 = .ok (.invokevirtual 181, 3) := by decide +kernel
theorem dX11_value_6 : decode cX11_value 6 = .ok (.lreturn, 1) := by decide +kernel
theorem dX11_scale_0 : decode cX11_scale 0 = .ok (.aload_n 0, 1) := by decide +kernel
theorem dX11_scale_1 : decode cX11_scale 1 = .ok (.iload_n 1, 1) := by decide +kernel
theorem dX11_scale_2 : decode cX11_scale 2 = .ok (.iconst 2, 1) := by decide +kernel
theorem dX11_scale_3 : decode cX11_scale 3 = .ok (.invokevirtual 181, 3) := by decide +kernel
theorem dX11_scale_6 : decode cX11_scale 6 = .ok (.l2i, 1) := by decide +kernel
theorem dX11_scale_7 : decode cX11_scale 7 = .ok (.ireturn, 1) := by decide +kernel
theorem dX11_mode_0 : decode cX11_mode 0 = .ok (.aload_n 0, 1) := by decide +kernel
theorem dX11_mode_1 : decode cX11_mode 1 = .ok (.iload_n 1, 1) := by decide +kernel
theorem dX11_mode_2 : decode cX11_mode 2 = .ok (.iconst 3, 1) := by decide +kernel
theorem dX11_mode_3 : decode cX11_mode 3 = .ok (.invokevirtual 181, 3) := by decide +kernel
theorem dX11_mode_6 : decode cX11_mode 6 = .ok (.l2i, 1) := by decide +kernel
theorem dX11_mode_7 : decode cX11_mode 7 = .ok (.i2c, 1) := by decide +kernel
theorem dX11_mode_8 : decode cX11_mode 8 = .ok (.ireturn, 1) := by decide +kernel
theorem dX11_digitAt_0 : decode cX11_digitAt 0 = .ok (.lload_n 0, 1) := by decide +kernel
theorem dX11_digitAt_1 : decode cX11_digitAt 1 = .ok (.lstore_n 3, 1) := by decide +kernel
theorem dX11_digitAt_2 : decode cX11_digitAt 2 = .ok (.bipush (-4), 2) := by decide +kernel
theorem dX11_digitAt_4 : decode cX11_digitAt 4 = .ok (.istore 5, 2) := by decide +kernel
theorem dX11_digitAt_6 : decode cX11_digitAt 6 = .ok (.iload 5, 2) := by decide +kernel
theorem dX11_digitAt_8 : decode cX11_digitAt 8 = .ok (.iload_n 2, 1) := by decide +kernel
theorem dX11_digitAt_9 : decode cX11_digitAt 9 = .ok (.if_icmp .ge 15, 3) := by decide +kernel
theorem dX11_digitAt_12 : decode cX11_digitAt 12 = .ok (.lload_n 3, 1) := by decide +kernel
theorem dX11_digitAt_13 : decode cX11_digitAt 13 = .ok (.ldc2_w 82, 3) := by decide +kernel
theorem dX11_digitAt_16 : decode cX11_digitAt 16 = .ok (.ldiv, 1) := by decide +kernel
theorem dX11_digitAt_17 : decode cX11_digitAt 17 = .ok (.lstore_n 3, 1) := by decide +kernel
theorem dX11_digitAt_18 : decode cX11_digitAt 18 = .ok (.iinc 5 1, 3) := by decide +kernel
theorem dX11_digitAt_21 : decode cX11_digitAt 21 = .ok (.goto (-15), 3) := by decide +kernel
theorem dX11_digitAt_24 : decode cX11_digitAt 24 = .ok (.lload_n 3, 1) := by decide +kernel
theorem dX11_digitAt_25 : decode cX11_digitAt 25 = .ok (.ldc2_w 82, 3) := by decide +kernel
theorem dX11_digitAt_28 : decode cX11_digitAt 28 = .ok (.lrem, 1) := by decide +kernel
theorem dX11_digitAt_29 : decode cX11_digitAt 29 = .ok (.l2i, 1) := by decide +kernel
theorem dX11_digitAt_30 : decode cX11_digitAt 30 = .ok (.ireturn, 1) := by decide +kernel
theorem dX11_digit_0 : decode cX11_digit 0 = .ok (.aload_n 0, 1) := by decide +kernel
theorem dX11_digit_1 : decode cX11_digit 1 = .ok (.iload_n 1, 1) := by decide +kernel
theorem dX11_digit_2 : decode cX11_digit 2 = .ok (.iconst 1, 1) := by decide +kernel
theorem dX11_digit_3 : decode cX11_digit 3 = .ok (.invokevirtual 181, 3) := by decide +kernel
theorem dX11_digit_6 : decode cX11_digit 6 = .ok (.lstore_n 3, 1) := by decide +kernel
theorem dX11_digit_7 : decode cX11_digit 7 = .ok (.aload_n 0, 1) := by decide +kernel
theorem dX11_digit_8 : decode cX11_digit 8 = .ok (.getfield 56, 3) := by decide +kernel
theorem dX11_digit_11 : decode cX11_digit 11 = .ok (.ifCond .le 5, 3) := by decide +kernel
theorem dX11_digit_14 : decode cX11_digit 14 = .ok (.iconst (-1), 1) := by decide +kernel
theorem dX11_digit_15 : decode cX11_digit 15 = .ok (.ireturn, 1) := by decide +kernel
theorem dX11_digit_16 : decode cX11_digit 16 = .ok (.iload_n 2, 1) := by decide +kernel
theorem dX11_digit_17 : decode cX11_digit 17 = .ok (.i2l, 1) := by decide +kernel
theorem dX11_digit_18 : decode cX11_digit 18 = .ok (.ldc2_w 184, 3) := by decide +kernel
theorem dX11_digit_21 : decode cX11_digit 21 = .ok (.ldc2_w 186, 3) := by decide +kernel
theorem dX11_digit_24 : decode cX11_digit 24 = .ok (.invokestatic 72, 3) := by decide +kernel
theorem dX11_digit_27 : decode cX11_digit 27 = .ok (.ifCond .eq 11, 3) := by decide +kernel
theorem dX11_digit_30 : decode cX11_digit 30 = .ok (.lload_n 3, 1) := by decide +kernel
theorem dX11_digit_31 : decode cX11_digit 31 = .ok (.iload_n 2, 1) := by decide +kernel
theorem dX11_digit_32 : decode cX11_digit 32 = .ok (.invokestatic 188, 3) := by decide +kernel
theorem dX11_digit_35 : decode cX11_digit 35 = .ok (.goto 8, 3) := by decide +kernel
theorem dX11_digit_38 : decode cX11_digit 38 = .ok (.aload_n 0, 1) := by decide +kernel
theorem dX11_digit_39 : decode cX11_digit 39 = .ok (.iconst 2, 1) := by decide +kernel
theorem dX11_digit_40 : decode cX11_digit 40 = .ok (.invokevirtual 119, 3) := by decide +kernel
theorem dX11_digit_43 : decode cX11_digit 43 = .ok (.ireturn, 1) := by decide +kernel
theorem dX11_digitSum_0 : decode cX11_digitSum 0 = .ok (.aload_n 0, 1) := by decide +kernel
theorem dX11_digitSum_1 : decode cX11_digitSum 1 = .ok (.iload_n 1, 1) := by decide +kernel
theorem dX11_digitSum_2 : decode cX11_digitSum 2 = .ok (.iconst 1, 1) := by decide +kernel
theorem dX11_digitSum_3 : decode cX11_digitSum 3 = .ok (.invokevirtual 181, 3) := by decide +kernel
theorem dX11_digitSum_6 : decode cX11_digitSum 6 = .ok (.lstore_n 2, 1) := by decide +kernel
theorem dX11_digitSum_7 : decode cX11_digitSum 7 = .ok (.aload_n 0, 1) := by decide +kernel
theorem dX11_digitSum_8 : decode cX11_digitSum 8 = .ok (.getfield 56, 3) := by decide +kernel
theorem dX11_digitSum_11 : decode cX11_digitSum 11 = .ok (.ifCond .le 7, 3) := by decide +kernel
theorem dX11_digitSum_14 : decode cX11_digitSum 14 = .ok (.iconst (-1), 1) := by decide +kernel
theorem dX11_digitSum_15 : decode cX11_digitSum 15 = .ok (.goto 4, 3) := by decide +kernel
theorem dX11_digitSum_18 : decode cX11_digitSum 18 = .ok (.iconst 0, 1) := by decide +kernel
theorem dX11_digitSum_19 : decode cX11_digitSum 19 = .ok (.istore 4, 2) := by decide +kernel
theorem dX11_digitSum_21 : decode cX11_digitSum 21 = .ok (.bipush (-4), 2) := by decide +kernel
theorem dX11_digitSum_23 : decode cX11_digitSum 23 = .ok (.istore 5, 2) := by decide +kernel
theorem dX11_digitSum_25 : decode cX11_digitSum 25 = .ok (.iload 5, 2) := by decide +kernel
theorem dX11_digitSum_27 : decode cX11_digitSum 27 = .ok (.iconst 5, 1) := by decide +kernel
theorem dX11_digitSum_28 : decode cX11_digitSum 28 = .ok (.if_icmp .gt 27, 3) := by decide +kernel
theorem dX11_digitSum_31 : decode cX11_digitSum 31 = .ok (.aload_n 0, 1) := by decide +kernel
theorem dX11_digitSum_32 : decode cX11_digitSum 32 = .ok (.getfield 56, 3) := by decide +kernel
theorem dX11_digitSum_35 : decode cX11_digitSum 35 = .ok (.ifCond .ne 20, 3) := by decide +kernel
theorem dX11_digitSum_38 : decode cX11_digitSum 38 = .ok (.iload 4, 2) := by decide +kernel
theorem dX11_digitSum_40 : decode cX11_digitSum 40 = .ok (.lload_n 2, 1) := by decide +kernel
theorem dX11_digitSum_41 : decode cX11_digitSum 41 = .ok (.iload 5, 2) := by decide +kernel
theorem dX11_digitSum_43 : decode cX11_digitSum 43 = .ok (.invokestatic 188, 3) := by decide +kernel
theorem dX11_digitSum_46 : decode cX11_digitSum 46 = .ok (.iadd, 1) := by decide +kernel
theorem dX11_digitSum_47 : decode cX11_digitSum 47 = .ok (.istore 4, 2) := by decide +kernel
theorem dX11_digitSum_49 : decode cX11_digitSum 49 = .ok (.iinc 5 1, 3) := by decide +kernel
theorem dX11_digitSum_52 : decode cX11_digitSum 52 = .ok (.goto (-27), 3) := by decide +kernel
theorem dX11_digitSum_55 : decode cX11_digitSum 55 = .ok (.iload 4, 2) := by decide +kernel
theorem dX11_digitSum_57 : decode cX11_digitSum 57 = .ok (.ireturn, 1) := by decide +kernel
theorem dX11_isAhead_0 : decode cX11_isAhead 0 = .ok (.aload_n 0, 1) := by decide +kernel
theorem dX11_isAhead_1 : decode cX11_isAhead 1 = .ok (.getfield 9, 3) := by decide +kernel
theorem dX11_isAhead_4 : decode cX11_isAhead 4 = .ok (.iload_n 1, 1) := by decide +kernel
theorem dX11_isAhead_5 : decode cX11_isAhead 5 = .ok (.invokestatic 66, 3) := by decide +kernel
theorem dX11_isAhead_8 : decode cX11_isAhead 8 = .ok (.iconst 1, 1) := by decide +kernel
theorem dX11_isAhead_9 : decode cX11_isAhead 9 = .ok (.iadd, 1) := by decide +kernel
theorem dX11_isAhead_10 : decode cX11_isAhead 10 = .ok (.laload, 1) := by decide +kernel
theorem dX11_isAhead_11 : decode cX11_isAhead 11 = .ok (.aload_n 0, 1) := by decide +kernel
theorem dX11_isAhead_12 : decode cX11_isAhead 12 = .ok (.getfield 9, 3) := by decide +kernel
theorem dX11_isAhead_15 : decode cX11_isAhead 15 = .ok (.iload_n 2, 1) := by decide +kernel
theorem dX11_isAhead_16 : decode cX11_isAhead 16 = .ok (.invokestatic 66, 3) := by decide +kernel
theorem dX11_isAhead_19 : decode cX11_isAhead 19 = .ok (.iconst 1, 1) := by decide +kernel
theorem dX11_isAhead_20 : decode cX11_isAhead 20 = .ok (.iadd, 1) := by decide +kernel
theorem dX11_isAhead_21 : decode cX11_isAhead 21 = .ok (.laload, 1) := by decide +kernel
theorem dX11_isAhead_22 : decode cX11_isAhead 22 = .ok (.lsub, 1) := by decide +kernel
theorem dX11_isAhead_23 : decode cX11_isAhead 23 = .ok (.lstore_n 3, 1) := by decide +kernel
theorem dX11_isAhead_24 : decode cX11_isAhead 24 = .ok (.lload_n 3, 1) := by decide +kernel
theorem dX11_isAhead_25 : decode cX11_isAhead 25 = .ok (.lconst 0, 1) := by decide +kernel
theorem dX11_isAhead_26 : decode cX11_isAhead 26 = .ok (.lcmp, 1) := by decide +kernel
theorem dX11_isAhead_27 : decode cX11_isAhead 27 = .ok (.ifCond .ne 29, 3) := by decide +kernel
theorem dX11_isAhead_30 : decode cX11_isAhead 30 = .ok (.aload_n 0, 1) := by decide +kernel
theorem dX11_isAhead_31 : decode cX11_isAhead 31 = .ok (.getfield 9, 3) := by decide +kernel
theorem dX11_isAhead_34 : decode cX11_isAhead 34 = .ok (.iload_n 1, 1) := by decide +kernel
theorem dX11_isAhead_35 : decode cX11_isAhead 35 = .ok (.invokestatic 66, 3) := by decide +kernel
theorem dX11_isAhead_38 : decode cX11_isAhead 38 = .ok (.iconst 2, 1) := by decide +kernel
theorem dX11_isAhead_39 : decode cX11_isAhead 39 = .ok (.iadd, 1) := by decide +kernel
theorem dX11_isAhead_40 : decode cX11_isAhead 40 = .ok (.laload, 1) := by decide +kernel
theorem dX11_isAhead_41 : decode cX11_isAhead 41 = .ok (.aload_n 0, 1) := by decide +kernel
theorem dX11_isAhead_42 : decode cX11_isAhead 42 = .ok (.getfield 9, 3) := by decide +kernel
theorem dX11_isAhead_45 : decode cX11_isAhead 45 = .ok (.iload_n 2, 1) := by decide +kernel
theorem dX11_isAhead_46 : decode cX11_isAhead 46 = .ok (.invokestatic 66, 3) := by decide +kernel
theorem dX11_isAhead_49 : decode cX11_isAhead 49 = .ok (.iconst 2, 1) := by decide +kernel
theorem dX11_isAhead_50 : decode cX11_isAhead 50 = .ok (.iadd, 1) := by decide +kernel
theorem dX11_isAhead_51 : decode cX11_isAhead 51 = .ok (.laload, 1) := by decide +kernel
theorem dX11_isAhead_52 : decode cX11_isAhead 52 = .ok (.lsub, 1) := by decide +kernel
theorem dX11_isAhead_53 : decode cX11_isAhead 53 = .ok (.goto 4, 3) := by decide +kernel
theorem dX11_isAhead_56 : decode cX11_isAhead 56 = .ok (.lload_n 3, 1) := by decide +kernel
theorem dX11_isAhead_57 : decode cX11_isAhead 57 = .ok (.lstore_n 3, 1) := by decide +kernel
theorem dX11_isAhead_58 : decode cX11_isAhead 58 = .ok (.lload_n 3, 1) := by decide +kernel
theorem dX11_isAhead_59 : decode cX11_isAhead 59 = .ok (.lconst 0, 1) := by decide +kernel
theorem dX11_isAhead_60 : decode cX11_isAhead 60 = .ok (.lcmp, 1) := by decide +kernel
theorem dX11_isAhead_61 : decode cX11_isAhead 61 = .ok (.ifCond .gt 14, 3) := by decide +kernel
theorem dX11_isAhead_64 : decode cX11_isAhead 64 = .ok (.lload_n 3, 1) := by decide +kernel
theorem dX11_isAhead_65 : decode cX11_isAhead 65 = .ok (.lconst 0, 1) := by decide +kernel
theorem dX11_isAhead_66 : decode cX11_isAhead 66 = .ok (.lcmp, 1) := by decide +kernel
theorem dX11_isAhead_67 : decode cX11_isAhead 67 = .ok (.ifCond .ne 12, 3) := by decide +kernel
theorem dX11_isAhead_70 : decode cX11_isAhead 70 = .ok (.iload_n 1, 1) := by decide +kernel
theorem dX11_isAhead_71 : decode cX11_isAhead 71 = .ok (.iload_n 2, 1) := by decide +kernel
theorem dX11_isAhead_72 : decode cX11_isAhead 72 = .ok (.if_icmp .ge 7, 3) := by decide +kernel
theorem dX11_isAhead_75 : decode cX11_isAhead 75 = .ok (.iconst 1, 1) := by decide +kernel
theorem dX11_isAhead_76 : decode cX11_isAhead 76 = .ok (.goto 4, 3) := by decide +kernel
theorem dX11_isAhead_79 : decode cX11_isAhead 79 = .ok (.iconst 0, 1) := by decide +kernel
theorem dX11_isAhead_80 : decode cX11_isAhead 80 = .ok (.ireturn, 1) := by decide +kernel
theorem dX11_numberAtRank_0 : decode cX11_numberAtRank 0 = .ok (.aload_n 0, 1) := by decide +kernel
theorem dX11_numberAtRank_1 : decode cX11_numberAtRank 1 = .ok (.iconst 0, 1) := by decide +kernel
theorem dX11_numberAtRank_2 : decode cX11_numberAtRank 2 = .ok (.putfield 56, 3) := by decide +kernel
theorem dX11_numberAtRank_5 : decode cX11_numberAtRank 5 = .ok (.iconst 0, 1) := by decide +kernel
theorem dX11_numberAtRank_6 : decode cX11_numberAtRank 6 = .ok (.istore_n 2, 1) := by decide +kernel
theorem dX11_numberAtRank_7 : decode cX11_numberAtRank 7 = .ok (.iload_n 2, 1) := by decide +kernel
theorem dX11_numberAtRank_8 : decode cX11_numberAtRank 8 = .ok (.aload_n 0, 1) := by decide +kernel
theorem dX11_numberAtRank_9 : decode cX11_numberAtRank 9 = .ok (.invokevirtual 62, 3) := by decide +kernel
theorem dX11_numberAtRank_12 : decode cX11_numberAtRank 12 = .ok (.if_icmp .ge 63, 3) := by decide +kernel
theorem dX11_numberAtRank_15 : decode cX11_numberAtRank 15 = .ok (.iconst 0, 1) := by decide +kernel
theorem dX11_numberAtRank_16 : decode cX11_numberAtRank 16 = .ok (.istore_n 3, 1) := by decide +kernel
theorem dX11_numberAtRank_17 : decode cX11_numberAtRank 17 = .ok (.iconst 0, 1) := by decide +kernel
theorem dX11_numberAtRank_18 : decode cX11_numberAtRank 18 = .ok (.istore 4, 2) := by decide +kernel
theorem dX11_numberAtRank_20 : decode cX11_numberAtRank 20 = .ok (.iload 4, 2) := by decide +kernel
theorem dX11_numberAtRank_22 : decode cX11_numberAtRank 22 = .ok (.aload_n 0, 1) := by decide +kernel
theorem dX11_numberAtRank_23 : decode cX11_numberAtRank 23 = .ok (.invokevirtual 62, 3) := by decide +kernel
theorem dX11_numberAtRank_26 : decode cX11_numberAtRank 26 = .ok (.if_icmp .ge 27, 3) := by decide +kernel
theorem dX11_numberAtRank_29 : decode cX11_numberAtRank 29 = .ok (.iload_n 3, 1) := by decide +kernel
theorem dX11_numberAtRank_30 : decode cX11_numberAtRank 30 = .ok (.aload_n 0, 1) := by decide +kernel
theorem dX11_numberAtRank_31 : decode cX11_numberAtRank 31 = .ok (.iload 4, 2) := by decide +kernel
theorem dX11_numberAtRank_33 : decode cX11_numberAtRank 33 = .ok (.iload_n 2, 1) := by decide +kernel
theorem dX11_numberAtRank_34 : decode cX11_numberAtRank 34 = .ok (.invokevirtual 192, 3) := by decide +kernel
theorem dX11_numberAtRank_37 : decode cX11_numberAtRank 37 = .ok (.ifCond .eq 7, 3) := by decide +kernel
theorem dX11_numberAtRank_40 : decode cX11_numberAtRank 40 = .ok (.iconst 1, 1) := by decide +kernel
theorem dX11_numberAtRank_41 : decode cX11_numberAtRank 41 = .ok (.goto 4, 3) := by decide +kernel
theorem dX11_numberAtRank_44 : decode cX11_numberAtRank 44 = .ok (.iconst 0, 1) := by decide +kernel
theorem dX11_numberAtRank_45 : decode cX11_numberAtRank 45 = .ok (.iadd, 1) := by decide +kernel
theorem dX11_numberAtRank_46 : decode cX11_numberAtRank 46 = .ok (.istore_n 3, 1) := by decide +kernel
theorem dX11_numberAtRank_47 : decode cX11_numberAtRank 47 = .ok (.iinc 4 1, 3) := by decide +kernel
theorem dX11_numberAtRank_50 : decode cX11_numberAtRank 50 = .ok (.goto (-30), 3) := by decide +kernel
theorem dX11_numberAtRank_53 : decode cX11_numberAtRank 53 = .ok (.iload_n 3, 1) := by decide +kernel
theorem dX11_numberAtRank_54 : decode cX11_numberAtRank 54 = .ok (.iload_n 1, 1) := by decide +kernel
theorem dX11_numberAtRank_55 : decode cX11_numberAtRank 55 = .ok (.if_icmp .ne 14, 3) := by decide +kernel
theorem dX11_numberAtRank_58 : decode cX11_numberAtRank 58 = .ok (.aload_n 0, 1) := by decide +kernel
theorem dX11_numberAtRank_59 : decode cX11_numberAtRank 59 = .ok (.getfield 9, 3) := by decide +kernel
theorem dX11_numberAtRank_62 : decode cX11_numberAtRank 62 = .ok (.iload_n 2, 1) := by decide +kernel
theorem dX11_numberAtRank_63 : decode cX11_numberAtRank 63 = .ok (.invokestatic 66, 3) := by decide +kernel
theorem dX11_numberAtRank_66 : decode cX11_numberAtRank 66 = .ok (.laload, 1) := by decide +kernel
theorem dX11_numberAtRank_67 : decode cX11_numberAtRank 67 = .ok (.l2i, 1) := by decide +kernel
theorem dX11_numberAtRank_68 : decode cX11_numberAtRank 68 = .ok (.ireturn, 1) := by decide +kernel
theorem dX11_numberAtRank_69 : decode cX11_numberAtRank 69 = .ok (.iinc 2 1, 3) := by decide +kernel
theorem dX11_numberAtRank_72 : decode cX11_numberAtRank 72 = .ok (.goto (-65), 3) := by decide +kernel
theorem dX11_numberAtRank_75 : decode cX11_numberAtRank 75 = .ok (.aload_n 0, 1) := by decide +kernel
theorem dX11_numberAtRank_76 : decode cX11_numberAtRank 76 = .ok (.iconst 1, 1) := by decide +kernel
theorem dX11_numberAtRank_77 : decode cX11_numberAtRank 77 = .ok (.invokevirtual 119, 3) := by decide +kernel
theorem dX11_numberAtRank_80 : decode cX11_numberAtRank 80 = .ok (.ireturn, 1) := by decide +kernel
theorem dX11_rounded_0 : decode cX11_rounded 0 = .ok (.aload_n 0, 1) := by decide +kernel
theorem dX11_rounded_1 : decode cX11_rounded 1 = .ok (.iload_n 1, 1) := by decide +kernel
theorem dX11_rounded_2 : decode cX11_rounded 2 = .ok (.iconst 1, 1) := by decide +kernel
theorem dX11_rounded_3 : decode cX11_rounded 3 = .ok (.invokevirtual 181, 3) := by decide +kernel
theorem dX11_rounded_6 : decode cX11_rounded 6 = .ok (.lstore 4, 2) := by decide +kernel
theorem dX11_rounded_8 : decode cX11_rounded 8 = .ok (.aload_n 0, 1) := by decide +kernel
theorem dX11_rounded_9 : decode cX11_rounded 9 = .ok (.getfield 56, 3) := by decide +kernel
theorem dX11_rounded_12 : decode cX11_rounded 12 = .ok (.ifCond .le 7, 3) := by decide +kernel
theorem dX11_rounded_15 : decode cX11_rounded 15 = .ok (.ldc2_w 195, 3) := by decide +kernel
theorem dX11_rounded_18 : decode cX11_rounded 18 = .ok (.lreturn, 1) := by decide +kernel
theorem dX11_rounded_19 : decode cX11_rounded 19 = .ok (.iload_n 2, 1) := by decide +kernel
theorem dX11_rounded_20 : decode cX11_rounded 20 = .ok (.invokestatic 112, 3) := by decide +kernel
theorem dX11_rounded_23 : decode cX11_rounded 23 = .ok (.ifCond .eq 20, 3) := by decide +kernel
theorem dX11_rounded_26 : decode cX11_rounded 26 = .ok (.iload_n 3, 1) := by decide +kernel
theorem dX11_rounded_27 : decode cX11_rounded 27 = .ok (.invokestatic 116, 3) := by decide +kernel
theorem dX11_rounded_30 : decode cX11_rounded 30 = .ok (.ifCond .eq 13, 3) := by decide +kernel
theorem dX11_rounded_33 : decode cX11_rounded 33 = .ok (.lload 4, 2) := by decide +kernel
theorem dX11_rounded_35 : decode cX11_rounded 35 = .ok (.iload_n 2, 1) := by decide +kernel
theorem dX11_rounded_36 : decode cX11_rounded 36 = .ok (.iload_n 3, 1) := by decide +kernel
theorem dX11_rounded_37 : decode cX11_rounded 37 = .ok (.invokestatic 94, 3) := by decide +kernel
theorem dX11_rounded_40 : decode cX11_rounded 40 = .ok (.goto 9, 3) := by decide +kernel
theorem dX11_rounded_43 : decode cX11_rounded 43 = .ok (.aload_n 0, 1) := by decide +kernel
theorem dX11_rounded_44 : decode cX11_rounded 44 = .ok (.iconst 2, 1) := by decide +kernel
theorem dX11_rounded_45 : decode cX11_rounded 45 = .ok (.invokevirtual 119, 3) := by decide +kernel
theorem dX11_rounded_48 : decode cX11_rounded 48 = .ok (.i2l, 1) := by decide +kernel
theorem dX11_rounded_49 : decode cX11_rounded 49 = .ok (.lreturn, 1) := by decide +kernel
theorem dX11_part_0 : decode cX11_part 0 = .ok (.aload_n 0, 1) := by decide +kernel
theorem dX11_part_1 : decode cX11_part 1 = .ok (.iload_n 1, 1) := by decide +kernel
theorem dX11_part_2 : decode cX11_part 2 = .ok (.iconst 1, 1) := by decide +kernel
theorem dX11_part_3 : decode cX11_part 3 = .ok (.invokevirtual 181, 3) := by decide +kernel
theorem dX11_part_6 : decode cX11_part 6 = .ok (.lstore 4, 2) := by decide +kernel
theorem dX11_part_8 : decode cX11_part 8 = .ok (.aload_n 0, 1) := by decide +kernel
theorem dX11_part_9 : decode cX11_part 9 = .ok (.getfield 56, 3) := by decide +kernel
theorem dX11_part_12 : decode cX11_part 12 = .ok (.ifCond .le 7, 3) := by decide +kernel
theorem dX11_part_15 : decode cX11_part 15 = .ok (.ldc2_w 195, 3) := by decide +kernel
theorem dX11_part_18 : decode cX11_part 18 = .ok (.lreturn, 1) := by decide +kernel
theorem dX11_part_19 : decode cX11_part 19 = .ok (.iload_n 2, 1) := by decide +kernel
theorem dX11_part_20 : decode cX11_part 20 = .ok (.i2l, 1) := by decide +kernel
theorem dX11_part_21 : decode cX11_part 21 = .ok (.lconst 1, 1) := by decide +kernel
theorem dX11_part_22 : decode cX11_part 22 = .ok (.ldc2_w 197, 3) := by decide +kernel
theorem dX11_part_25 : decode cX11_part 25 = .ok (.invokestatic 72, 3) := by decide +kernel
theorem dX11_part_28 : decode cX11_part 28 = .ok (.ifCond .ne 10, 3) := by decide +kernel
theorem dX11_part_31 : decode cX11_part 31 = .ok (.aload_n 0, 1) := by decide +kernel
theorem dX11_part_32 : decode cX11_part 32 = .ok (.iconst 2, 1) := by decide +kernel
theorem dX11_part_33 : decode cX11_part 33 = .ok (.invokevirtual 119, 3) := by decide +kernel
theorem dX11_part_36 : decode cX11_part 36 = .ok (.i2l, 1) := by decide +kernel
theorem dX11_part_37 : decode cX11_part 37 = .ok (.lreturn, 1) := by decide +kernel
theorem dX11_part_38 : decode cX11_part 38 = .ok (.iload_n 3, 1) := by decide +kernel
theorem dX11_part_39 : decode cX11_part 39 = .ok (.i2l, 1) := by decide +kernel
theorem dX11_part_40 : decode cX11_part 40 = .ok (.lconst 0, 1) := by decide +kernel
theorem dX11_part_41 : decode cX11_part 41 = .ok (.iload_n 2, 1) := by decide +kernel
theorem dX11_part_42 : decode cX11_part 42 = .ok (.iconst 1, 1) := by decide +kernel
theorem dX11_part_43 : decode cX11_part 43 = .ok (.isub, 1) := by decide +kernel
theorem dX11_part_44 : decode cX11_part 44 = .ok (.i2l, 1) := by decide +kernel
theorem dX11_part_45 : decode cX11_part 45 = .ok (.invokestatic 72, 3) := by decide +kernel
theorem dX11_part_48 : decode cX11_part 48 = .ok (.ifCond .ne 10, 3) := by decide +kernel
theorem dX11_part_51 : decode cX11_part 51 = .ok (.aload_n 0, 1) := by decide +kernel
theorem dX11_part_52 : decode cX11_part 52 = .ok (.iconst 3, 1) := by decide +kernel
theorem dX11_part_53 : decode cX11_part 53 = .ok (.invokevirtual 119, 3) := by decide +kernel
theorem dX11_part_56 : decode cX11_part 56 = .ok (.i2l, 1) := by decide +kernel
theorem dX11_part_57 : decode cX11_part 57 = .ok (.lreturn, 1) := by decide +kernel
theorem dX11_part_58 : decode cX11_part 58 = .ok (.aload_n 0, 1) := by decide +kernel
theorem dX11_part_59 : decode cX11_part 59 = .ok (.getfield 9, 3) := by decide +kernel
theorem dX11_part_62 : decode cX11_part 62 = .ok (.aload_n 0, 1) := by decide +kernel
theorem dX11_part_63 : decode cX11_part 63 = .ok (.iload_n 1, 1) := by decide +kernel
theorem dX11_part_64 : decode cX11_part 64 = .ok (.invokevirtual 144, 3) := by decide +kernel
theorem dX11_part_67 : decode cX11_part 67 = .ok (.invokestatic 66, 3) := by decide +kernel
theorem dX11_part_70 : decode cX11_part 70 = .ok (.iconst 2, 1) := by decide +kernel
theorem dX11_part_71 : decode cX11_part 71 = .ok (.iadd, 1) := by decide +kernel
theorem dX11_part_72 : decode cX11_part 72 = .ok (.laload, 1) := by decide +kernel
theorem dX11_part_73 : decode cX11_part 73 = .ok (.l2i, 1) := by decide +kernel
theorem dX11_part_74 : decode cX11_part 74 = .ok (.invokestatic 86, 3) := by decide +kernel
theorem dX11_part_77 : decode cX11_part 77 = .ok (.lstore 6, 2) := by decide +kernel
theorem dX11_part_79 : decode cX11_part 79 = .ok (.lload 4, 2) := by decide +kernel
theorem dX11_part_81 : decode cX11_part 81 = .ok (.lload 6, 2) := by decide +kernel
theorem dX11_part_83 : decode cX11_part 83 = .ok (.ldiv, 1) := by decide +kernel
theorem dX11_part_84 : decode cX11_part 84 = .ok (.lstore 8, 2) := by decide +kernel
theorem dX11_part_86 : decode cX11_part 86 = .ok (.lload 6, 2) := by decide +kernel
theorem dX11_part_88 : decode cX11_part 88 = .ok (.lload 8, 2) := by decide +kernel
theorem dX11_part_90 : decode cX11_part 90 = .ok (.iload_n 2, 1) := by decide +kernel
theorem dX11_part_91 : decode cX11_part 91 = .ok (.i2l, 1) := by decide +kernel
theorem dX11_part_92 : decode cX11_part 92 = .ok (.ldiv, 1) := by decide +kernel
theorem dX11_part_93 : decode cX11_part 93 = .ok (.iload_n 3, 1) := by decide +kernel
theorem dX11_part_94 : decode cX11_part 94 = .ok (.i2l, 1) := by decide +kernel
theorem dX11_part_95 : decode cX11_part 95 = .ok (.lload 8, 2) := by decide +kernel
theorem dX11_part_97 : decode cX11_part 97 = .ok (.iload_n 2, 1) := by decide +kernel
theorem dX11_part_98 : decode cX11_part 98 = .ok (.i2l, 1) := by decide +kernel
theorem dX11_part_99 : decode cX11_part 99 = .ok (.lrem, 1) := by decide +kernel
theorem dX11_part_100 : decode cX11_part 100 = .ok (.lcmp, 1) := by decide +kernel
theorem dX11_part_101 : decode cX11_part 101 = .ok (.ifCond .ge 7, 3) := by decide +kernel
theorem dX11_part_104 : decode cX11_part 104 = .ok (.iconst 1, 1) := by decide +kernel
theorem dX11_part_105 : decode cX11_part 105 = .ok (.goto 4, 3) := by decide +kernel
theorem dX11_part_108 : decode cX11_part 108 = .ok (.iconst 0, 1) := by decide +kernel
theorem dX11_part_109 : decode cX11_part 109 = .ok (.i2l, 1) := by decide +kernel
theorem dX11_part_110 : decode cX11_part 110 = .ok (.ladd, 1) := by decide +kernel
theorem dX11_part_111 : decode cX11_part 111 = .ok (.lmul, 1) := by decide +kernel
theorem dX11_part_112 : decode cX11_part 112 = .ok (.lreturn, 1) := by decide +kernel
theorem dX11_adds_0 : decode cX11_adds 0 = .ok (.aload_n 0, 1) := by decide +kernel
theorem dX11_adds_1 : decode cX11_adds 1 = .ok (.iload_n 1, 1) := by decide +kernel
theorem dX11_adds_2 : decode cX11_adds 2 = .ok (.iconst 1, 1) := by decide +kernel
theorem dX11_adds_3 : decode cX11_adds 3 = .ok (.invokevirtual 181, 3) := by decide +kernel
theorem dX11_adds_6 : decode cX11_adds 6 = .ok (.lstore 4, 2) := by decide +kernel
theorem dX11_adds_8 : decode cX11_adds 8 = .ok (.aload_n 0, 1) := by decide +kernel
theorem dX11_adds_9 : decode cX11_adds 9 = .ok (.getfield 56, 3) := by decide +kernel
theorem dX11_adds_12 : decode cX11_adds 12 = .ok (.ifCond .ne 17, 3) := by decide +kernel
theorem dX11_adds_15 : decode cX11_adds 15 = .ok (.iload_n 2, 1) := by decide +kernel
theorem dX11_adds_16 : decode cX11_adds 16 = .ok (.iload_n 3, 1) := by decide +kernel
theorem dX11_adds_17 : decode cX11_adds 17 = .ok (.invokestatic 108, 3) := by decide +kernel
theorem dX11_adds_20 : decode cX11_adds 20 = .ok (.ifCond .ne 9, 3) := by decide +kernel
theorem dX11_adds_23 : decode cX11_adds 23 = .ok (.aload_n 0, 1) := by decide +kernel
theorem dX11_adds_24 : decode cX11_adds 24 = .ok (.iconst 2, 1) := by decide +kernel
theorem dX11_adds_25 : decode cX11_adds 25 = .ok (.invokevirtual 119, 3) := by decide +kernel
theorem dX11_adds_28 : decode cX11_adds 28 = .ok (.pop, 1) := by decide +kernel
theorem dX11_adds_29 : decode cX11_adds 29 = .ok (.aload_n 0, 1) := by decide +kernel
theorem dX11_adds_30 : decode cX11_adds 30 = .ok (.getfield 56, 3) := by decide +kernel
theorem dX11_adds_33 : decode cX11_adds 33 = .ok (.ifCond .ne 82, 3) := by decide +kernel
theorem dX11_adds_36 : decode cX11_adds 36 = .ok (.iconst 0, 1) := by decide +kernel
theorem dX11_adds_37 : decode cX11_adds 37 = .ok (.istore 6, 2) := by decide +kernel
theorem dX11_adds_39 : decode cX11_adds 39 = .ok (.iconst 0, 1) := by decide +kernel
theorem dX11_adds_40 : decode cX11_adds 40 = .ok (.istore 7, 2) := by decide +kernel
theorem dX11_adds_42 : decode cX11_adds 42 = .ok (.iload 7, 2) := by decide +kernel
theorem dX11_adds_44 : decode cX11_adds 44 = .ok (.bipush 10, 2) := by decide +kernel
theorem dX11_adds_46 : decode cX11_adds 46 = .ok (.if_icmp .ge 69, 3) := by decide +kernel
theorem dX11_adds_49 : decode cX11_adds 49 = .ok (.lload 4, 2) := by decide +kernel
theorem dX11_adds_51 : decode cX11_adds 51 = .ok (.iload 7, 2) := by decide +kernel
theorem dX11_adds_53 : decode cX11_adds 53 = .ok (.iconst 4, 1) := by decide +kernel
theorem dX11_adds_54 : decode cX11_adds 54 = .ok (.isub, 1) := by decide +kernel
theorem dX11_adds_55 : decode cX11_adds 55 = .ok (.invokestatic 188, 3) := by decide +kernel
theorem dX11_adds_58 : decode cX11_adds 58 = .ok (.iload_n 2, 1) := by decide +kernel
theorem dX11_adds_59 : decode cX11_adds 59 = .ok (.iload_n 3, 1) := by decide +kernel
theorem dX11_adds_60 : decode cX11_adds 60 = .ok (.invokestatic 122, 3) := by decide +kernel
theorem dX11_adds_63 : decode cX11_adds 63 = .ok (.iload 7, 2) := by decide +kernel
theorem dX11_adds_65 : decode cX11_adds 65 = .ok (.iconst 4, 1) := by decide +kernel
theorem dX11_adds_66 : decode cX11_adds 66 = .ok (.isub, 1) := by decide +kernel
theorem dX11_adds_67 : decode cX11_adds 67 = .ok (.invokestatic 188, 3) := by decide +kernel
theorem dX11_adds_70 : decode cX11_adds 70 = .ok (.iadd, 1) := by decide +kernel
theorem dX11_adds_71 : decode cX11_adds 71 = .ok (.iload 6, 2) := by decide +kernel
theorem dX11_adds_73 : decode cX11_adds 73 = .ok (.iadd, 1) := by decide +kernel
theorem dX11_adds_74 : decode cX11_adds 74 = .ok (.istore 8, 2) := by decide +kernel
theorem dX11_adds_76 : decode cX11_adds 76 = .ok (.aload_n 0, 1) := by decide +kernel
theorem dX11_adds_77 : decode cX11_adds 77 = .ok (.getfield 37, 3) := by decide +kernel
theorem dX11_adds_80 : decode cX11_adds 80 = .ok (.iload 7, 2) := by decide +kernel
theorem dX11_adds_82 : decode cX11_adds 82 = .ok (.iload 8, 2) := by decide +kernel
theorem dX11_adds_84 : decode cX11_adds 84 = .ok (.bipush 9, 2) := by decide +kernel
theorem dX11_adds_86 : decode cX11_adds 86 = .ok (.if_icmp .le 7, 3) := by decide +kernel
theorem dX11_adds_89 : decode cX11_adds 89 = .ok (.iconst 1, 1) := by decide +kernel
theorem dX11_adds_90 : decode cX11_adds 90 = .ok (.goto 4, 3) := by decide +kernel
theorem dX11_adds_93 : decode cX11_adds 93 = .ok (.iconst 0, 1) := by decide +kernel
theorem dX11_adds_94 : decode cX11_adds 94 = .ok (.bastore, 1) := by decide +kernel
theorem dX11_adds_95 : decode cX11_adds 95 = .ok (.iload 8, 2) := by decide +kernel
theorem dX11_adds_97 : decode cX11_adds 97 = .ok (.bipush 9, 2) := by decide +kernel
theorem dX11_adds_99 : decode cX11_adds 99 = .ok (.if_icmp .le 7, 3) := by decide +kernel
theorem dX11_adds_102 : decode cX11_adds 102 = .ok (.iconst 1, 1) := by decide +kernel
theorem dX11_adds_103 : decode cX11_adds 103 = .ok (.goto 4, 3) := by decide +kernel
theorem dX11_adds_106 : decode cX11_adds 106 = .ok (.iconst 0, 1) := by decide +kernel
theorem dX11_adds_107 : decode cX11_adds 107 = .ok (.istore 6, 2) := by decide +kernel
theorem dX11_adds_109 : decode cX11_adds 109 = .ok (.iinc 7 1, 3) := by decide +kernel
theorem dX11_adds_112 : decode cX11_adds 112 = .ok (.goto (-70), 3) := by decide +kernel
theorem dX11_adds_115 : decode cX11_adds 115 = .ok (.return_, 1) := by decide +kernel
theorem dX11_carries_0 : decode cX11_carries 0 = .ok (.aload_n 0, 1) := by decide +kernel
theorem dX11_carries_1 : decode cX11_carries 1 = .ok (.iload_n 1, 1) := by decide +kernel
theorem dX11_carries_2 : decode cX11_carries 2 = .ok (.iload_n 2, 1) := by decide +kernel
theorem dX11_carries_3 : decode cX11_carries 3 = .ok (.iload_n 3, 1) := by decide +kernel
theorem dX11_carries_4 : decode cX11_carries 4 = .ok (.invokevirtual 199, 3) := by decide +kernel
theorem dX11_carries_7 : decode cX11_carries 7 = .ok (.aload_n 0, 1) := by decide +kernel
theorem dX11_carries_8 : decode cX11_carries 8 = .ok (.getfield 56, 3) := by decide +kernel
theorem dX11_carries_11 : decode cX11_carries 11 = .ok (.ifCond .le 7, 3) := by decide +kernel
theorem dX11_carries_14 : decode cX11_carries 14 = .ok (.iconst (-1), 1) := by decide +kernel
theorem dX11_carries_15 : decode cX11_carries 15 = .ok (.goto 4, 3) := by decide +kernel
theorem dX11_carries_18 : decode cX11_carries 18 = .ok (.iconst 0, 1) := by decide +kernel
theorem dX11_carries_19 : decode cX11_carries 19 = .ok (.istore 4, 2) := by decide +kernel
theorem dX11_carries_21 : decode cX11_carries 21 = .ok (.iconst 0, 1) := by decide +kernel
theorem dX11_carries_22 : decode cX11_carries 22 = .ok (.istore 5, 2) := by decide +kernel
theorem dX11_carries_24 : decode cX11_carries 24 = .ok (.iload 5, 2) := by decide +kernel
theorem dX11_carries_26 : decode cX11_carries 26 = .ok (.bipush 10, 2) := by decide +kernel
theorem dX11_carries_28 : decode cX11_carries 28 = .ok (.if_icmp .ge 36, 3) := by decide +kernel
theorem dX11_carries_31 : decode cX11_carries 31 = .ok (.aload_n 0, 1) := by decide +kernel
theorem dX11_carries_32 : decode cX11_carries 32 = .ok (.getfield 56, 3) := by decide +kernel
theorem dX11_carries_35 : decode cX11_carries 35 = .ok (.ifCond .ne 29, 3) := by decide +kernel
theorem dX11_carries_38 : decode cX11_carries 38 = .ok (.iload 4, 2) := by decide +kernel
theorem dX11_carries_40 : decode cX11_carries 40 = .ok (.aload_n 0, 1) := by decide +kernel
theorem dX11_carries_41 : decode cX11_carries 41 = .ok (.getfield 37, 3) := by decide +kernel
theorem dX11_carries_44 : decode cX11_carries 44 = .ok (.iload 5, 2) := by decide +kernel
theorem dX11_carries_46 : decode cX11_carries 46 = .ok (.baload, 1) := by decide +kernel
theorem dX11_carries_47 : decode cX11_carries 47 = .ok (.ifCond .eq 7, 3) := by decide +kernel
theorem dX11_carries_50 : decode cX11_carries 50 = .ok (.iconst 1, 1) := by decide +kernel
theorem dX11_carries_51 : decode cX11_carries 51 = .ok (.goto 4, 3) := by decide +kernel
theorem dX11_carries_54 : decode cX11_carries 54 = .ok (.iconst 0, 1) := by decide +kernel
theorem dX11_carries_55 : decode cX11_carries 55 = .ok (.iadd, 1) := by decide +kernel
theorem dX11_carries_56 : decode cX11_carries 56 = .ok (.istore 4, 2) := by decide +kernel
theorem dX11_carries_58 : decode cX11_carries 58 = .ok (.iinc 5 1, 3) := by decide +kernel
theorem dX11_carries_61 : decode cX11_carries 61 = .ok (.goto (-37), 3) := by decide +kernel
theorem dX11_carries_64 : decode cX11_carries 64 = .ok (.iload 4, 2) := by decide +kernel
theorem dX11_carries_66 : decode cX11_carries 66 = .ok (.ireturn, 1) := by decide +kernel
theorem dX11_carriesBySums_0 : decode cX11_carriesBySums 0 = .ok (.aload_n 0, 1) := by decide +kernel
theorem dX11_carriesBySums_1 : decode cX11_carriesBySums 1 = .ok (.iload_n 1, 1) := by decide +kernel
theorem dX11_carriesBySums_2 : decode cX11_carriesBySums 2 = .ok (.iload_n 2, 1) := by decide +kernel
theorem dX11_carriesBySums_3 : decode cX11_carriesBySums 3 = .ok (.iload_n 3, 1) := by decide +kernel
theorem dX11_carriesBySums_4 : decode cX11_carriesBySums 4 = .ok (.invokevirtual 203, 3) := by decide +kernel
theorem dX11_carriesBySums_7 : decode cX11_carriesBySums 7 = .ok (.ireturn, 1) := by decide +kernel
theorem dX11_longestCarry_0 : decode cX11_longestCarry 0 = .ok (.aload_n 0, 1) := by decide +kernel
theorem dX11_longestCarry_1 : decode cX11_longestCarry 1 = .ok (.iload_n 1, 1) := by decide +kernel
theorem dX11_longestCarry_2 : decode cX11_longestCarry 2 = .ok (.iload_n 2, 1) := by decide +kernel
theorem dX11_longestCarry_3 : decode cX11_longestCarry 3 = .ok (.iload_n 3, 1) := by decide +kernel
theorem dX11_longestCarry_4 : decode cX11_longestCarry 4 = .ok (.invokevirtual 199, 3) := by decide +kernel
theorem dX11_longestCarry_7 : decode cX11_longestCarry 7 = .ok (.aload_n 0, 1) := by decide +kernel
theorem dX11_longestCarry_8 : decode cX11_longestCarry 8 = .ok (.getfield 56, 3) := by decide +kernel
theorem dX11_longestCarry_11 : decode cX11_longestCarry 11 = .ok (.ifCond .le 7, 3) := by decide +kernel
theorem dX11_longestCarry_14 : decode cX11_longestCarry 14 = .ok (.iconst (-1), 1) := by decide +kernel
theorem dX11_longestCarry_15 : decode cX11_longestCarry 15 = .ok (.goto 4, 3) := by decide +kernel
theorem dX11_longestCarry_18 : decode cX11_longestCarry 18 = .ok (.iconst 0, 1) := by decide +kernel
theorem dX11_longestCarry_19 : decode cX11_longestCarry 19 = .ok (.istore 4, 2) := by decide +kernel
theorem dX11_longestCarry_21 : decode cX11_longestCarry 21 = .ok (.iconst 0, 1) := by decide +kernel
theorem dX11_longestCarry_22 : decode cX11_longestCarry 22 = .ok (.istore 5, 2) := by decide +kernel
theorem dX11_longestCarry_24 : decode cX11_longestCarry 24 = .ok (.iconst 0, 1) := by decide +kernel
theorem dX11_longestCarry_25 : decode cX11_longestCarry 25 = .ok (.istore 6, 2) := by decide +kernel
theorem dX11_longestCarry_27 : decode cX11_longestCarry 27 = .ok (.iload 6, 2) := by decide +kernel
theorem dX11_longestCarry_29 : decode cX11_longestCarry 29 = .ok (.bipush 10, 2) := by decide +kernel
theorem dX11_longestCarry_31 : decode cX11_longestCarry 31 = .ok (.if_icmp .ge 45, 3) := by decide +kernel
theorem dX11_longestCarry_34 : decode cX11_longestCarry 34 = .ok (.aload_n 0, 1) := by decide +kernel
theorem dX11_longestCarry_35 : decode cX11_longestCarry 35 = .ok (.getfield 56, 3) := by decide +kernel
theorem dX11_longestCarry_38 : decode cX11_longestCarry 38 = .ok (.ifCond .ne 38, 3) := by decide +kernel
theorem dX11_longestCarry_41 : decode cX11_longestCarry 41 = .ok (.aload_n 0, 1) := by decide +kernel
theorem dX11_longestCarry_42 : decode cX11_longestCarry 42 = .ok (.getfield 37, 3) := by decide +kernel
theorem dX11_longestCarry_45 : decode cX11_longestCarry 45 = .ok (.iload 6, 2) := by decide +kernel
theorem dX11_longestCarry_47 : decode cX11_longestCarry 47 = .ok (.baload, 1) := by decide +kernel
theorem dX11_longestCarry_48 : decode cX11_longestCarry 48 = .ok (.ifCond .eq 10, 3) := by decide +kernel
theorem dX11_longestCarry_51 : decode cX11_longestCarry 51 = .ok (.iload 5, 2) := by decide +kernel
theorem dX11_longestCarry_53 : decode cX11_longestCarry 53 = .ok (.iconst 1, 1) := by decide +kernel
theorem dX11_longestCarry_54 : decode cX11_longestCarry 54 = .ok (.iadd, 1) := by decide +kernel
theorem dX11_longestCarry_55 : decode cX11_longestCarry 55 = .ok (.goto 4, 3) := by decide +kernel
theorem dX11_longestCarry_58 : decode cX11_longestCarry 58 = .ok (.iconst 0, 1) := by decide +kernel
theorem dX11_longestCarry_59 : decode cX11_longestCarry 59 = .ok (.istore 5, 2) := by decide +kernel
theorem dX11_longestCarry_61 : decode cX11_longestCarry 61 = .ok (.iload 4, 2) := by decide +kernel
theorem dX11_longestCarry_63 : decode cX11_longestCarry 63 = .ok (.iload 5, 2) := by decide +kernel
theorem dX11_longestCarry_65 : decode cX11_longestCarry 65 = .ok (.invokestatic 207, 3) := by decide +kernel
theorem dX11_longestCarry_68 : decode cX11_longestCarry 68 = .ok (.istore 4, 2) := by decide +kernel
theorem dX11_longestCarry_70 : decode cX11_longestCarry 70 = .ok (.iinc 6 1, 3) := by decide +kernel
theorem dX11_longestCarry_73 : decode cX11_longestCarry 73 = .ok (.goto (-46), 3) := by decide +kernel
theorem dX11_longestCarry_76 : decode cX11_longestCarry 76 = .ok (.iload 4, 2) := by decide +kernel
theorem dX11_longestCarry_78 : decode cX11_longestCarry 78 = .ok (.ireturn, 1) := by decide +kernel
theorem dX11_togetherError_0 : decode cX11_togetherError 0 = .ok (.aload_n 0, 1) := by decide +kernel
theorem dX11_togetherError_1 : decode cX11_togetherError 1 = .ok (.iconst 0, 1) := by decide +kernel
theorem dX11_togetherError_2 : decode cX11_togetherError 2 = .ok (.putfield 56, 3) := by decide +kernel
theorem dX11_togetherError_5 : decode cX11_togetherError 5 = .ok (.iload_n 1, 1) := by decide +kernel
theorem dX11_togetherError_6 : decode cX11_togetherError 6 = .ok (.invokestatic 112, 3) := by decide +kernel
theorem dX11_togetherError_9 : decode cX11_togetherError 9 = .ok (.ifCond .ne 10, 3) := by decide +kernel
theorem dX11_togetherError_12 : decode cX11_togetherError 12 = .ok (.aload_n 0, 1) := by decide +kernel
theorem dX11_togetherError_13 : decode cX11_togetherError 13 = .ok (.iconst 1, 1) := by decide +kernel
theorem dX11_togetherError_14 : decode cX11_togetherError 14 = .ok (.invokevirtual 119, 3) := by decide +kernel
theorem dX11_togetherError_17 : decode cX11_togetherError 17 = .ok (.i2l, 1) := by decide +kernel
theorem dX11_togetherError_18 : decode cX11_togetherError 18 = .ok (.lreturn, 1) := by decide +kernel
theorem dX11_togetherError_19 : decode cX11_togetherError 19 = .ok (.aload_n 0, 1) := by decide +kernel
theorem dX11_togetherError_20 : decode cX11_togetherError 20 = .ok (.iload_n 1, 1) := by decide +kernel
theorem dX11_togetherError_21 : decode cX11_togetherError 21 = .ok (.invokevirtual 169, 3) := by decide +kernel
theorem dX11_togetherError_24 : decode cX11_togetherError 24 = .ok (.pop, 1) := by decide +kernel
theorem dX11_togetherError_25 : decode cX11_togetherError 25 = .ok (.lconst 0, 1) := by decide +kernel
theorem dX11_togetherError_26 : decode cX11_togetherError 26 = .ok (.lstore_n 2, 1) := by decide +kernel
theorem dX11_togetherError_27 : decode cX11_togetherError 27 = .ok (.iconst 0, 1) := by decide +kernel
theorem dX11_togetherError_28 : decode cX11_togetherError 28 = .ok (.istore 4, 2) := by decide +kernel
theorem dX11_togetherError_30 : decode cX11_togetherError 30 = .ok (.iload 4, 2) := by decide +kernel
theorem dX11_togetherError_32 : decode cX11_togetherError 32 = .ok (.aload_n 0, 1) := by decide +kernel
theorem dX11_togetherError_33 : decode cX11_togetherError 33 = .ok (.invokevirtual 62, 3) := by decide +kernel
theorem dX11_togetherError_36 : decode cX11_togetherError 36 = .ok (.if_icmp .ge 44, 3) := by decide +kernel
theorem dX11_togetherError_39 : decode cX11_togetherError 39 = .ok (.lload_n 2, 1) := by decide +kernel
theorem dX11_togetherError_40 : decode cX11_togetherError 40 = .ok (.aload_n 0, 1) := by decide +kernel
theorem dX11_togetherError_41 : decode cX11_togetherError 41 = .ok (.getfield 33, 3) := by decide +kernel
theorem dX11_togetherError_44 : decode cX11_togetherError 44 = .ok (.iload 4, 2) := by decide +kernel
theorem dX11_togetherError_46 : decode cX11_togetherError 46 = .ok (.baload, 1) := by decide +kernel
theorem dX11_togetherError_47 : decode cX11_togetherError 47 = .ok (.ifCond .eq 18, 3) := by decide +kernel
theorem dX11_togetherError_50 : decode cX11_togetherError 50 = .ok (.iload_n 1, 1) := by decide +kernel
theorem dX11_togetherError_51 : decode cX11_togetherError 51 = .ok (.invokestatic 86, 3) := by decide +kernel
theorem dX11_togetherError_54 : decode cX11_togetherError 54 = .ok (.aload_n 0, 1) := by decide +kernel
theorem dX11_togetherError_55 : decode cX11_togetherError 55 = .ok (.iload 4, 2) := by decide +kernel
theorem dX11_togetherError_57 : decode cX11_togetherError 57 = .ok (.iload_n 1, 1) := by decide +kernel
theorem dX11_togetherError_58 : decode cX11_togetherError 58 = .ok (.invokevirtual 100, 3) := by decide +kernel
theorem dX11_togetherError_61 : decode cX11_togetherError 61 = .ok (.lsub, 1) := by decide +kernel
theorem dX11_togetherError_62 : decode cX11_togetherError 62 = .ok (.goto 10, 3) := by decide +kernel
theorem dX11_togetherError_65 : decode cX11_togetherError 65 = .ok (.aload_n 0, 1) := by decide +kernel
theorem dX11_togetherError_66 : decode cX11_togetherError 66 = .ok (.iload 4, 2) := by decide +kernel
theorem dX11_togetherError_68 : decode cX11_togetherError 68 = .ok (.iload_n 1, 1) := by decide +kernel
theorem dX11_togetherError_69 : decode cX11_togetherError 69 = .ok (.invokevirtual 100, 3) := by decide +kernel
theorem dX11_togetherError_72 : decode cX11_togetherError 72 = .ok (.ladd, 1) := by decide +kernel
theorem dX11_togetherError_73 : decode cX11_togetherError 73 = .ok (.lstore_n 2, 1) := by decide +kernel
theorem dX11_togetherError_74 : decode cX11_togetherError 74 = .ok (.iinc 4 1, 3) := by decide +kernel
theorem dX11_togetherError_77 : decode cX11_togetherError 77 = .ok (.goto (-47), 3) := by decide +kernel
theorem dX11_togetherError_80 : decode cX11_togetherError 80 = .ok (.lload_n 2, 1) := by decide +kernel
theorem dX11_togetherError_81 : decode cX11_togetherError 81 = .ok (.lreturn, 1) := by decide +kernel
theorem dX11_togetherErrorBySets_0 : decode cX11_togetherErrorBySets 0 = .ok (.aload_n 0, 1) := by decide +kernel
theorem dX11_togetherErrorBySets_1 : decode cX11_togetherErrorBySets 1 = .ok (.iload_n 1, 1) := by decide +kernel
theorem dX11_togetherErrorBySets_2 : decode cX11_togetherErrorBySets 2 = .ok (.invokevirtual 210, 3) := by decide +kernel
theorem dX11_togetherErrorBySets_5 : decode cX11_togetherErrorBySets 5 = .ok (.lreturn, 1) := by decide +kernel
theorem dX11_goesUp_0 : decode cX11_goesUp 0 = .ok (.aload_n 0, 1) := by decide +kernel
theorem dX11_goesUp_1 : decode cX11_goesUp 1 = .ok (.iconst 0, 1) := by decide +kernel
theorem dX11_goesUp_2 : decode cX11_goesUp 2 = .ok (.putfield 56, 3) := by decide +kernel
theorem dX11_goesUp_5 : decode cX11_goesUp 5 = .ok (.aload_n 0, 1) := by decide +kernel
theorem dX11_goesUp_6 : decode cX11_goesUp 6 = .ok (.iload_n 1, 1) := by decide +kernel
theorem dX11_goesUp_7 : decode cX11_goesUp 7 = .ok (.invokevirtual 144, 3) := by decide +kernel
theorem dX11_goesUp_10 : decode cX11_goesUp 10 = .ok (.iconst (-1), 1) := by decide +kernel
theorem dX11_goesUp_11 : decode cX11_goesUp 11 = .ok (.if_icmp .ne 12, 3) := by decide +kernel
theorem dX11_goesUp_14 : decode cX11_goesUp 14 = .ok (.aload_n 0, 1) := by decide +kernel
theorem dX11_goesUp_15 : decode cX11_goesUp 15 = .ok (.iconst 1, 1) := by decide +kernel
theorem dX11_goesUp_16 : decode cX11_goesUp 16 = .ok (.invokevirtual 119, 3) := by decide +kernel
theorem dX11_goesUp_19 : decode cX11_goesUp 19 = .ok (.pop, 1) := by decide +kernel
theorem dX11_goesUp_20 : decode cX11_goesUp 20 = .ok (.goto 25, 3) := by decide +kernel
theorem dX11_goesUp_23 : decode cX11_goesUp 23 = .ok (.iload_n 2, 1) := by decide +kernel
theorem dX11_goesUp_24 : decode cX11_goesUp 24 = .ok (.invokestatic 112, 3) := by decide +kernel
theorem dX11_goesUp_27 : decode cX11_goesUp 27 = .ok (.ifCond .ne 12, 3) := by decide +kernel
theorem dX11_goesUp_30 : decode cX11_goesUp 30 = .ok (.aload_n 0, 1) := by decide +kernel
theorem dX11_goesUp_31 : decode cX11_goesUp 31 = .ok (.iconst 2, 1) := by decide +kernel
theorem dX11_goesUp_32 : decode cX11_goesUp 32 = .ok (.invokevirtual 119, 3) := by decide +kernel
theorem dX11_goesUp_35 : decode cX11_goesUp 35 = .ok (.pop, 1) := by decide +kernel
theorem dX11_goesUp_36 : decode cX11_goesUp 36 = .ok (.goto 9, 3) := by decide +kernel
theorem dX11_goesUp_39 : decode cX11_goesUp 39 = .ok (.aload_n 0, 1) := by decide +kernel
theorem dX11_goesUp_40 : decode cX11_goesUp 40 = .ok (.iload_n 2, 1) := by decide +kernel
theorem dX11_goesUp_41 : decode cX11_goesUp 41 = .ok (.invokevirtual 169, 3) := by decide +kernel
theorem dX11_goesUp_44 : decode cX11_goesUp 44 = .ok (.pop, 1) := by decide +kernel
theorem dX11_goesUp_45 : decode cX11_goesUp 45 = .ok (.aload_n 0, 1) := by decide +kernel
theorem dX11_goesUp_46 : decode cX11_goesUp 46 = .ok (.getfield 56, 3) := by decide +kernel
theorem dX11_goesUp_49 : decode cX11_goesUp 49 = .ok (.ifCond .ne 20, 3) := by decide +kernel
theorem dX11_goesUp_52 : decode cX11_goesUp 52 = .ok (.aload_n 0, 1) := by decide +kernel
theorem dX11_goesUp_53 : decode cX11_goesUp 53 = .ok (.getfield 33, 3) := by decide +kernel
theorem dX11_goesUp_56 : decode cX11_goesUp 56 = .ok (.aload_n 0, 1) := by decide +kernel
theorem dX11_goesUp_57 : decode cX11_goesUp 57 = .ok (.iload_n 1, 1) := by decide +kernel
theorem dX11_goesUp_58 : decode cX11_goesUp 58 = .ok (.invokevirtual 144, 3) := by decide +kernel
theorem dX11_goesUp_61 : decode cX11_goesUp 61 = .ok (.baload, 1) := by decide +kernel
theorem dX11_goesUp_62 : decode cX11_goesUp 62 = .ok (.ifCond .eq 7, 3) := by decide +kernel
theorem dX11_goesUp_65 : decode cX11_goesUp 65 = .ok (.iconst 1, 1) := by decide +kernel
theorem dX11_goesUp_66 : decode cX11_goesUp 66 = .ok (.goto 4, 3) := by decide +kernel
theorem dX11_goesUp_69 : decode cX11_goesUp 69 = .ok (.iconst 0, 1) := by decide +kernel
theorem dX11_goesUp_70 : decode cX11_goesUp 70 = .ok (.ireturn, 1) := by decide +kernel
theorem dX11_isQuotient_0 : decode cX11_isQuotient 0 = .ok (.iload_n 0, 1) := by decide +kernel
theorem dX11_isQuotient_1 : decode cX11_isQuotient 1 = .ok (.i2l, 1) := by decide +kernel
theorem dX11_isQuotient_2 : decode cX11_isQuotient 2 = .ok (.lconst 0, 1) := by decide +kernel
theorem dX11_isQuotient_3 : decode cX11_isQuotient 3 = .ok (.ldc2_w 78, 3) := by decide +kernel
theorem dX11_isQuotient_6 : decode cX11_isQuotient 6 = .ok (.invokestatic 72, 3) := by decide +kernel
theorem dX11_isQuotient_9 : decode cX11_isQuotient 9 = .ok (.ifCond .eq 19, 3) := by decide +kernel
theorem dX11_isQuotient_12 : decode cX11_isQuotient 12 = .ok (.iload_n 1, 1) := by decide +kernel
theorem dX11_isQuotient_13 : decode cX11_isQuotient 13 = .ok (.i2l, 1) := by decide +kernel
theorem dX11_isQuotient_14 : decode cX11_isQuotient 14 = .ok (.lconst 1, 1) := by decide +kernel
theorem dX11_isQuotient_15 : decode cX11_isQuotient 15 = .ok (.ldc2_w 139, 3) := by decide +kernel
theorem dX11_isQuotient_18 : decode cX11_isQuotient 18 = .ok (.invokestatic 72, 3) := by decide +kernel
theorem dX11_isQuotient_21 : decode cX11_isQuotient 21 = .ok (.ifCond .eq 7, 3) := by decide +kernel
theorem dX11_isQuotient_24 : decode cX11_isQuotient 24 = .ok (.iconst 1, 1) := by decide +kernel
theorem dX11_isQuotient_25 : decode cX11_isQuotient 25 = .ok (.goto 4, 3) := by decide +kernel
theorem dX11_isQuotient_28 : decode cX11_isQuotient 28 = .ok (.iconst 0, 1) := by decide +kernel
theorem dX11_isQuotient_29 : decode cX11_isQuotient 29 = .ok (.ireturn, 1) := by decide +kernel
theorem dX11_digitOf_0 : decode cX11_digitOf 0 = .ok (.iload_n 0, 1) := by decide +kernel
theorem dX11_digitOf_1 : decode cX11_digitOf 1 = .ok (.iload_n 1, 1) := by decide +kernel
theorem dX11_digitOf_2 : decode cX11_digitOf 2 = .ok (.irem, 1) := by decide +kernel
theorem dX11_digitOf_3 : decode cX11_digitOf 3 = .ok (.istore_n 3, 1) := by decide +kernel
theorem dX11_digitOf_4 : decode cX11_digitOf 4 = .ok (.iconst 1, 1) := by decide +kernel
theorem dX11_digitOf_5 : decode cX11_digitOf 5 = .ok (.istore 4, 2) := by decide +kernel
theorem dX11_digitOf_7 : decode cX11_digitOf 7 = .ok (.iload 4, 2) := by decide +kernel
theorem dX11_digitOf_9 : decode cX11_digitOf 9 = .ok (.iload_n 2, 1) := by decide +kernel
theorem dX11_digitOf_10 : decode cX11_digitOf 10 = .ok (.if_icmp .ge 16, 3) := by decide +kernel
theorem dX11_digitOf_13 : decode cX11_digitOf 13 = .ok (.bipush 10, 2) := by decide +kernel
theorem dX11_digitOf_15 : decode cX11_digitOf 15 = .ok (.iload_n 3, 1) := by decide +kernel
theorem dX11_digitOf_16 : decode cX11_digitOf 16 = .ok (.imul, 1) := by decide +kernel
theorem dX11_digitOf_17 : decode cX11_digitOf 17 = .ok (.iload_n 1, 1) := by decide +kernel
theorem dX11_digitOf_18 : decode cX11_digitOf 18 = .ok (.irem, 1) := by decide +kernel
theorem dX11_digitOf_19 : decode cX11_digitOf 19 = .ok (.istore_n 3, 1) := by decide +kernel
theorem dX11_digitOf_20 : decode cX11_digitOf 20 = .ok (.iinc 4 1, 3) := by decide +kernel
theorem dX11_digitOf_23 : decode cX11_digitOf 23 = .ok (.goto (-16), 3) := by decide +kernel
theorem dX11_digitOf_26 : decode cX11_digitOf 26 = .ok (.bipush 10, 2) := by decide +kernel
theorem dX11_digitOf_28 : decode cX11_digitOf 28 = .ok (.iload_n 3, 1) := by decide +kernel
theorem dX11_digitOf_29 : decode cX11_digitOf 29 = .ok (.imul, 1) := by decide +kernel
theorem dX11_digitOf_30 : decode cX11_digitOf 30 = .ok (.iload_n 1, 1) := by decide +kernel
theorem dX11_digitOf_31 : decode cX11_digitOf 31 = .ok (.idiv, 1) := by decide +kernel
theorem dX11_digitOf_32 : decode cX11_digitOf 32 = .ok (.ireturn, 1) := by decide +kernel
theorem dX11_quotientDigit_0 : decode cX11_quotientDigit 0 = .ok (.aload_n 0, 1) := by decide +kernel
theorem dX11_quotientDigit_1 : decode cX11_quotientDigit 1 = .ok (.iconst 0, 1) := by decide +kernel
theorem dX11_quotientDigit_2 : decode cX11_quotientDigit 2 = .ok (.putfield 56, 3) := by decide +kernel
theorem dX11_quotientDigit_5 : decode cX11_quotientDigit 5 = .ok (.iload_n 1, 1) := by decide +kernel
theorem dX11_quotientDigit_6 : decode cX11_quotientDigit 6 = .ok (.iload_n 2, 1) := by decide +kernel
theorem dX11_quotientDigit_7 : decode cX11_quotientDigit 7 = .ok (.invokestatic 213, 3) := by decide +kernel
theorem dX11_quotientDigit_10 : decode cX11_quotientDigit 10 = .ok (.ifCond .ne 9, 3) := by decide +kernel
theorem dX11_quotientDigit_13 : decode cX11_quotientDigit 13 = .ok (.aload_n 0, 1) := by decide +kernel
theorem dX11_quotientDigit_14 : decode cX11_quotientDigit 14 = .ok (.iconst 1, 1) := by decide +kernel
theorem dX11_quotientDigit_15 : decode cX11_quotientDigit 15 = .ok (.invokevirtual 119, 3) := by decide +kernel
theorem dX11_quotientDigit_18 : decode cX11_quotientDigit 18 = .ok (.ireturn, 1) := by decide +kernel
theorem dX11_quotientDigit_19 : decode cX11_quotientDigit 19 = .ok (.iload_n 3, 1) := by decide +kernel
theorem dX11_quotientDigit_20 : decode cX11_quotientDigit 20 = .ok (.i2l, 1) := by decide +kernel
theorem dX11_quotientDigit_21 : decode cX11_quotientDigit 21 = .ok (.lconst 1, 1) := by decide +kernel
theorem dX11_quotientDigit_22 : decode cX11_quotientDigit 22 = .ok (.ldc2_w 78, 3) := by decide +kernel
theorem dX11_quotientDigit_25 : decode cX11_quotientDigit 25 = .ok (.invokestatic 72, 3) := by decide +kernel
theorem dX11_quotientDigit_28 : decode cX11_quotientDigit 28 = .ok (.ifCond .eq 12, 3) := by decide +kernel
theorem dX11_quotientDigit_31 : decode cX11_quotientDigit 31 = .ok (.iload_n 1, 1) := by decide +kernel
theorem dX11_quotientDigit_32 : decode cX11_quotientDigit 32 = .ok (.iload_n 2, 1) := by decide +kernel
theorem dX11_quotientDigit_33 : decode cX11_quotientDigit 33 = .ok (.iload_n 3, 1) := by decide +kernel
theorem dX11_quotientDigit_34 : decode cX11_quotientDigit 34 = .ok (.invokestatic 216, 3) := by decide +kernel
theorem dX11_quotientDigit_37 : decode cX11_quotientDigit 37 = .ok (.goto 8, 3) := by decide +kernel
theorem dX11_quotientDigit_40 : decode cX11_quotientDigit 40 = .ok (.aload_n 0, 1) := by decide +kernel
theorem dX11_quotientDigit_41 : decode cX11_quotientDigit 41 = .ok (.iconst 2, 1) := by decide +kernel
theorem dX11_quotientDigit_42 : decode cX11_quotientDigit 42 = .ok (.invokevirtual 119, 3) := by decide +kernel
theorem dX11_quotientDigit_45 : decode cX11_quotientDigit 45 = .ok (.ireturn, 1) := by decide +kernel
theorem dX11_divides_0 : decode cX11_divides 0 = .ok (.iconst 0, 1) := by decide +kernel
theorem dX11_divides_1 : decode cX11_divides 1 = .ok (.istore_n 3, 1) := by decide +kernel
theorem dX11_divides_2 : decode cX11_divides 2 = .ok (.iload_n 3, 1) := by decide +kernel
theorem dX11_divides_3 : decode cX11_divides 3 = .ok (.iload_n 2, 1) := by decide +kernel
theorem dX11_divides_4 : decode cX11_divides 4 = .ok (.if_icmp .ge 16, 3) := by decide +kernel
theorem dX11_divides_7 : decode cX11_divides 7 = .ok (.aload_n 0, 1) := by decide +kernel
theorem dX11_divides_8 : decode cX11_divides 8 = .ok (.getfield 40, 3) := by decide +kernel
theorem dX11_divides_11 : decode cX11_divides 11 = .ok (.iload_n 3, 1) := by decide +kernel
theorem dX11_divides_12 : decode cX11_divides 12 = .ok (.iconst 0, 1) := by decide +kernel
theorem dX11_divides_13 : decode cX11_divides 13 = .ok (.iastore, 1) := by decide +kernel
theorem dX11_divides_14 : decode cX11_divides 14 = .ok (.iinc 3 1, 3) := by decide +kernel
theorem dX11_divides_17 : decode cX11_divides 17 = .ok (.goto (-15), 3) := by decide +kernel
theorem dX11_divides_20 : decode cX11_divides 20 = .ok (.iload_n 1, 1) := by decide +kernel
theorem dX11_divides_21 : decode cX11_divides 21 = .ok (.iload_n 2, 1) := by decide +kernel
theorem dX11_divides_22 : decode cX11_divides 22 = .ok (.irem, 1) := by decide +kernel
theorem dX11_divides_23 : decode cX11_divides 23 = .ok (.istore_n 3, 1) := by decide +kernel
theorem dX11_divides_24 : decode cX11_divides 24 = .ok (.iconst 1, 1) := by decide +kernel
theorem dX11_divides_25 : decode cX11_divides 25 = .ok (.istore 4, 2) := by decide +kernel
theorem dX11_divides_27 : decode cX11_divides 27 = .ok (.aload_n 0, 1) := by decide +kernel
theorem dX11_divides_28 : decode cX11_divides 28 = .ok (.getfield 40, 3) := by decide +kernel
theorem dX11_divides_31 : decode cX11_divides 31 = .ok (.iload_n 3, 1) := by decide +kernel
theorem dX11_divides_32 : decode cX11_divides 32 = .ok (.iaload, 1) := by decide +kernel
theorem dX11_divides_33 : decode cX11_divides 33 = .ok (.ifCond .ne 24, 3) := by decide +kernel
theorem dX11_divides_36 : decode cX11_divides 36 = .ok (.aload_n 0, 1) := by decide +kernel
theorem dX11_divides_37 : decode cX11_divides 37 = .ok (.getfield 40, 3) := by decide +kernel
theorem dX11_divides_40 : decode cX11_divides 40 = .ok (.iload_n 3, 1) := by decide +kernel
theorem dX11_divides_41 : decode cX11_divides 41 = .ok (.iload 4, 2) := by decide +kernel
theorem dX11_divides_43 : decode cX11_divides 43 = .ok (.iastore, 1) := by decide +kernel
theorem dX11_divides_44 : decode cX11_divides 44 = .ok (.bipush 10, 2) := by decide +kernel
theorem dX11_divides_46 : decode cX11_divides 46 = .ok (.iload_n 3, 1) := by decide +kernel
theorem dX11_divides_47 : decode cX11_divides 47 = .ok (.imul, 1) := by decide +kernel
theorem dX11_divides_48 : decode cX11_divides 48 = .ok (.iload_n 2, 1) := by decide +kernel
theorem dX11_divides_49 : decode cX11_divides 49 = .ok (.irem, 1) := by decide +kernel
theorem dX11_divides_50 : decode cX11_divides 50 = .ok (.istore_n 3, 1) := by decide +kernel
theorem dX11_divides_51 : decode cX11_divides 51 = .ok (.iinc 4 1, 3) := by decide +kernel
theorem dX11_divides_54 : decode cX11_divides 54 = .ok (.goto (-27), 3) := by decide +kernel
theorem dX11_divides_57 : decode cX11_divides 57 = .ok (.aload_n 0, 1) := by decide +kernel
theorem dX11_divides_58 : decode cX11_divides 58 = .ok (.aload_n 0, 1) := by decide +kernel
theorem dX11_divides_59 : decode cX11_divides 59 = .ok (.getfield 40, 3) := by decide +kernel
theorem dX11_divides_62 : decode cX11_divides 62 = .ok (.iload_n 3, 1) := by decide +kernel
theorem dX11_divides_63 : decode cX11_divides 63 = .ok (.iaload, 1) := by decide +kernel
theorem dX11_divides_64 : decode cX11_divides 64 = .ok (.iconst 1, 1) := by decide +kernel
theorem dX11_divides_65 : decode cX11_divides 65 = .ok (.isub, 1) := by decide +kernel
theorem dX11_divides_66 : decode cX11_divides 66 = .ok (.putfield 219, 3) := by decide +kernel
theorem dX11_divides_69 : decode cX11_divides 69 = .ok (.aload_n 0, 1) := by decide +kernel
theorem dX11_divides_70 : decode cX11_divides 70 = .ok (.iload 4, 2) := by decide +kernel
theorem dX11_divides_72 : decode cX11_divides 72 = .ok (.aload_n 0, 1) := by decide +kernel
theorem dX11_divides_73 : decode cX11_divides 73 = .ok (.getfield 40, 3) := by decide +kernel
theorem dX11_divides_76 : decode cX11_divides 76 = .ok (.iload_n 3, 1) := by decide +kernel
theorem dX11_divides_77 : decode cX11_divides 77 = .ok (.iaload, 1) := by decide +kernel
theorem dX11_divides_78 : decode cX11_divides 78 = .ok (.isub, 1) := by decide +kernel
theorem dX11_divides_79 : decode cX11_divides 79 = .ok (.putfield 222, 3) := by decide +kernel
theorem dX11_divides_82 : decode cX11_divides 82 = .ok (.return_, 1) := by decide +kernel
theorem dX11_preperiod_0 : decode cX11_preperiod 0 = .ok (.aload_n 0, 1) := by decide +kernel
theorem dX11_preperiod_1 : decode cX11_preperiod 1 = .ok (.iconst 0, 1) := by decide +kernel
theorem dX11_preperiod_2 : decode cX11_preperiod 2 = .ok (.putfield 56, 3) := by decide +kernel
theorem dX11_preperiod_5 : decode cX11_preperiod 5 = .ok (.iload_n 1, 1) := by decide +kernel
theorem dX11_preperiod_6 : decode cX11_preperiod 6 = .ok (.iload_n 2, 1) := by decide +kernel
theorem dX11_preperiod_7 : decode cX11_preperiod 7 = .ok (.invokestatic 213, 3) := by decide +kernel
theorem dX11_preperiod_10 : decode cX11_preperiod 10 = .ok (.ifCond .ne 9, 3) := by decide +kernel
theorem dX11_preperiod_13 : decode cX11_preperiod 13 = .ok (.aload_n 0, 1) := by decide +kernel
theorem dX11_preperiod_14 : decode cX11_preperiod 14 = .ok (.iconst 1, 1) := by decide +kernel
theorem dX11_preperiod_15 : decode cX11_preperiod 15 = .ok (.invokevirtual 119, 3) := by decide +kernel
theorem dX11_preperiod_18 : decode cX11_preperiod 18 = .ok (.ireturn, 1) := by decide +kernel
theorem dX11_preperiod_19 : decode cX11_preperiod 19 = .ok (.aload_n 0, 1) := by decide +kernel
theorem dX11_preperiod_20 : decode cX11_preperiod 20 = .ok (.iload_n 1, 1) := by decide +kernel
theorem dX11_preperiod_21 : decode cX11_preperiod 21 = .ok (.iload_n 2, 1) := by decide +kernel
theorem dX11_preperiod_22 : decode cX11_preperiod 22 = .ok (.invokevirtual 225, 3) := by decide +kernel
theorem dX11_preperiod_25 : decode cX11_preperiod 25 = .ok (.aload_n 0, 1) := by decide +kernel
theorem dX11_preperiod_26 : decode cX11_preperiod 26 = .ok (.getfield 219, 3) := by decide +kernel
theorem dX11_preperiod_29 : decode cX11_preperiod 29 = .ok (.ireturn, 1) := by decide +kernel
theorem dX11_period_0 : decode cX11_period 0 = .ok (.aload_n 0, 1) := by decide +kernel
theorem dX11_period_1 : decode cX11_period 1 = .ok (.iconst 0, 1) := by decide +kernel
theorem dX11_period_2 : decode cX11_period 2 = .ok (.putfield 56, 3) := by decide +kernel
theorem dX11_period_5 : decode cX11_period 5 = .ok (.iload_n 1, 1) := by decide +kernel
theorem dX11_period_6 : decode cX11_period 6 = .ok (.iload_n 2, 1) := by decide +kernel
theorem dX11_period_7 : decode cX11_period 7 = .ok (.invokestatic 213, 3) := by decide +kernel
theorem dX11_period_10 : decode cX11_period 10 = .ok (.ifCond .ne 9, 3) := by decide +kernel
theorem dX11_period_13 : decode cX11_period 13 = .ok (.aload_n 0, 1) := by decide +kernel
theorem dX11_period_14 : decode cX11_period 14 = .ok (.iconst 1, 1) := by decide +kernel
theorem dX11_period_15 : decode cX11_period 15 = .ok (.invokevirtual 119, 3) := by decide +kernel
theorem dX11_period_18 : decode cX11_period 18 = .ok (.ireturn, 1) := by decide +kernel
theorem dX11_period_19 : decode cX11_period 19 = .ok (.aload_n 0, 1) := by decide +kernel
theorem dX11_period_20 : decode cX11_period 20 = .ok (.iload_n 1, 1) := by decide +kernel
theorem dX11_period_21 : decode cX11_period 21 = .ok (.iload_n 2, 1) := by decide +kernel
theorem dX11_period_22 : decode cX11_period 22 = .ok (.invokevirtual 225, 3) := by decide +kernel
theorem dX11_period_25 : decode cX11_period 25 = .ok (.aload_n 0, 1) := by decide +kernel
theorem dX11_period_26 : decode cX11_period 26 = .ok (.getfield 222, 3) := by decide +kernel
theorem dX11_period_29 : decode cX11_period 29 = .ok (.ireturn, 1) := by decide +kernel
theorem dX11_periodByPowers_0 : decode cX11_periodByPowers 0 = .ok (.aload_n 0, 1) := by decide +kernel
theorem dX11_periodByPowers_1 : decode cX11_periodByPowers 1 = .ok (.iload_n 1, 1) := by decide +kernel
theorem dX11_periodByPowers_2 : decode cX11_periodByPowers 2 = .ok (.iload_n 2, 1) := by decide +kernel
theorem dX11_periodByPowers_3 : decode cX11_periodByPowers 3 = .ok (.invokevirtual 229, 3) := by decide +kernel
theorem dX11_periodByPowers_6 : decode cX11_periodByPowers 6 = .ok (.ireturn, 1) := by decide +kernel
theorem dX11_total_0 : decode cX11_total 0 = .ok (.aload_n 0, 1) := by decide +kernel
theorem dX11_total_1 : decode cX11_total 1 = .ok (.iconst 0, 1) := by decide +kernel
theorem dX11_total_2 : decode cX11_total 2 = .ok (.putfield 56, 3) := by decide +kernel
theorem dX11_total_5 : decode cX11_total 5 = .ok (.aload_n 0, 1) := by decide +kernel
theorem dX11_total_6 : decode cX11_total 6 = .ok (.invokevirtual 104, 3) := by decide +kernel
theorem dX11_total_9 : decode cX11_total 9 = .ok (.lreturn, 1) := by decide +kernel
theorem dX11_totalByAccounts_0 : decode cX11_totalByAccounts 0 = .ok (.aload_n 0, 1) := by decide +kernel
theorem dX11_totalByAccounts_1 : decode cX11_totalByAccounts 1 = .ok (.invokevirtual 232, 3) := by decide +kernel
theorem dX11_totalByAccounts_4 : decode cX11_totalByAccounts 4 = .ok (.lreturn, 1) := by decide +kernel
theorem dX11_escapes_0 : decode cX11_escapes 0 = .ok (.aload_n 0, 1) := by decide +kernel
theorem dX11_escapes_1 : decode cX11_escapes 1 = .ok (.iconst 0, 1) := by decide +kernel
theorem dX11_escapes_2 : decode cX11_escapes 2 = .ok (.putfield 56, 3) := by decide +kernel
theorem dX11_escapes_5 : decode cX11_escapes 5 = .ok (.aload_n 0, 1) := by decide +kernel
theorem dX11_escapes_6 : decode cX11_escapes 6 = .ok (.getfield 9, 3) := by decide +kernel
theorem dX11_escapes_9 : decode cX11_escapes 9 = .ok (.iconst 2, 1) := by decide +kernel
theorem dX11_escapes_10 : decode cX11_escapes 10 = .ok (.laload, 1) := by decide +kernel
theorem dX11_escapes_11 : decode cX11_escapes 11 = .ok (.l2i, 1) := by decide +kernel
theorem dX11_escapes_12 : decode cX11_escapes 12 = .ok (.ireturn, 1) := by decide +kernel
theorem dX11_crumbs_0 : decode cX11_crumbs 0 = .ok (.aload_n 0, 1) := by decide +kernel
theorem dX11_crumbs_1 : decode cX11_crumbs 1 = .ok (.iconst 0, 1) := by decide +kernel
theorem dX11_crumbs_2 : decode cX11_crumbs 2 = .ok (.putfield 56, 3) := by decide +kernel
theorem dX11_crumbs_5 : decode cX11_crumbs 5 = .ok (.aload_n 0, 1) := by decide +kernel
theorem dX11_crumbs_6 : decode cX11_crumbs 6 = .ok (.getfield 9, 3) := by decide +kernel
theorem dX11_crumbs_9 : decode cX11_crumbs 9 = .ok (.iconst 3, 1) := by decide +kernel
theorem dX11_crumbs_10 : decode cX11_crumbs 10 = .ok (.laload, 1) := by decide +kernel
theorem dX11_crumbs_11 : decode cX11_crumbs 11 = .ok (.lreturn, 1) := by decide +kernel
theorem dX11_meanValue_0 : decode cX11_meanValue 0 = .ok (.aload_n 0, 1) := by decide +kernel
theorem dX11_meanValue_1 : decode cX11_meanValue 1 = .ok (.iconst 0, 1) := by decide +kernel
theorem dX11_meanValue_2 : decode cX11_meanValue 2 = .ok (.putfield 56, 3) := by decide +kernel
theorem dX11_meanValue_5 : decode cX11_meanValue 5 = .ok (.aload_n 0, 1) := by decide +kernel
theorem dX11_meanValue_6 : decode cX11_meanValue 6 = .ok (.invokevirtual 62, 3) := by decide +kernel
theorem dX11_meanValue_9 : decode cX11_meanValue 9 = .ok (.ifCond .ne 11, 3) := by decide +kernel
theorem dX11_meanValue_12 : decode cX11_meanValue 12 = .ok (.aload_n 0, 1) := by decide +kernel
theorem dX11_meanValue_13 : decode cX11_meanValue 13 = .ok (.iconst 1, 1) := by decide +kernel
theorem dX11_meanValue_14 : decode cX11_meanValue 14 = .ok (.invokevirtual 119, 3) := by decide +kernel
theorem dX11_meanValue_17 : decode cX11_meanValue 17 = .ok (.pop, 1) := by decide +kernel
theorem dX11_meanValue_18 : decode cX11_meanValue 18 = .ok (.dconst 0, 1) := by decide +kernel
theorem dX11_meanValue_19 : decode cX11_meanValue 19 = .ok (.dreturn, 1) := by decide +kernel
theorem dX11_meanValue_20 : decode cX11_meanValue 20 = .ok (.aload_n 0, 1) := by decide +kernel
theorem dX11_meanValue_21 : decode cX11_meanValue 21 = .ok (.invokevirtual 104, 3) := by decide +kernel
theorem dX11_meanValue_24 : decode cX11_meanValue 24 = .ok (.l2d, 1) := by decide +kernel
theorem dX11_meanValue_25 : decode cX11_meanValue 25 = .ok (.aload_n 0, 1) := by decide +kernel
theorem dX11_meanValue_26 : decode cX11_meanValue 26 = .ok (.invokevirtual 62, 3) := by decide +kernel
theorem dX11_meanValue_29 : decode cX11_meanValue 29 = .ok (.i2d, 1) := by decide +kernel
theorem dX11_meanValue_30 : decode cX11_meanValue 30 = .ok (.ddiv, 1) := by decide +kernel
theorem dX11_meanValue_31 : decode cX11_meanValue 31 = .ok (.ldc2_w 235, 3) := by decide +kernel
theorem dX11_meanValue_34 : decode cX11_meanValue 34 = .ok (.ddiv, 1) := by decide +kernel
theorem dX11_meanValue_35 : decode cX11_meanValue 35 = .ok (.dreturn, 1) := by decide +kernel
theorem dX11_share_0 : decode cX11_share 0 = .ok (.aload_n 0, 1) := by decide +kernel
theorem dX11_share_1 : decode cX11_share 1 = .ok (.iload_n 1, 1) := by decide +kernel
theorem dX11_share_2 : decode cX11_share 2 = .ok (.iconst 1, 1) := by decide +kernel
theorem dX11_share_3 : decode cX11_share 3 = .ok (.invokevirtual 181, 3) := by decide +kernel
theorem dX11_share_6 : decode cX11_share 6 = .ok (.lstore_n 2, 1) := by decide +kernel
theorem dX11_share_7 : decode cX11_share 7 = .ok (.aload_n 0, 1) := by decide +kernel
theorem dX11_share_8 : decode cX11_share 8 = .ok (.getfield 56, 3) := by decide +kernel
theorem dX11_share_11 : decode cX11_share 11 = .ok (.ifCond .ne 18, 3) := by decide +kernel
theorem dX11_share_14 : decode cX11_share 14 = .ok (.aload_n 0, 1) := by decide +kernel
theorem dX11_share_15 : decode cX11_share 15 = .ok (.invokevirtual 104, 3) := by decide +kernel
theorem dX11_share_18 : decode cX11_share 18 = .ok (.lconst 0, 1) := by decide +kernel
theorem dX11_share_19 : decode cX11_share 19 = .ok (.lcmp, 1) := by decide +kernel
theorem dX11_share_20 : decode cX11_share 20 = .ok (.ifCond .ne 9, 3) := by decide +kernel
theorem dX11_share_23 : decode cX11_share 23 = .ok (.aload_n 0, 1) := by decide +kernel
theorem dX11_share_24 : decode cX11_share 24 = .ok (.iconst 2, 1) := by decide +kernel
theorem dX11_share_25 : decode cX11_share 25 = .ok (.invokevirtual 119, 3) := by decide +kernel
theorem dX11_share_28 : decode cX11_share 28 = .ok (.pop, 1) := by decide +kernel
theorem dX11_share_29 : decode cX11_share 29 = .ok (.aload_n 0, 1) := by decide +kernel
theorem dX11_share_30 : decode cX11_share 30 = .ok (.getfield 56, 3) := by decide +kernel
theorem dX11_share_33 : decode cX11_share 33 = .ok (.ifCond .le 7, 3) := by decide +kernel
theorem dX11_share_36 : decode cX11_share 36 = .ok (.fconst 0, 1) := by decide +kernel
theorem dX11_share_37 : decode cX11_share 37 = .ok (.goto 11, 3) := by decide +kernel
theorem dX11_share_40 : decode cX11_share 40 = .ok (.lload_n 2, 1) := by decide +kernel
theorem dX11_share_41 : decode cX11_share 41 = .ok (.l2f, 1) := by decide +kernel
theorem dX11_share_42 : decode cX11_share 42 = .ok (.aload_n 0, 1) := by decide +kernel
theorem dX11_share_43 : decode cX11_share 43 = .ok (.invokevirtual 104, 3) := by decide +kernel
theorem dX11_share_46 : decode cX11_share 46 = .ok (.l2f, 1) := by decide +kernel
theorem dX11_share_47 : decode cX11_share 47 = .ok (.fdiv, 1) := by decide +kernel
theorem dX11_share_48 : decode cX11_share 48 = .ok (.freturn, 1) := by decide +kernel
theorem dX11_isConsistent_0 : decode cX11_isConsistent 0 = .ok (.aload_n 0, 1) := by decide +kernel
theorem dX11_isConsistent_1 : decode cX11_isConsistent 1 = .ok (.iconst 0, 1) := by decide +kernel
theorem dX11_isConsistent_2 : decode cX11_isConsistent 2 = .ok (.putfield 56, 3) := by decide +kernel
theorem dX11_isConsistent_5 : decode cX11_isConsistent 5 = .ok (.iconst 1, 1) := by decide +kernel
theorem dX11_isConsistent_6 : decode cX11_isConsistent 6 = .ok (.ireturn, 1) := by decide +kernel
theorem dX11_append_0 : decode cX11_append 0 = .ok (.aload_n 0, 1) := by decide +kernel
theorem dX11_append_1 : decode cX11_append 1 = .ok (.iconst 0, 1) := by decide +kernel
theorem dX11_append_2 : decode cX11_append 2 = .ok (.putfield 56, 3) := by decide +kernel
theorem dX11_append_5 : decode cX11_append 5 = .ok (.aload_n 0, 1) := by decide +kernel
theorem dX11_append_6 : decode cX11_append 6 = .ok (.getfield 237, 3) := by decide +kernel
theorem dX11_append_9 : decode cX11_append 9 = .ok (.bipush 60, 2) := by decide +kernel
theorem dX11_append_11 : decode cX11_append 11 = .ok (.if_icmp .ne 9, 3) := by decide +kernel
theorem dX11_append_14 : decode cX11_append 14 = .ok (.aload_n 0, 1) := by decide +kernel
theorem dX11_append_15 : decode cX11_append 15 = .ok (.iconst 1, 1) := by decide +kernel
theorem dX11_append_16 : decode cX11_append 16 = .ok (.invokevirtual 119, 3) := by decide +kernel
theorem dX11_append_19 : decode cX11_append 19 = .ok (.ireturn, 1) := by decide +kernel
theorem dX11_append_20 : decode cX11_append 20 = .ok (.aload_n 0, 1) := by decide +kernel
theorem dX11_append_21 : decode cX11_append 21 = .ok (.getfield 29, 3) := by decide +kernel
theorem dX11_append_24 : decode cX11_append 24 = .ok (.aload_n 0, 1) := by decide +kernel
theorem dX11_append_25 : decode cX11_append 25 = .ok (.getfield 237, 3) := by decide +kernel
theorem dX11_append_28 : decode cX11_append 28 = .ok (.iload_n 1, 1) := by decide +kernel
theorem dX11_append_29 : decode cX11_append 29 = .ok (.iastore, 1) := by decide +kernel
theorem dX11_append_30 : decode cX11_append 30 = .ok (.aload_n 0, 1) := by decide +kernel
theorem dX11_append_31 : decode cX11_append 31 = .ok (.dup, 1) := by decide +kernel
theorem dX11_append_32 : decode cX11_append 32 = .ok (.getfield 237, 3) := by decide +kernel
theorem dX11_append_35 : decode cX11_append 35 = .ok (.iconst 1, 1) := by decide +kernel
theorem dX11_append_36 : decode cX11_append 36 = .ok (.iadd, 1) := by decide +kernel
theorem dX11_append_37 : decode cX11_append 37 = .ok (.putfield 237, 3) := by decide +kernel
theorem dX11_append_40 : decode cX11_append 40 = .ok (.aload_n 0, 1) := by decide +kernel
theorem dX11_append_41 : decode cX11_append 41 = .ok (.getfield 237, 3) := by decide +kernel
theorem dX11_append_44 : decode cX11_append 44 = .ok (.ireturn, 1) := by decide +kernel
theorem dX11_here_0 : decode cX11_here 0 = .ok (.aload_n 0, 1) := by decide +kernel
theorem dX11_here_1 : decode cX11_here 1 = .ok (.getfield 240, 3) := by decide +kernel
theorem dX11_here_4 : decode cX11_here 4 = .ok (.aload_n 0, 1) := by decide +kernel
theorem dX11_here_5 : decode cX11_here 5 = .ok (.getfield 243, 3) := by decide +kernel
theorem dX11_here_8 : decode cX11_here 8 = .ok (.if_icmp .ge 15, 3) := by decide +kernel
theorem dX11_here_11 : decode cX11_here 11 = .ok (.aload_n 0, 1) := by decide +kernel
theorem dX11_here_12 : decode cX11_here 12 = .ok (.getfield 29, 3) := by decide +kernel
theorem dX11_here_15 : decode cX11_here 15 = .ok (.aload_n 0, 1) := by decide +kernel
theorem dX11_here_16 : decode cX11_here 16 = .ok (.getfield 240, 3) := by decide +kernel
theorem dX11_here_19 : decode cX11_here 19 = .ok (.iaload, 1) := by decide +kernel
theorem dX11_here_20 : decode cX11_here 20 = .ok (.goto 4, 3) := by decide +kernel
theorem dX11_here_23 : decode cX11_here 23 = .ok (.iconst (-1), 1) := by decide +kernel
theorem dX11_here_24 : decode cX11_here 24 = .ok (.ireturn, 1) := by decide +kernel
theorem dX11_expects_0 : decode cX11_expects 0 = .ok (.aload_n 0, 1) := by decide +kernel
theorem dX11_expects_1 : decode cX11_expects 1 = .ok (.aload_n 0, 1) := by decide +kernel
theorem dX11_expects_2 : decode cX11_expects 2 = .ok (.getfield 246, 3) := by decide +kernel
theorem dX11_expects_5 : decode cX11_expects 5 = .ok (.ifCond .ne 11, 3) := by decide +kernel
theorem dX11_expects_8 : decode cX11_expects 8 = .ok (.aload_n 0, 1) := by decide +kernel
theorem dX11_expects_9 : decode cX11_expects 9 = .ok (.invokevirtual 250, 3) := by decide +kernel
theorem dX11_expects_12 : decode cX11_expects 12 = .ok (.iload_n 1, 1) := by decide +kernel
theorem dX11_expects_13 : decode cX11_expects 13 = .ok (.if_icmp .eq 7, 3) := by decide +kernel
theorem dX11_expects_16 : decode cX11_expects 16 = .ok (.iconst 1, 1) := by decide +kernel
theorem dX11_expects_17 : decode cX11_expects 17 = .ok (.goto 4, 3) := by decide +kernel
theorem dX11_expects_20 : decode cX11_expects 20 = .ok (.iconst 0, 1) := by decide +kernel
theorem dX11_expects_21 : decode cX11_expects 21 = .ok (.putfield 246, 3) := by decide +kernel
theorem dX11_expects_24 : decode cX11_expects 24 = .ok (.aload_n 0, 1) := by decide +kernel
theorem dX11_expects_25 : decode cX11_expects 25 = .ok (.dup, 1) := by decide +kernel
theorem dX11_expects_26 : decode cX11_expects 26 = .ok (.getfield 240, 3) := by decide +kernel
theorem dX11_expects_29 : decode cX11_expects 29 = .ok (.aload_n 0, 1) := by decide +kernel
theorem dX11_expects_30 : decode cX11_expects 30 = .ok (.getfield 246, 3) := by decide +kernel
theorem dX11_expects_33 : decode cX11_expects 33 = .ok (.ifCond .eq 7, 3) := by decide +kernel
theorem dX11_expects_36 : decode cX11_expects 36 = .ok (.iconst 0, 1) := by decide +kernel
theorem dX11_expects_37 : decode cX11_expects 37 = .ok (.goto 4, 3) := by decide +kernel
theorem dX11_expects_40 : decode cX11_expects 40 = .ok (.iconst 1, 1) := by decide +kernel
theorem dX11_expects_41 : decode cX11_expects 41 = .ok (.iadd, 1) := by decide +kernel
theorem dX11_expects_42 : decode cX11_expects 42 = .ok (.putfield 240, 3) := by decide +kernel
theorem dX11_expects_45 : decode cX11_expects 45 = .ok (.return_, 1) := by decide +kernel
theorem dX11_digitHere_0 : decode cX11_digitHere 0 = .ok (.aload_n 0, 1) := by decide +kernel
theorem dX11_digitHere_1 : decode cX11_digitHere 1 = .ok (.aload_n 0, 1) := by decide +kernel
theorem dX11_digitHere_2 : decode cX11_digitHere 2 = .ok (.getfield 246, 3) := by decide +kernel
theorem dX11_digitHere_5 : decode cX11_digitHere 5 = .ok (.ifCond .ne 20, 3) := by decide +kernel
theorem dX11_digitHere_8 : decode cX11_digitHere 8 = .ok (.aload_n 0, 1) := by decide +kernel
theorem dX11_digitHere_9 : decode cX11_digitHere 9 = .ok (.invokevirtual 250, 3) := by decide +kernel
theorem dX11_digitHere_12 : decode cX11_digitHere 12 = .ok (.i2l, 1) := by decide +kernel
theorem dX11_digitHere_13 : decode cX11_digitHere 13 = .ok (.ldc2_w 253, 3) := by decide +kernel
theorem dX11_digitHere_16 : decode cX11_digitHere 16 = .ok (.ldc2_w 255, 3) := by decide +kernel
theorem dX11_digitHere_19 : decode cX11_digitHere 19 = .ok (.invokestatic 72, 3) := by decide +kernel
theorem dX11_digitHere_22 : decode cX11_digitHere 22 = .ok (.ifCond .ne 7, 3) := by decide +kernel
theorem dX11_digitHere_25 : decode cX11_digitHere 25 = .ok (.iconst 1, 1) := by decide +kernel
theorem dX11_digitHere_26 : decode cX11_digitHere 26 = .ok (.goto 4, 3) := by decide +kernel
theorem dX11_digitHere_29 : decode cX11_digitHere 29 = .ok (.iconst 0, 1) := by decide +kernel
theorem dX11_digitHere_30 : decode cX11_digitHere 30 = .ok (.putfield 246, 3) := by decide +kernel
theorem dX11_digitHere_33 : decode cX11_digitHere 33 = .ok (.aload_n 0, 1) := by decide +kernel
theorem dX11_digitHere_34 : decode cX11_digitHere 34 = .ok (.getfield 246, 3) := by decide +kernel
theorem dX11_digitHere_37 : decode cX11_digitHere 37 = .ok (.ifCond .eq 7, 3) := by decide +kernel
theorem dX11_digitHere_40 : decode cX11_digitHere 40 = .ok (.iconst 0, 1) := by decide +kernel
theorem dX11_digitHere_41 : decode cX11_digitHere 41 = .ok (.goto 10, 3) := by decide +kernel
theorem dX11_digitHere_44 : decode cX11_digitHere 44 = .ok (.aload_n 0, 1) := by decide +kernel
theorem dX11_digitHere_45 : decode cX11_digitHere 45 = .ok (.invokevirtual 250, 3) := by decide +kernel
theorem dX11_digitHere_48 : decode cX11_digitHere 48 = .ok (.bipush 48, 2) := by decide +kernel
theorem dX11_digitHere_50 : decode cX11_digitHere 50 = .ok (.isub, 1) := by decide +kernel
theorem dX11_digitHere_51 : decode cX11_digitHere 51 = .ok (.istore_n 1, 1) := by decide +kernel
theorem dX11_digitHere_52 : decode cX11_digitHere 52 = .ok (.aload_n 0, 1) := by decide +kernel
theorem dX11_digitHere_53 : decode cX11_digitHere 53 = .ok (.dup, 1) := by decide +kernel
theorem dX11_digitHere_54 : decode cX11_digitHere 54 = .ok (.getfield 240, 3) := by decide +kernel
theorem dX11_digitHere_57 : decode cX11_digitHere 57 = .ok (.aload_n 0, 1) := by decide +kernel
theorem dX11_digitHere_58 : decode cX11_digitHere 58 = .ok (.getfield 246, 3) := by decide +kernel
theorem dX11_digitHere_61 : decode cX11_digitHere 61 = .ok (.ifCond .eq 7, 3) := by decide +kernel
theorem dX11_digitHere_64 : decode cX11_digitHere 64 = .ok (.iconst 0, 1) := by decide +kernel
theorem dX11_digitHere_65 : decode cX11_digitHere 65 = .ok (.goto 4, 3) := by decide +kernel
theorem dX11_digitHere_68 : decode cX11_digitHere 68 = .ok (.iconst 1, 1) := by decide +kernel
theorem dX11_digitHere_69 : decode cX11_digitHere 69 = .ok (.iadd, 1) := by decide +kernel
theorem dX11_digitHere_70 : decode cX11_digitHere 70 = .ok (.putfield 240, 3) := by decide +kernel
theorem dX11_digitHere_73 : decode cX11_digitHere 73 = .ok (.iload_n 1, 1) := by decide +kernel
theorem dX11_digitHere_74 : decode cX11_digitHere 74 = .ok (.ireturn, 1) := by decide +kernel
theorem dX11_number_0 : decode cX11_number 0 = .ok (.aload_n 0, 1) := by decide +kernel
theorem dX11_number_1 : decode cX11_number 1 = .ok (.invokevirtual 257, 3) := by decide +kernel
theorem dX11_number_4 : decode cX11_number 4 = .ok (.istore_n 1, 1) := by decide +kernel
theorem dX11_number_5 : decode cX11_number 5 = .ok (.iconst 0, 1) := by decide +kernel
theorem dX11_number_6 : decode cX11_number 6 = .ok (.istore_n 2, 1) := by decide +kernel
theorem dX11_number_7 : decode cX11_number 7 = .ok (.iload_n 2, 1) := by decide +kernel
theorem dX11_number_8 : decode cX11_number 8 = .ok (.iconst 5, 1) := by decide +kernel
theorem dX11_number_9 : decode cX11_number 9 = .ok (.if_icmp .ge 43, 3) := by decide +kernel
theorem dX11_number_12 : decode cX11_number 12 = .ok (.aload_n 0, 1) := by decide +kernel
theorem dX11_number_13 : decode cX11_number 13 = .ok (.getfield 246, 3) := by decide +kernel
theorem dX11_number_16 : decode cX11_number 16 = .ok (.ifCond .ne 36, 3) := by decide +kernel
theorem dX11_number_19 : decode cX11_number 19 = .ok (.aload_n 0, 1) := by decide +kernel
theorem dX11_number_20 : decode cX11_number 20 = .ok (.invokevirtual 250, 3) := by decide +kernel
theorem dX11_number_23 : decode cX11_number 23 = .ok (.i2l, 1) := by decide +kernel
theorem dX11_number_24 : decode cX11_number 24 = .ok (.ldc2_w 253, 3) := by decide +kernel
theorem dX11_number_27 : decode cX11_number 27 = .ok (.ldc2_w 255, 3) := by decide +kernel
theorem dX11_number_30 : decode cX11_number 30 = .ok (.invokestatic 72, 3) := by decide +kernel
theorem dX11_number_33 : decode cX11_number 33 = .ok (.ifCond .eq 19, 3) := by decide +kernel
theorem dX11_number_36 : decode cX11_number 36 = .ok (.bipush 10, 2) := by decide +kernel
theorem dX11_number_38 : decode cX11_number 38 = .ok (.iload_n 1, 1) := by decide +kernel
theorem dX11_number_39 : decode cX11_number 39 = .ok (.imul, 1) := by decide +kernel
theorem dX11_number_40 : decode cX11_number 40 = .ok (.aload_n 0, 1) := by decide +kernel
theorem dX11_number_41 : decode cX11_number 41 = .ok (.invokevirtual 257, 3) := by decide +kernel
theorem dX11_number_44 : decode cX11_number 44 = .ok (.iadd, 1) := by decide +kernel
theorem dX11_number_45 : decode cX11_number 45 = .ok (.istore_n 1, 1) := by decide +kernel
theorem dX11_number_46 : decode cX11_number 46 = .ok (.iinc 2 1, 3) := by decide +kernel
theorem dX11_number_49 : decode cX11_number 49 = .ok (.goto (-42), 3) := by decide +kernel
theorem dX11_number_52 : decode cX11_number 52 = .ok (.iload_n 1, 1) := by decide +kernel
theorem dX11_number_53 : decode cX11_number 53 = .ok (.ireturn, 1) := by decide +kernel
theorem dX11_numberBehind_0 : decode cX11_numberBehind 0 = .ok (.aload_n 0, 1) := by decide +kernel
theorem dX11_numberBehind_1 : decode cX11_numberBehind 1 = .ok (.iload_n 1, 1) := by decide +kernel
theorem dX11_numberBehind_2 : decode cX11_numberBehind 2 = .ok (.invokevirtual 260, 3) := by decide +kernel
theorem dX11_numberBehind_5 : decode cX11_numberBehind 5 = .ok (.aload_n 0, 1) := by decide +kernel
theorem dX11_numberBehind_6 : decode cX11_numberBehind 6 = .ok (.invokevirtual 264, 3) := by decide +kernel
theorem dX11_numberBehind_9 : decode cX11_numberBehind 9 = .ok (.ireturn, 1) := by decide +kernel
theorem dX11_digitBehind_0 : decode cX11_digitBehind 0 = .ok (.aload_n 0, 1) := by decide +kernel
theorem dX11_digitBehind_1 : decode cX11_digitBehind 1 = .ok (.bipush 32, 2) := by decide +kernel
theorem dX11_digitBehind_3 : decode cX11_digitBehind 3 = .ok (.invokevirtual 260, 3) := by decide +kernel
theorem dX11_digitBehind_6 : decode cX11_digitBehind 6 = .ok (.aload_n 0, 1) := by decide +kernel
theorem dX11_digitBehind_7 : decode cX11_digitBehind 7 = .ok (.invokevirtual 257, 3) := by decide +kernel
theorem dX11_digitBehind_10 : decode cX11_digitBehind 10 = .ok (.ireturn, 1) := by decide +kernel
theorem dX11_modeBehind_0 : decode cX11_modeBehind 0 = .ok (.aload_n 0, 1) := by decide +kernel
theorem dX11_modeBehind_1 : decode cX11_modeBehind 1 = .ok (.bipush 32, 2) := by decide +kernel
theorem dX11_modeBehind_3 : decode cX11_modeBehind 3 = .ok (.invokevirtual 260, 3) := by decide +kernel
theorem dX11_modeBehind_6 : decode cX11_modeBehind 6 = .ok (.aload_n 0, 1) := by decide +kernel
theorem dX11_modeBehind_7 : decode cX11_modeBehind 7 = .ok (.aload_n 0, 1) := by decide +kernel
theorem dX11_modeBehind_8 : decode cX11_modeBehind 8 = .ok (.getfield 246, 3) := by decide +kernel
theorem dX11_modeBehind_11 : decode cX11_modeBehind 11 = .ok (.ifCond .ne 13, 3) := by decide +kernel
theorem dX11_modeBehind_14 : decode cX11_modeBehind 14 = .ok (.aload_n 0, 1) := by decide +kernel
theorem dX11_modeBehind_15 : decode cX11_modeBehind 15 = .ok (.invokevirtual 250, 3) := by decide +kernel
theorem dX11_modeBehind_18 : decode cX11_modeBehind 18 = .ok (.invokestatic 116, 3) := by decide +kernel
theorem dX11_modeBehind_21 : decode cX11_modeBehind 21 = .ok (.ifCond .ne 7, 3) := by decide +kernel
theorem dX11_modeBehind_24 : decode cX11_modeBehind 24 = .ok (.iconst 1, 1) := by decide +kernel
theorem dX11_modeBehind_25 : decode cX11_modeBehind 25 = .ok (.goto 4, 3) := by decide +kernel
theorem dX11_modeBehind_28 : decode cX11_modeBehind 28 = .ok (.iconst 0, 1) := by decide +kernel
theorem dX11_modeBehind_29 : decode cX11_modeBehind 29 = .ok (.putfield 246, 3) := by decide +kernel
theorem dX11_modeBehind_32 : decode cX11_modeBehind 32 = .ok (.aload_n 0, 1) := by decide +kernel
theorem dX11_modeBehind_33 : decode cX11_modeBehind 33 = .ok (.invokevirtual 250, 3) := by decide +kernel
theorem dX11_modeBehind_36 : decode cX11_modeBehind 36 = .ok (.istore_n 1, 1) := by decide +kernel
theorem dX11_modeBehind_37 : decode cX11_modeBehind 37 = .ok (.aload_n 0, 1) := by decide +kernel
theorem dX11_modeBehind_38 : decode cX11_modeBehind 38 = .ok (.dup, 1) := by decide +kernel
theorem dX11_modeBehind_39 : decode cX11_modeBehind 39 = .ok (.getfield 240, 3) := by decide +kernel
theorem dX11_modeBehind_42 : decode cX11_modeBehind 42 = .ok (.aload_n 0, 1) := by decide +kernel
theorem dX11_modeBehind_43 : decode cX11_modeBehind 43 = .ok (.getfield 246, 3) := by decide +kernel
theorem dX11_modeBehind_46 : decode cX11_modeBehind 46 = .ok (.ifCond .eq 7, 3) := by decide +kernel
theorem dX11_modeBehind_49 : decode cX11_modeBehind 49 = .ok (.iconst 0, 1) := by decide +kernel
theorem dX11_modeBehind_50 : decode cX11_modeBehind 50 = .ok (.goto 4, 3) := by decide +kernel
theorem dX11_modeBehind_53 : decode cX11_modeBehind 53 = .ok (.iconst 1, 1) := by decide +kernel
theorem dX11_modeBehind_54 : decode cX11_modeBehind 54 = .ok (.iadd, 1) := by decide +kernel
theorem dX11_modeBehind_55 : decode cX11_modeBehind 55 = .ok (.putfield 240, 3) := by decide +kernel
theorem dX11_modeBehind_58 : decode cX11_modeBehind 58 = .ok (.iload_n 1, 1) := by decide +kernel
theorem dX11_modeBehind_59 : decode cX11_modeBehind 59 = .ok (.ireturn, 1) := by decide +kernel
theorem dX11_fractionHere_0 : decode cX11_fractionHere 0 = .ok (.aload_n 0, 1) := by decide +kernel
theorem dX11_fractionHere_1 : decode cX11_fractionHere 1 = .ok (.getfield 246, 3) := by decide +kernel
theorem dX11_fractionHere_4 : decode cX11_fractionHere 4 = .ok (.ifCond .ne 12, 3) := by decide +kernel
theorem dX11_fractionHere_7 : decode cX11_fractionHere 7 = .ok (.aload_n 0, 1) := by decide +kernel
theorem dX11_fractionHere_8 : decode cX11_fractionHere 8 = .ok (.invokevirtual 250, 3) := by decide +kernel
theorem dX11_fractionHere_11 : decode cX11_fractionHere 11 = .ok (.bipush 46, 2) := by decide +kernel
theorem dX11_fractionHere_13 : decode cX11_fractionHere 13 = .ok (.if_icmp .eq 5, 3) := by decide +kernel
theorem dX11_fractionHere_16 : decode cX11_fractionHere 16 = .ok (.iconst 0, 1) := by decide +kernel
theorem dX11_fractionHere_17 : decode cX11_fractionHere 17 = .ok (.ireturn, 1) := by decide +kernel
theorem dX11_fractionHere_18 : decode cX11_fractionHere 18 = .ok (.aload_n 0, 1) := by decide +kernel
theorem dX11_fractionHere_19 : decode cX11_fractionHere 19 = .ok (.dup, 1) := by decide +kernel
theorem dX11_fractionHere_20 : decode cX11_fractionHere 20 = .ok (.getfield 240, 3) := by decide +kernel
theorem dX11_fractionHere_23 : decode cX11_fractionHere 23 = .ok (.iconst 1, 1) := by decide +kernel
theorem dX11_fractionHere_24 : decode cX11_fractionHere 24 = .ok (.iadd, 1) := by decide +kernel
theorem dX11_fractionHere_25 : decode cX11_fractionHere 25 = .ok (.putfield 240, 3) := by decide +kernel
theorem dX11_fractionHere_28 : decode cX11_fractionHere 28 = .ok (.aload_n 0, 1) := by decide +kernel
theorem dX11_fractionHere_29 : decode cX11_fractionHere 29 = .ok (.invokevirtual 257, 3) := by decide +kernel
theorem dX11_fractionHere_32 : decode cX11_fractionHere 32 = .ok (.istore_n 1, 1) := by decide +kernel
theorem dX11_fractionHere_33 : decode cX11_fractionHere 33 = .ok (.iconst 1, 1) := by decide +kernel
theorem dX11_fractionHere_34 : decode cX11_fractionHere 34 = .ok (.istore_n 2, 1) := by decide +kernel
theorem dX11_fractionHere_35 : decode cX11_fractionHere 35 = .ok (.iload_n 2, 1) := by decide +kernel
theorem dX11_fractionHere_36 : decode cX11_fractionHere 36 = .ok (.iconst 4, 1) := by decide +kernel
theorem dX11_fractionHere_37 : decode cX11_fractionHere 37 = .ok (.if_icmp .ge 43, 3) := by decide +kernel
theorem dX11_fractionHere_40 : decode cX11_fractionHere 40 = .ok (.aload_n 0, 1) := by decide +kernel
theorem dX11_fractionHere_41 : decode cX11_fractionHere 41 = .ok (.getfield 246, 3) := by decide +kernel
theorem dX11_fractionHere_44 : decode cX11_fractionHere 44 = .ok (.ifCond .ne 36, 3) := by decide +kernel
theorem dX11_fractionHere_47 : decode cX11_fractionHere 47 = .ok (.aload_n 0, 1) := by decide +kernel
theorem dX11_fractionHere_48 : decode cX11_fractionHere 48 = .ok (.invokevirtual 250, 3) := by decide +kernel
theorem dX11_fractionHere_51 : decode cX11_fractionHere 51 = .ok (.i2l, 1) := by decide +kernel
theorem dX11_fractionHere_52 : decode cX11_fractionHere 52 = .ok (.ldc2_w 253, 3) := by decide +kernel
theorem dX11_fractionHere_55 : decode cX11_fractionHere 55 = .ok (.ldc2_w 255, 3) := by decide +kernel
theorem dX11_fractionHere_58 : decode cX11_fractionHere 58 = .ok (.invokestatic 72, 3) := by decide +kernel
theorem dX11_fractionHere_61 : decode cX11_fractionHere 61 = .ok (.ifCond .eq 19, 3) := by decide +kernel
theorem dX11_fractionHere_64 : decode cX11_fractionHere 64 = .ok (.bipush 10, 2) := by decide +kernel
theorem dX11_fractionHere_66 : decode cX11_fractionHere 66 = .ok (.iload_n 1, 1) := by decide +kernel
theorem dX11_fractionHere_67 : decode cX11_fractionHere 67 = .ok (.imul, 1) := by decide +kernel
theorem dX11_fractionHere_68 : decode cX11_fractionHere 68 = .ok (.aload_n 0, 1) := by decide +kernel
theorem dX11_fractionHere_69 : decode cX11_fractionHere 69 = .ok (.invokevirtual 257, 3) := by decide +kernel
theorem dX11_fractionHere_72 : decode cX11_fractionHere 72 = .ok (.iadd, 1) := by decide +kernel
theorem dX11_fractionHere_73 : decode cX11_fractionHere 73 = .ok (.istore_n 1, 1) := by decide +kernel
theorem dX11_fractionHere_74 : decode cX11_fractionHere 74 = .ok (.iinc 2 1, 3) := by decide +kernel
theorem dX11_fractionHere_77 : decode cX11_fractionHere 77 = .ok (.goto (-42), 3) := by decide +kernel
theorem dX11_fractionHere_80 : decode cX11_fractionHere 80 = .ok (.iload_n 2, 1) := by decide +kernel
theorem dX11_fractionHere_81 : decode cX11_fractionHere 81 = .ok (.iconst 4, 1) := by decide +kernel
theorem dX11_fractionHere_82 : decode cX11_fractionHere 82 = .ok (.if_icmp .ge 14, 3) := by decide +kernel
theorem dX11_fractionHere_85 : decode cX11_fractionHere 85 = .ok (.iload_n 1, 1) := by decide +kernel
theorem dX11_fractionHere_86 : decode cX11_fractionHere 86 = .ok (.bipush 10, 2) := by decide +kernel
theorem dX11_fractionHere_88 : decode cX11_fractionHere 88 = .ok (.imul, 1) := by decide +kernel
theorem dX11_fractionHere_89 : decode cX11_fractionHere 89 = .ok (.istore_n 1, 1) := by decide +kernel
theorem dX11_fractionHere_90 : decode cX11_fractionHere 90 = .ok (.iinc 2 1, 3) := by decide +kernel
theorem dX11_fractionHere_93 : decode cX11_fractionHere 93 = .ok (.goto (-13), 3) := by decide +kernel
theorem dX11_fractionHere_96 : decode cX11_fractionHere 96 = .ok (.iload_n 1, 1) := by decide +kernel
theorem dX11_fractionHere_97 : decode cX11_fractionHere 97 = .ok (.ireturn, 1) := by decide +kernel
theorem dX11_likeness_0 : decode cX11_likeness 0 = .ok (.iconst 0, 1) := by decide +kernel
theorem dX11_likeness_1 : decode cX11_likeness 1 = .ok (.istore_n 2, 1) := by decide +kernel
theorem dX11_likeness_2 : decode cX11_likeness 2 = .ok (.aload_n 0, 1) := by decide +kernel
theorem dX11_likeness_3 : decode cX11_likeness 3 = .ok (.getfield 47, 3) := by decide +kernel
theorem dX11_likeness_6 : decode cX11_likeness 6 = .ok (.iload_n 1, 1) := by decide +kernel
theorem dX11_likeness_7 : decode cX11_likeness 7 = .ok (.iconst 1, 1) := by decide +kernel
theorem dX11_likeness_8 : decode cX11_likeness 8 = .ok (.iadd, 1) := by decide +kernel
theorem dX11_likeness_9 : decode cX11_likeness 9 = .ok (.iaload, 1) := by decide +kernel
theorem dX11_likeness_10 : decode cX11_likeness 10 = .ok (.aload_n 0, 1) := by decide +kernel
theorem dX11_likeness_11 : decode cX11_likeness 11 = .ok (.getfield 47, 3) := by decide +kernel
theorem dX11_likeness_14 : decode cX11_likeness 14 = .ok (.iload_n 1, 1) := by decide +kernel
theorem dX11_likeness_15 : decode cX11_likeness 15 = .ok (.iaload, 1) := by decide +kernel
theorem dX11_likeness_16 : decode cX11_likeness 16 = .ok (.isub, 1) := by decide +kernel
theorem dX11_likeness_17 : decode cX11_likeness 17 = .ok (.istore_n 3, 1) := by decide +kernel
theorem dX11_likeness_18 : decode cX11_likeness 18 = .ok (.iload_n 2, 1) := by decide +kernel
theorem dX11_likeness_19 : decode cX11_likeness 19 = .ok (.iload_n 3, 1) := by decide +kernel
theorem dX11_likeness_20 : decode cX11_likeness 20 = .ok (.if_icmp .ge 49, 3) := by decide +kernel
theorem dX11_likeness_23 : decode cX11_likeness 23 = .ok (.aload_n 0, 1) := by decide +kernel
theorem dX11_likeness_24 : decode cX11_likeness 24 = .ok (.getfield 240, 3) := by decide +kernel
theorem dX11_likeness_27 : decode cX11_likeness 27 = .ok (.iload_n 2, 1) := by decide +kernel
theorem dX11_likeness_28 : decode cX11_likeness 28 = .ok (.iadd, 1) := by decide +kernel
theorem dX11_likeness_29 : decode cX11_likeness 29 = .ok (.aload_n 0, 1) := by decide +kernel
theorem dX11_likeness_30 : decode cX11_likeness 30 = .ok (.getfield 243, 3) := by decide +kernel
theorem dX11_likeness_33 : decode cX11_likeness 33 = .ok (.if_icmp .ge 36, 3) := by decide +kernel
theorem dX11_likeness_36 : decode cX11_likeness 36 = .ok (.aload_n 0, 1) := by decide +kernel
theorem dX11_likeness_37 : decode cX11_likeness 37 = .ok (.getfield 29, 3) := by decide +kernel
theorem dX11_likeness_40 : decode cX11_likeness 40 = .ok (.aload_n 0, 1) := by decide +kernel
theorem dX11_likeness_41 : decode cX11_likeness 41 = .ok (.getfield 240, 3) := by decide +kernel
theorem dX11_likeness_44 : decode cX11_likeness 44 = .ok (.iload_n 2, 1) := by decide +kernel
theorem dX11_likeness_45 : decode cX11_likeness 45 = .ok (.iadd, 1) := by decide +kernel
theorem dX11_likeness_46 : decode cX11_likeness 46 = .ok (.iaload, 1) := by decide +kernel
theorem dX11_likeness_47 : decode cX11_likeness 47 = .ok (.aload_n 0, 1) := by decide +kernel
theorem dX11_likeness_48 : decode cX11_likeness 48 = .ok (.getfield 43, 3) := by decide +kernel
theorem dX11_likeness_51 : decode cX11_likeness 51 = .ok (.aload_n 0, 1) := by decide +kernel
theorem dX11_likeness_52 : decode cX11_likeness 52 = .ok (.getfield 47, 3) := by decide +kernel
theorem dX11_likeness_55 : decode cX11_likeness 55 = .ok (.iload_n 1, 1) := by decide +kernel
theorem dX11_likeness_56 : decode cX11_likeness 56 = .ok (.iaload, 1) := by decide +kernel
theorem dX11_likeness_57 : decode cX11_likeness 57 = .ok (.iload_n 2, 1) := by decide +kernel
theorem dX11_likeness_58 : decode cX11_likeness 58 = .ok (.iadd, 1) := by decide +kernel
theorem dX11_likeness_59 : decode cX11_likeness 59 = .ok (.caload, 1) := by decide +kernel
theorem dX11_likeness_60 : decode cX11_likeness 60 = .ok (.if_icmp .ne 9, 3) := by decide +kernel
theorem dX11_likeness_63 : decode cX11_likeness 63 = .ok (.iinc 2 1, 3) := by decide +kernel
theorem dX11_likeness_66 : decode cX11_likeness 66 = .ok (.goto (-48), 3) := by decide +kernel
theorem dX11_likeness_69 : decode cX11_likeness 69 = .ok (.iload_n 2, 1) := by decide +kernel
theorem dX11_likeness_70 : decode cX11_likeness 70 = .ok (.ireturn, 1) := by decide +kernel
theorem dX11_readArguments_0 : decode cX11_readArguments 0 = .ok (.aload_n 0, 1) := by decide +kernel
theorem dX11_readArguments_1 : decode cX11_readArguments 1 = .ok (.getfield 50, 3) := by decide +kernel
theorem dX11_readArguments_4 : decode cX11_readArguments 4 = .ok (.iload_n 2, 1) := by decide +kernel
theorem dX11_readArguments_5 : decode cX11_readArguments 5 = .ok (.iload_n 1, 1) := by decide +kernel
theorem dX11_readArguments_6 : decode cX11_readArguments 6 = .ok (.bipush 7, 2) := by decide +kernel
theorem dX11_readArguments_8 : decode cX11_readArguments 8 = .ok (.if_icmp .ne 10, 3) := by decide +kernel
theorem dX11_readArguments_11 : decode cX11_readArguments 11 = .ok (.aload_n 0, 1) := by decide +kernel
theorem dX11_readArguments_12 : decode cX11_readArguments 12 = .ok (.invokevirtual 257, 3) := by decide +kernel
theorem dX11_readArguments_15 : decode cX11_readArguments 15 = .ok (.goto 7, 3) := by decide +kernel
theorem dX11_readArguments_18 : decode cX11_readArguments 18 = .ok (.aload_n 0, 1) := by decide +kernel
theorem dX11_readArguments_19 : decode cX11_readArguments 19 = .ok (.invokevirtual 264, 3) := by decide +kernel
theorem dX11_readArguments_22 : decode cX11_readArguments 22 = .ok (.iastore, 1) := by decide +kernel
theorem dX11_readArguments_23 : decode cX11_readArguments 23 = .ok (.iload_n 1, 1) := by decide +kernel
theorem dX11_readArguments_24 : decode cX11_readArguments 24 = .ok (.tableswitch 226 0 6 #[44, 83, 226, 124, 153, 196, 211], 44) := by decide +kernel
theorem dX11_readArguments_68 : decode cX11_readArguments 68 = .ok (.aload_n 0, 1) := by decide +kernel
theorem dX11_readArguments_69 : decode cX11_readArguments 69 = .ok (.getfield 50, 3) := by decide +kernel
theorem dX11_readArguments_72 : decode cX11_readArguments 72 = .ok (.iload_n 2, 1) := by decide +kernel
theorem dX11_readArguments_73 : decode cX11_readArguments 73 = .ok (.iconst 1, 1) := by decide +kernel
theorem dX11_readArguments_74 : decode cX11_readArguments 74 = .ok (.iadd, 1) := by decide +kernel
theorem dX11_readArguments_75 : decode cX11_readArguments 75 = .ok (.aload_n 0, 1) := by decide +kernel
theorem dX11_readArguments_76 : decode cX11_readArguments 76 = .ok (.invokevirtual 267, 3) := by decide +kernel
theorem dX11_readArguments_79 : decode cX11_readArguments 79 = .ok (.iastore, 1) := by decide +kernel
theorem dX11_readArguments_80 : decode cX11_readArguments 80 = .ok (.aload_n 0, 1) := by decide +kernel
theorem dX11_readArguments_81 : decode cX11_readArguments 81 = .ok (.getfield 50, 3) := by decide +kernel
theorem dX11_readArguments_84 : decode cX11_readArguments 84 = .ok (.iload_n 2, 1) := by decide +kernel
theorem dX11_readArguments_85 : decode cX11_readArguments 85 = .ok (.iconst 2, 1) := by decide +kernel
theorem dX11_readArguments_86 : decode cX11_readArguments 86 = .ok (.iadd, 1) := by decide +kernel
theorem dX11_readArguments_87 : decode cX11_readArguments 87 = .ok (.aload_n 0, 1) := by decide +kernel
theorem dX11_readArguments_88 : decode cX11_readArguments 88 = .ok (.invokevirtual 270, 3) := by decide +kernel
theorem dX11_readArguments_91 : decode cX11_readArguments 91 = .ok (.iastore, 1) := by decide +kernel
theorem dX11_readArguments_92 : decode cX11_readArguments 92 = .ok (.aload_n 0, 1) := by decide +kernel
theorem dX11_readArguments_93 : decode cX11_readArguments 93 = .ok (.getfield 50, 3) := by decide +kernel
theorem dX11_readArguments_96 : decode cX11_readArguments 96 = .ok (.iload_n 2, 1) := by decide +kernel
theorem dX11_readArguments_97 : decode cX11_readArguments 97 = .ok (.iconst 3, 1) := by decide +kernel
theorem dX11_readArguments_98 : decode cX11_readArguments 98 = .ok (.iadd, 1) := by decide +kernel
theorem dX11_readArguments_99 : decode cX11_readArguments 99 = .ok (.aload_n 0, 1) := by decide +kernel
theorem dX11_readArguments_100 : decode cX11_readArguments 100 = .ok (.invokevirtual 273, 3) := by decide +kernel
theorem dX11_readArguments_103 : decode cX11_readArguments 103 = .ok (.iastore, 1) := by decide +kernel
theorem dX11_readArguments_104 : decode cX11_readArguments 104 = .ok (.goto 146, 3) := by decide +kernel
theorem dX11_readArguments_107 : decode cX11_readArguments 107 = .ok (.aload_n 0, 1) := by decide +kernel
theorem dX11_readArguments_108 : decode cX11_readArguments 108 = .ok (.getfield 50, 3) := by decide +kernel
theorem dX11_readArguments_111 : decode cX11_readArguments 111 = .ok (.iload_n 2, 1) := by decide +kernel
theorem dX11_readArguments_112 : decode cX11_readArguments 112 = .ok (.iconst 1, 1) := by decide +kernel
theorem dX11_readArguments_113 : decode cX11_readArguments 113 = .ok (.iadd, 1) := by decide +kernel
theorem dX11_readArguments_114 : decode cX11_readArguments 114 = .ok (.aload_n 0, 1) := by decide +kernel
theorem dX11_readArguments_115 : decode cX11_readArguments 115 = .ok (.bipush 47, 2) := by decide +kernel
theorem dX11_readArguments_117 : decode cX11_readArguments 117 = .ok (.invokevirtual 276, 3) := by decide +kernel
theorem dX11_readArguments_120 : decode cX11_readArguments 120 = .ok (.iastore, 1) := by decide +kernel
theorem dX11_readArguments_121 : decode cX11_readArguments 121 = .ok (.aload_n 0, 1) := by decide +kernel
theorem dX11_readArguments_122 : decode cX11_readArguments 122 = .ok (.getfield 50, 3) := by decide +kernel
theorem dX11_readArguments_125 : decode cX11_readArguments 125 = .ok (.iload_n 2, 1) := by decide +kernel
theorem dX11_readArguments_126 : decode cX11_readArguments 126 = .ok (.iconst 2, 1) := by decide +kernel
theorem dX11_readArguments_127 : decode cX11_readArguments 127 = .ok (.iadd, 1) := by decide +kernel
theorem dX11_readArguments_128 : decode cX11_readArguments 128 = .ok (.aload_n 0, 1) := by decide +kernel
theorem dX11_readArguments_129 : decode cX11_readArguments 129 = .ok (.invokevirtual 270, 3) := by decide +kernel
theorem dX11_readArguments_132 : decode cX11_readArguments 132 = .ok (.iastore, 1) := by decide +kernel
theorem dX11_readArguments_133 : decode cX11_readArguments 133 = .ok (.aload_n 0, 1) := by decide +kernel
theorem dX11_readArguments_134 : decode cX11_readArguments 134 = .ok (.getfield 50, 3) := by decide +kernel
theorem dX11_readArguments_137 : decode cX11_readArguments 137 = .ok (.iload_n 2, 1) := by decide +kernel
theorem dX11_readArguments_138 : decode cX11_readArguments 138 = .ok (.iconst 3, 1) := by decide +kernel
theorem dX11_readArguments_139 : decode cX11_readArguments 139 = .ok (.iadd, 1) := by decide +kernel
theorem dX11_readArguments_140 : decode cX11_readArguments 140 = .ok (.aload_n 0, 1) := by decide +kernel
theorem dX11_readArguments_141 : decode cX11_readArguments 141 = .ok (.invokevirtual 273, 3) := by decide +kernel
theorem dX11_readArguments_144 : decode cX11_readArguments 144 = .ok (.iastore, 1) := by decide +kernel
theorem dX11_readArguments_145 : decode cX11_readArguments 145 = .ok (.goto 105, 3) := by decide +kernel
theorem dX11_readArguments_148 : decode cX11_readArguments 148 = .ok (.aload_n 0, 1) := by decide +kernel
theorem dX11_readArguments_149 : decode cX11_readArguments 149 = .ok (.getfield 50, 3) := by decide +kernel
theorem dX11_readArguments_152 : decode cX11_readArguments 152 = .ok (.iload_n 2, 1) := by decide +kernel
theorem dX11_readArguments_153 : decode cX11_readArguments 153 = .ok (.iconst 1, 1) := by decide +kernel
theorem dX11_readArguments_154 : decode cX11_readArguments 154 = .ok (.iadd, 1) := by decide +kernel
theorem dX11_readArguments_155 : decode cX11_readArguments 155 = .ok (.aload_n 0, 1) := by decide +kernel
theorem dX11_readArguments_156 : decode cX11_readArguments 156 = .ok (.bipush 32, 2) := by decide +kernel
theorem dX11_readArguments_158 : decode cX11_readArguments 158 = .ok (.invokevirtual 276, 3) := by decide +kernel
theorem dX11_readArguments_161 : decode cX11_readArguments 161 = .ok (.iastore, 1) := by decide +kernel
theorem dX11_readArguments_162 : decode cX11_readArguments 162 = .ok (.aload_n 0, 1) := by decide +kernel
theorem dX11_readArguments_163 : decode cX11_readArguments 163 = .ok (.getfield 50, 3) := by decide +kernel
theorem dX11_readArguments_166 : decode cX11_readArguments 166 = .ok (.iload_n 2, 1) := by decide +kernel
theorem dX11_readArguments_167 : decode cX11_readArguments 167 = .ok (.iconst 2, 1) := by decide +kernel
theorem dX11_readArguments_168 : decode cX11_readArguments 168 = .ok (.iadd, 1) := by decide +kernel
theorem dX11_readArguments_169 : decode cX11_readArguments 169 = .ok (.aload_n 0, 1) := by decide +kernel
theorem dX11_readArguments_170 : decode cX11_readArguments 170 = .ok (.invokevirtual 267, 3) := by decide +kernel
theorem dX11_readArguments_173 : decode cX11_readArguments 173 = .ok (.iastore, 1) := by decide +kernel
theorem dX11_readArguments_174 : decode cX11_readArguments 174 = .ok (.goto 76, 3) := by decide +kernel
theorem dX11_readArguments_177 : decode cX11_readArguments 177 = .ok (.aload_n 0, 1) := by decide +kernel
theorem dX11_readArguments_178 : decode cX11_readArguments 178 = .ok (.getfield 50, 3) := by decide +kernel
theorem dX11_readArguments_181 : decode cX11_readArguments 181 = .ok (.iload_n 2, 1) := by decide +kernel
theorem dX11_readArguments_182 : decode cX11_readArguments 182 = .ok (.iconst 1, 1) := by decide +kernel
theorem dX11_readArguments_183 : decode cX11_readArguments 183 = .ok (.iadd, 1) := by decide +kernel
theorem dX11_readArguments_184 : decode cX11_readArguments 184 = .ok (.aload_n 0, 1) := by decide +kernel
theorem dX11_readArguments_185 : decode cX11_readArguments 185 = .ok (.bipush 45, 2) := by decide +kernel
theorem dX11_readArguments_187 : decode cX11_readArguments 187 = .ok (.invokevirtual 276, 3) := by decide +kernel
theorem dX11_readArguments_190 : decode cX11_readArguments 190 = .ok (.iastore, 1) := by decide +kernel
theorem dX11_readArguments_191 : decode cX11_readArguments 191 = .ok (.aload_n 0, 1) := by decide +kernel
theorem dX11_readArguments_192 : decode cX11_readArguments 192 = .ok (.getfield 50, 3) := by decide +kernel
theorem dX11_readArguments_195 : decode cX11_readArguments 195 = .ok (.iload_n 2, 1) := by decide +kernel
theorem dX11_readArguments_196 : decode cX11_readArguments 196 = .ok (.iconst 2, 1) := by decide +kernel
theorem dX11_readArguments_197 : decode cX11_readArguments 197 = .ok (.iadd, 1) := by decide +kernel
theorem dX11_readArguments_198 : decode cX11_readArguments 198 = .ok (.aload_n 0, 1) := by decide +kernel
theorem dX11_readArguments_199 : decode cX11_readArguments 199 = .ok (.bipush 32, 2) := by decide +kernel
theorem dX11_readArguments_201 : decode cX11_readArguments 201 = .ok (.invokevirtual 276, 3) := by decide +kernel
theorem dX11_readArguments_204 : decode cX11_readArguments 204 = .ok (.iastore, 1) := by decide +kernel
theorem dX11_readArguments_205 : decode cX11_readArguments 205 = .ok (.aload_n 0, 1) := by decide +kernel
theorem dX11_readArguments_206 : decode cX11_readArguments 206 = .ok (.getfield 50, 3) := by decide +kernel
theorem dX11_readArguments_209 : decode cX11_readArguments 209 = .ok (.iload_n 2, 1) := by decide +kernel
theorem dX11_readArguments_210 : decode cX11_readArguments 210 = .ok (.iconst 3, 1) := by decide +kernel
theorem dX11_readArguments_211 : decode cX11_readArguments 211 = .ok (.iadd, 1) := by decide +kernel
theorem dX11_readArguments_212 : decode cX11_readArguments 212 = .ok (.aload_n 0, 1) := by decide +kernel
theorem dX11_readArguments_213 : decode cX11_readArguments 213 = .ok (.invokevirtual 267, 3) := by decide +kernel
theorem dX11_readArguments_216 : decode cX11_readArguments 216 = .ok (.iastore, 1) := by decide +kernel
theorem dX11_readArguments_217 : decode cX11_readArguments 217 = .ok (.goto 33, 3) := by decide +kernel
theorem dX11_readArguments_220 : decode cX11_readArguments 220 = .ok (.aload_n 0, 1) := by decide +kernel
theorem dX11_readArguments_221 : decode cX11_readArguments 221 = .ok (.getfield 50, 3) := by decide +kernel
theorem dX11_readArguments_224 : decode cX11_readArguments 224 = .ok (.iload_n 2, 1) := by decide +kernel
theorem dX11_readArguments_225 : decode cX11_readArguments 225 = .ok (.iconst 1, 1) := by decide +kernel
theorem dX11_readArguments_226 : decode cX11_readArguments 226 = .ok (.iadd, 1) := by decide +kernel
theorem dX11_readArguments_227 : decode cX11_readArguments 227 = .ok (.aload_n 0, 1) := by decide +kernel
theorem dX11_readArguments_228 : decode cX11_readArguments 228 = .ok (.invokevirtual 270, 3) := by decide +kernel
theorem dX11_readArguments_231 : decode cX11_readArguments 231 = .ok (.iastore, 1) := by decide +kernel
theorem dX11_readArguments_232 : decode cX11_readArguments 232 = .ok (.goto 18, 3) := by decide +kernel
theorem dX11_readArguments_235 : decode cX11_readArguments 235 = .ok (.aload_n 0, 1) := by decide +kernel
theorem dX11_readArguments_236 : decode cX11_readArguments 236 = .ok (.getfield 50, 3) := by decide +kernel
theorem dX11_readArguments_239 : decode cX11_readArguments 239 = .ok (.iload_n 2, 1) := by decide +kernel
theorem dX11_readArguments_240 : decode cX11_readArguments 240 = .ok (.iconst 1, 1) := by decide +kernel
theorem dX11_readArguments_241 : decode cX11_readArguments 241 = .ok (.iadd, 1) := by decide +kernel
theorem dX11_readArguments_242 : decode cX11_readArguments 242 = .ok (.aload_n 0, 1) := by decide +kernel
theorem dX11_readArguments_243 : decode cX11_readArguments 243 = .ok (.invokevirtual 273, 3) := by decide +kernel
theorem dX11_readArguments_246 : decode cX11_readArguments 246 = .ok (.iastore, 1) := by decide +kernel
theorem dX11_readArguments_247 : decode cX11_readArguments 247 = .ok (.goto 3, 3) := by decide +kernel
theorem dX11_readArguments_250 : decode cX11_readArguments 250 = .ok (.return_, 1) := by decide +kernel
theorem dX11_readCommand_0 : decode cX11_readCommand 0 = .ok (.iconst 5, 1) := by decide +kernel
theorem dX11_readCommand_1 : decode cX11_readCommand 1 = .ok (.aload_n 0, 1) := by decide +kernel
theorem dX11_readCommand_2 : decode cX11_readCommand 2 = .ok (.getfield 279, 3) := by decide +kernel
theorem dX11_readCommand_5 : decode cX11_readCommand 5 = .ok (.imul, 1) := by decide +kernel
theorem dX11_readCommand_6 : decode cX11_readCommand 6 = .ok (.istore_n 1, 1) := by decide +kernel
theorem dX11_readCommand_7 : decode cX11_readCommand 7 = .ok (.iconst 0, 1) := by decide +kernel
theorem dX11_readCommand_8 : decode cX11_readCommand 8 = .ok (.istore_n 2, 1) := by decide +kernel
theorem dX11_readCommand_9 : decode cX11_readCommand 9 = .ok (.iconst 1, 1) := by decide +kernel
theorem dX11_readCommand_10 : decode cX11_readCommand 10 = .ok (.istore_n 3, 1) := by decide +kernel
theorem dX11_readCommand_11 : decode cX11_readCommand 11 = .ok (.iload_n 3, 1) := by decide +kernel
theorem dX11_readCommand_12 : decode cX11_readCommand 12 = .ok (.bipush 8, 2) := by decide +kernel
theorem dX11_readCommand_14 : decode cX11_readCommand 14 = .ok (.if_icmp .ge 28, 3) := by decide +kernel
theorem dX11_readCommand_17 : decode cX11_readCommand 17 = .ok (.aload_n 0, 1) := by decide +kernel
theorem dX11_readCommand_18 : decode cX11_readCommand 18 = .ok (.iload_n 3, 1) := by decide +kernel
theorem dX11_readCommand_19 : decode cX11_readCommand 19 = .ok (.invokevirtual 282, 3) := by decide +kernel
theorem dX11_readCommand_22 : decode cX11_readCommand 22 = .ok (.aload_n 0, 1) := by decide +kernel
theorem dX11_readCommand_23 : decode cX11_readCommand 23 = .ok (.iload_n 2, 1) := by decide +kernel
theorem dX11_readCommand_24 : decode cX11_readCommand 24 = .ok (.invokevirtual 282, 3) := by decide +kernel
theorem dX11_readCommand_27 : decode cX11_readCommand 27 = .ok (.if_icmp .le 7, 3) := by decide +kernel
theorem dX11_readCommand_30 : decode cX11_readCommand 30 = .ok (.iload_n 3, 1) := by decide +kernel
theorem dX11_readCommand_31 : decode cX11_readCommand 31 = .ok (.goto 4, 3) := by decide +kernel
theorem dX11_readCommand_34 : decode cX11_readCommand 34 = .ok (.iload_n 2, 1) := by decide +kernel
theorem dX11_readCommand_35 : decode cX11_readCommand 35 = .ok (.istore_n 2, 1) := by decide +kernel
theorem dX11_readCommand_36 : decode cX11_readCommand 36 = .ok (.iinc 3 1, 3) := by decide +kernel
theorem dX11_readCommand_39 : decode cX11_readCommand 39 = .ok (.goto (-28), 3) := by decide +kernel
theorem dX11_readCommand_42 : decode cX11_readCommand 42 = .ok (.aload_n 0, 1) := by decide +kernel
theorem dX11_readCommand_43 : decode cX11_readCommand 43 = .ok (.iload_n 2, 1) := by decide +kernel
theorem dX11_readCommand_44 : decode cX11_readCommand 44 = .ok (.invokevirtual 282, 3) := by decide +kernel
theorem dX11_readCommand_47 : decode cX11_readCommand 47 = .ok (.istore_n 3, 1) := by decide +kernel
theorem dX11_readCommand_48 : decode cX11_readCommand 48 = .ok (.aload_n 0, 1) := by decide +kernel
theorem dX11_readCommand_49 : decode cX11_readCommand 49 = .ok (.dup, 1) := by decide +kernel
theorem dX11_readCommand_50 : decode cX11_readCommand 50 = .ok (.getfield 240, 3) := by decide +kernel
theorem dX11_readCommand_53 : decode cX11_readCommand 53 = .ok (.iload_n 3, 1) := by decide +kernel
theorem dX11_readCommand_54 : decode cX11_readCommand 54 = .ok (.iadd, 1) := by decide +kernel
theorem dX11_readCommand_55 : decode cX11_readCommand 55 = .ok (.putfield 240, 3) := by decide +kernel
theorem dX11_readCommand_58 : decode cX11_readCommand 58 = .ok (.aload_n 0, 1) := by decide +kernel
theorem dX11_readCommand_59 : decode cX11_readCommand 59 = .ok (.iload_n 3, 1) := by decide +kernel
theorem dX11_readCommand_60 : decode cX11_readCommand 60 = .ok (.aload_n 0, 1) := by decide +kernel
theorem dX11_readCommand_61 : decode cX11_readCommand 61 = .ok (.getfield 47, 3) := by decide +kernel
theorem dX11_readCommand_64 : decode cX11_readCommand 64 = .ok (.iload_n 2, 1) := by decide +kernel
theorem dX11_readCommand_65 : decode cX11_readCommand 65 = .ok (.iconst 1, 1) := by decide +kernel
theorem dX11_readCommand_66 : decode cX11_readCommand 66 = .ok (.iadd, 1) := by decide +kernel
theorem dX11_readCommand_67 : decode cX11_readCommand 67 = .ok (.iaload, 1) := by decide +kernel
theorem dX11_readCommand_68 : decode cX11_readCommand 68 = .ok (.aload_n 0, 1) := by decide +kernel
theorem dX11_readCommand_69 : decode cX11_readCommand 69 = .ok (.getfield 47, 3) := by decide +kernel
theorem dX11_readCommand_72 : decode cX11_readCommand 72 = .ok (.iload_n 2, 1) := by decide +kernel
theorem dX11_readCommand_73 : decode cX11_readCommand 73 = .ok (.iaload, 1) := by decide +kernel
theorem dX11_readCommand_74 : decode cX11_readCommand 74 = .ok (.isub, 1) := by decide +kernel
theorem dX11_readCommand_75 : decode cX11_readCommand 75 = .ok (.if_icmp .ge 7, 3) := by decide +kernel
theorem dX11_readCommand_78 : decode cX11_readCommand 78 = .ok (.iconst 1, 1) := by decide +kernel
theorem dX11_readCommand_79 : decode cX11_readCommand 79 = .ok (.goto 4, 3) := by decide +kernel
theorem dX11_readCommand_82 : decode cX11_readCommand 82 = .ok (.iconst 0, 1) := by decide +kernel
theorem dX11_readCommand_83 : decode cX11_readCommand 83 = .ok (.putfield 246, 3) := by decide +kernel
theorem dX11_readCommand_86 : decode cX11_readCommand 86 = .ok (.aload_n 0, 1) := by decide +kernel
theorem dX11_readCommand_87 : decode cX11_readCommand 87 = .ok (.getfield 246, 3) := by decide +kernel
theorem dX11_readCommand_90 : decode cX11_readCommand 90 = .ok (.ifCond .ne 28, 3) := by decide +kernel
theorem dX11_readCommand_93 : decode cX11_readCommand 93 = .ok (.aload_n 0, 1) := by decide +kernel
theorem dX11_readCommand_94 : decode cX11_readCommand 94 = .ok (.getfield 50, 3) := by decide +kernel
theorem dX11_readCommand_97 : decode cX11_readCommand 97 = .ok (.iload_n 1, 1) := by decide +kernel
theorem dX11_readCommand_98 : decode cX11_readCommand 98 = .ok (.iload_n 2, 1) := by decide +kernel
theorem dX11_readCommand_99 : decode cX11_readCommand 99 = .ok (.iastore, 1) := by decide +kernel
theorem dX11_readCommand_100 : decode cX11_readCommand 100 = .ok (.aload_n 0, 1) := by decide +kernel
theorem dX11_readCommand_101 : decode cX11_readCommand 101 = .ok (.dup, 1) := by decide +kernel
theorem dX11_readCommand_102 : decode cX11_readCommand 102 = .ok (.getfield 279, 3) := by decide +kernel
theorem dX11_readCommand_105 : decode cX11_readCommand 105 = .ok (.iconst 1, 1) := by decide +kernel
theorem dX11_readCommand_106 : decode cX11_readCommand 106 = .ok (.iadd, 1) := by decide +kernel
theorem dX11_readCommand_107 : decode cX11_readCommand 107 = .ok (.putfield 279, 3) := by decide +kernel
theorem dX11_readCommand_110 : decode cX11_readCommand 110 = .ok (.aload_n 0, 1) := by decide +kernel
theorem dX11_readCommand_111 : decode cX11_readCommand 111 = .ok (.iload_n 2, 1) := by decide +kernel
theorem dX11_readCommand_112 : decode cX11_readCommand 112 = .ok (.iload_n 1, 1) := by decide +kernel
theorem dX11_readCommand_113 : decode cX11_readCommand 113 = .ok (.iconst 1, 1) := by decide +kernel
theorem dX11_readCommand_114 : decode cX11_readCommand 114 = .ok (.iadd, 1) := by decide +kernel
theorem dX11_readCommand_115 : decode cX11_readCommand 115 = .ok (.invokevirtual 285, 3) := by decide +kernel
theorem dX11_readCommand_118 : decode cX11_readCommand 118 = .ok (.return_, 1) := by decide +kernel
theorem dX11_does_0 : decode cX11_does 0 = .ok (.aload_n 0, 1) := by decide +kernel
theorem dX11_does_1 : decode cX11_does 1 = .ok (.getfield 50, 3) := by decide +kernel
theorem dX11_does_4 : decode cX11_does 4 = .ok (.iload_n 1, 1) := by decide +kernel
theorem dX11_does_5 : decode cX11_does 5 = .ok (.iconst 1, 1) := by decide +kernel
theorem dX11_does_6 : decode cX11_does 6 = .ok (.iadd, 1) := by decide +kernel
theorem dX11_does_7 : decode cX11_does 7 = .ok (.iaload, 1) := by decide +kernel
theorem dX11_does_8 : decode cX11_does 8 = .ok (.istore_n 2, 1) := by decide +kernel
theorem dX11_does_9 : decode cX11_does 9 = .ok (.aload_n 0, 1) := by decide +kernel
theorem dX11_does_10 : decode cX11_does 10 = .ok (.getfield 50, 3) := by decide +kernel
theorem dX11_does_13 : decode cX11_does 13 = .ok (.iload_n 1, 1) := by decide +kernel
theorem dX11_does_14 : decode cX11_does 14 = .ok (.iconst 2, 1) := by decide +kernel
theorem dX11_does_15 : decode cX11_does 15 = .ok (.iadd, 1) := by decide +kernel
theorem dX11_does_16 : decode cX11_does 16 = .ok (.iaload, 1) := by decide +kernel
theorem dX11_does_17 : decode cX11_does 17 = .ok (.istore_n 3, 1) := by decide +kernel
theorem dX11_does_18 : decode cX11_does 18 = .ok (.aload_n 0, 1) := by decide +kernel
theorem dX11_does_19 : decode cX11_does 19 = .ok (.getfield 50, 3) := by decide +kernel
theorem dX11_does_22 : decode cX11_does 22 = .ok (.iload_n 1, 1) := by decide +kernel
theorem dX11_does_23 : decode cX11_does 23 = .ok (.iconst 3, 1) := by decide +kernel
theorem dX11_does_24 : decode cX11_does 24 = .ok (.iadd, 1) := by decide +kernel
theorem dX11_does_25 : decode cX11_does 25 = .ok (.iaload, 1) := by decide +kernel
theorem dX11_does_26 : decode cX11_does 26 = .ok (.istore 4, 2) := by decide +kernel
theorem dX11_does_28 : decode cX11_does 28 = .ok (.aload_n 0, 1) := by decide +kernel
theorem dX11_does_29 : decode cX11_does 29 = .ok (.getfield 50, 3) := by decide +kernel
theorem dX11_does_32 : decode cX11_does 32 = .ok (.iload_n 1, 1) := by decide +kernel
theorem dX11_does_33 : decode cX11_does 33 = .ok (.iconst 4, 1) := by decide +kernel
theorem dX11_does_34 : decode cX11_does 34 = .ok (.iadd, 1) := by decide +kernel
theorem dX11_does_35 : decode cX11_does 35 = .ok (.iaload, 1) := by decide +kernel
theorem dX11_does_36 : decode cX11_does 36 = .ok (.istore 5, 2) := by decide +kernel
theorem dX11_does_38 : decode cX11_does 38 = .ok (.aload_n 0, 1) := by decide +kernel
theorem dX11_does_39 : decode cX11_does 39 = .ok (.getfield 50, 3) := by decide +kernel
theorem dX11_does_42 : decode cX11_does 42 = .ok (.iload_n 1, 1) := by decide +kernel
theorem dX11_does_43 : decode cX11_does 43 = .ok (.iaload, 1) := by decide +kernel
theorem dX11_does_44 : decode cX11_does 44 = .ok (.tableswitch 127 0 6 #[44, 58, 72, 81, 93, 107, 117], 44) := by decide +kernel
theorem dX11_does_88 : decode cX11_does 88 = .ok (.aload_n 0, 1) := by decide +kernel
theorem dX11_does_89 : decode cX11_does 89 = .ok (.iload_n 2, 1) := by decide +kernel
theorem dX11_does_90 : decode cX11_does 90 = .ok (.iload_n 3, 1) := by decide +kernel
theorem dX11_does_91 : decode cX11_does 91 = .ok (.iload 4, 2) := by decide +kernel
theorem dX11_does_93 : decode cX11_does 93 = .ok (.iload 5, 2) := by decide +kernel
theorem dX11_does_95 : decode cX11_does 95 = .ok (.invokevirtual 132, 3) := by decide +kernel
theorem dX11_does_98 : decode cX11_does 98 = .ok (.pop, 1) := by decide +kernel
theorem dX11_does_99 : decode cX11_does 99 = .ok (.goto 78, 3) := by decide +kernel
theorem dX11_does_102 : decode cX11_does 102 = .ok (.aload_n 0, 1) := by decide +kernel
theorem dX11_does_103 : decode cX11_does 103 = .ok (.iload_n 2, 1) := by decide +kernel
theorem dX11_does_104 : decode cX11_does 104 = .ok (.iload_n 3, 1) := by decide +kernel
theorem dX11_does_105 : decode cX11_does 105 = .ok (.iload 4, 2) := by decide +kernel
theorem dX11_does_107 : decode cX11_does 107 = .ok (.iload 5, 2) := by decide +kernel
theorem dX11_does_109 : decode cX11_does 109 = .ok (.invokevirtual 141, 3) := by decide +kernel
theorem dX11_does_112 : decode cX11_does 112 = .ok (.pop, 1) := by decide +kernel
theorem dX11_does_113 : decode cX11_does 113 = .ok (.goto 64, 3) := by decide +kernel
theorem dX11_does_116 : decode cX11_does 116 = .ok (.aload_n 0, 1) := by decide +kernel
theorem dX11_does_117 : decode cX11_does 117 = .ok (.iload_n 2, 1) := by decide +kernel
theorem dX11_does_118 : decode cX11_does 118 = .ok (.invokevirtual 147, 3) := by decide +kernel
theorem dX11_does_121 : decode cX11_does 121 = .ok (.pop2, 1) := by decide +kernel
theorem dX11_does_122 : decode cX11_does 122 = .ok (.goto 55, 3) := by decide +kernel
theorem dX11_does_125 : decode cX11_does 125 = .ok (.aload_n 0, 1) := by decide +kernel
theorem dX11_does_126 : decode cX11_does 126 = .ok (.iload_n 2, 1) := by decide +kernel
theorem dX11_does_127 : decode cX11_does 127 = .ok (.iload_n 3, 1) := by decide +kernel
theorem dX11_does_128 : decode cX11_does 128 = .ok (.iload 4, 2) := by decide +kernel
theorem dX11_does_130 : decode cX11_does 130 = .ok (.invokevirtual 154, 3) := by decide +kernel
theorem dX11_does_133 : decode cX11_does 133 = .ok (.pop2, 1) := by decide +kernel
theorem dX11_does_134 : decode cX11_does 134 = .ok (.goto 43, 3) := by decide +kernel
theorem dX11_does_137 : decode cX11_does 137 = .ok (.aload_n 0, 1) := by decide +kernel
theorem dX11_does_138 : decode cX11_does 138 = .ok (.iload_n 2, 1) := by decide +kernel
theorem dX11_does_139 : decode cX11_does 139 = .ok (.iload_n 3, 1) := by decide +kernel
theorem dX11_does_140 : decode cX11_does 140 = .ok (.iload 4, 2) := by decide +kernel
theorem dX11_does_142 : decode cX11_does 142 = .ok (.iload 5, 2) := by decide +kernel
theorem dX11_does_144 : decode cX11_does 144 = .ok (.invokevirtual 158, 3) := by decide +kernel
theorem dX11_does_147 : decode cX11_does 147 = .ok (.pop2, 1) := by decide +kernel
theorem dX11_does_148 : decode cX11_does 148 = .ok (.goto 29, 3) := by decide +kernel
theorem dX11_does_151 : decode cX11_does 151 = .ok (.aload_n 0, 1) := by decide +kernel
theorem dX11_does_152 : decode cX11_does 152 = .ok (.iload_n 2, 1) := by decide +kernel
theorem dX11_does_153 : decode cX11_does 153 = .ok (.iload_n 3, 1) := by decide +kernel
theorem dX11_does_154 : decode cX11_does 154 = .ok (.invokevirtual 162, 3) := by decide +kernel
theorem dX11_does_157 : decode cX11_does 157 = .ok (.pop, 1) := by decide +kernel
theorem dX11_does_158 : decode cX11_does 158 = .ok (.goto 19, 3) := by decide +kernel
theorem dX11_does_161 : decode cX11_does 161 = .ok (.aload_n 0, 1) := by decide +kernel
theorem dX11_does_162 : decode cX11_does 162 = .ok (.iload_n 2, 1) := by decide +kernel
theorem dX11_does_163 : decode cX11_does 163 = .ok (.iload_n 3, 1) := by decide +kernel
theorem dX11_does_164 : decode cX11_does 164 = .ok (.invokevirtual 166, 3) := by decide +kernel
theorem dX11_does_167 : decode cX11_does 167 = .ok (.pop, 1) := by decide +kernel
theorem dX11_does_168 : decode cX11_does 168 = .ok (.goto 9, 3) := by decide +kernel
theorem dX11_does_171 : decode cX11_does 171 = .ok (.aload_n 0, 1) := by decide +kernel
theorem dX11_does_172 : decode cX11_does 172 = .ok (.iload_n 2, 1) := by decide +kernel
theorem dX11_does_173 : decode cX11_does 173 = .ok (.invokevirtual 178, 3) := by decide +kernel
theorem dX11_does_176 : decode cX11_does 176 = .ok (.pop, 1) := by decide +kernel
theorem dX11_does_177 : decode cX11_does 177 = .ok (.return_, 1) := by decide +kernel
theorem dX11_run_0 : decode cX11_run 0 = .ok (.aload_n 0, 1) := by decide +kernel
theorem dX11_run_1 : decode cX11_run 1 = .ok (.invokevirtual 129, 3) := by decide +kernel
theorem dX11_run_4 : decode cX11_run 4 = .ok (.aload_n 0, 1) := by decide +kernel
theorem dX11_run_5 : decode cX11_run 5 = .ok (.aload_n 0, 1) := by decide +kernel
theorem dX11_run_6 : decode cX11_run 6 = .ok (.getfield 237, 3) := by decide +kernel
theorem dX11_run_9 : decode cX11_run 9 = .ok (.putfield 243, 3) := by decide +kernel
theorem dX11_run_12 : decode cX11_run 12 = .ok (.aload_n 0, 1) := by decide +kernel
theorem dX11_run_13 : decode cX11_run 13 = .ok (.iconst 0, 1) := by decide +kernel
theorem dX11_run_14 : decode cX11_run 14 = .ok (.putfield 237, 3) := by decide +kernel
theorem dX11_run_17 : decode cX11_run 17 = .ok (.aload_n 0, 1) := by decide +kernel
theorem dX11_run_18 : decode cX11_run 18 = .ok (.iconst 0, 1) := by decide +kernel
theorem dX11_run_19 : decode cX11_run 19 = .ok (.putfield 240, 3) := by decide +kernel
theorem dX11_run_22 : decode cX11_run 22 = .ok (.aload_n 0, 1) := by decide +kernel
theorem dX11_run_23 : decode cX11_run 23 = .ok (.iconst 0, 1) := by decide +kernel
theorem dX11_run_24 : decode cX11_run 24 = .ok (.putfield 279, 3) := by decide +kernel
theorem dX11_run_27 : decode cX11_run 27 = .ok (.aload_n 0, 1) := by decide +kernel
theorem dX11_run_28 : decode cX11_run 28 = .ok (.iconst 0, 1) := by decide +kernel
theorem dX11_run_29 : decode cX11_run 29 = .ok (.putfield 246, 3) := by decide +kernel
theorem dX11_run_32 : decode cX11_run 32 = .ok (.iconst 1, 1) := by decide +kernel
theorem dX11_run_33 : decode cX11_run 33 = .ok (.istore_n 1, 1) := by decide +kernel
theorem dX11_run_34 : decode cX11_run 34 = .ok (.iload_n 1, 1) := by decide +kernel
theorem dX11_run_35 : decode cX11_run 35 = .ok (.ifCond .eq 57, 3) := by decide +kernel
theorem dX11_run_38 : decode cX11_run 38 = .ok (.aload_n 0, 1) := by decide +kernel
theorem dX11_run_39 : decode cX11_run 39 = .ok (.invokevirtual 288, 3) := by decide +kernel
theorem dX11_run_42 : decode cX11_run 42 = .ok (.aload_n 0, 1) := by decide +kernel
theorem dX11_run_43 : decode cX11_run 43 = .ok (.getfield 246, 3) := by decide +kernel
theorem dX11_run_46 : decode cX11_run 46 = .ok (.ifCond .ne 18, 3) := by decide +kernel
theorem dX11_run_49 : decode cX11_run 49 = .ok (.aload_n 0, 1) := by decide +kernel
theorem dX11_run_50 : decode cX11_run 50 = .ok (.getfield 240, 3) := by decide +kernel
theorem dX11_run_53 : decode cX11_run 53 = .ok (.aload_n 0, 1) := by decide +kernel
theorem dX11_run_54 : decode cX11_run 54 = .ok (.getfield 243, 3) := by decide +kernel
theorem dX11_run_57 : decode cX11_run 57 = .ok (.if_icmp .ge 7, 3) := by decide +kernel
theorem dX11_run_60 : decode cX11_run 60 = .ok (.iconst 1, 1) := by decide +kernel
theorem dX11_run_61 : decode cX11_run 61 = .ok (.goto 4, 3) := by decide +kernel
theorem dX11_run_64 : decode cX11_run 64 = .ok (.iconst 0, 1) := by decide +kernel
theorem dX11_run_65 : decode cX11_run 65 = .ok (.istore_n 1, 1) := by decide +kernel
theorem dX11_run_66 : decode cX11_run 66 = .ok (.iload_n 1, 1) := by decide +kernel
theorem dX11_run_67 : decode cX11_run 67 = .ok (.ifCond .eq (-33), 3) := by decide +kernel
theorem dX11_run_70 : decode cX11_run 70 = .ok (.aload_n 0, 1) := by decide +kernel
theorem dX11_run_71 : decode cX11_run 71 = .ok (.bipush 59, 2) := by decide +kernel
theorem dX11_run_73 : decode cX11_run 73 = .ok (.invokevirtual 260, 3) := by decide +kernel
theorem dX11_run_76 : decode cX11_run 76 = .ok (.aload_n 0, 1) := by decide +kernel
theorem dX11_run_77 : decode cX11_run 77 = .ok (.getfield 246, 3) := by decide +kernel
theorem dX11_run_80 : decode cX11_run 80 = .ok (.ifCond .ne 7, 3) := by decide +kernel
theorem dX11_run_83 : decode cX11_run 83 = .ok (.iconst 1, 1) := by decide +kernel
theorem dX11_run_84 : decode cX11_run 84 = .ok (.goto 4, 3) := by decide +kernel
theorem dX11_run_87 : decode cX11_run 87 = .ok (.iconst 0, 1) := by decide +kernel
theorem dX11_run_88 : decode cX11_run 88 = .ok (.istore_n 1, 1) := by decide +kernel
theorem dX11_run_89 : decode cX11_run 89 = .ok (.goto (-55), 3) := by decide +kernel
theorem dX11_run_92 : decode cX11_run 92 = .ok (.aload_n 0, 1) := by decide +kernel
theorem dX11_run_93 : decode cX11_run 93 = .ok (.getfield 246, 3) := by decide +kernel
theorem dX11_run_96 : decode cX11_run 96 = .ok (.ifCond .eq 17, 3) := by decide +kernel
theorem dX11_run_99 : decode cX11_run 99 = .ok (.aload_n 0, 1) := by decide +kernel
theorem dX11_run_100 : decode cX11_run 100 = .ok (.aload_n 0, 1) := by decide +kernel
theorem dX11_run_101 : decode cX11_run 101 = .ok (.getfield 240, 3) := by decide +kernel
theorem dX11_run_104 : decode cX11_run 104 = .ok (.putfield 22, 3) := by decide +kernel
theorem dX11_run_107 : decode cX11_run 107 = .ok (.aload_n 0, 1) := by decide +kernel
theorem dX11_run_108 : decode cX11_run 108 = .ok (.iconst 1, 1) := by decide +kernel
theorem dX11_run_109 : decode cX11_run 109 = .ok (.invokevirtual 119, 3) := by decide +kernel
theorem dX11_run_112 : decode cX11_run 112 = .ok (.ireturn, 1) := by decide +kernel
theorem dX11_run_113 : decode cX11_run 113 = .ok (.iconst 0, 1) := by decide +kernel
theorem dX11_run_114 : decode cX11_run 114 = .ok (.istore_n 2, 1) := by decide +kernel
theorem dX11_run_115 : decode cX11_run 115 = .ok (.iload_n 2, 1) := by decide +kernel
theorem dX11_run_116 : decode cX11_run 116 = .ok (.aload_n 0, 1) := by decide +kernel
theorem dX11_run_117 : decode cX11_run 117 = .ok (.getfield 279, 3) := by decide +kernel
theorem dX11_run_120 : decode cX11_run 120 = .ok (.if_icmp .ge 60, 3) := by decide +kernel
theorem dX11_run_123 : decode cX11_run 123 = .ok (.aload_n 0, 1) := by decide +kernel
theorem dX11_run_124 : decode cX11_run 124 = .ok (.iconst 5, 1) := by decide +kernel
theorem dX11_run_125 : decode cX11_run 125 = .ok (.iload_n 2, 1) := by decide +kernel
theorem dX11_run_126 : decode cX11_run 126 = .ok (.imul, 1) := by decide +kernel
theorem dX11_run_127 : decode cX11_run 127 = .ok (.invokevirtual 291, 3) := by decide +kernel
theorem dX11_run_130 : decode cX11_run 130 = .ok (.aload_n 0, 1) := by decide +kernel
theorem dX11_run_131 : decode cX11_run 131 = .ok (.getfield 56, 3) := by decide +kernel
theorem dX11_run_134 : decode cX11_run 134 = .ok (.ifCond .le 40, 3) := by decide +kernel
theorem dX11_run_137 : decode cX11_run 137 = .ok (.iconst 0, 1) := by decide +kernel
theorem dX11_run_138 : decode cX11_run 138 = .ok (.istore_n 3, 1) := by decide +kernel
theorem dX11_run_139 : decode cX11_run 139 = .ok (.iload_n 3, 1) := by decide +kernel
theorem dX11_run_140 : decode cX11_run 140 = .ok (.bipush 28, 2) := by decide +kernel
theorem dX11_run_142 : decode cX11_run 142 = .ok (.if_icmp .ge 21, 3) := by decide +kernel
theorem dX11_run_145 : decode cX11_run 145 = .ok (.aload_n 0, 1) := by decide +kernel
theorem dX11_run_146 : decode cX11_run 146 = .ok (.getfield 9, 3) := by decide +kernel
theorem dX11_run_149 : decode cX11_run 149 = .ok (.iload_n 3, 1) := by decide +kernel
theorem dX11_run_150 : decode cX11_run 150 = .ok (.aload_n 0, 1) := by decide +kernel
theorem dX11_run_151 : decode cX11_run 151 = .ok (.getfield 13, 3) := by decide +kernel
theorem dX11_run_154 : decode cX11_run 154 = .ok (.iload_n 3, 1) := by decide +kernel
theorem dX11_run_155 : decode cX11_run 155 = .ok (.laload, 1) := by decide +kernel
theorem dX11_run_156 : decode cX11_run 156 = .ok (.lastore, 1) := by decide +kernel
theorem dX11_run_157 : decode cX11_run 157 = .ok (.iinc 3 1, 3) := by decide +kernel
theorem dX11_run_160 : decode cX11_run 160 = .ok (.goto (-21), 3) := by decide +kernel
theorem dX11_run_163 : decode cX11_run 163 = .ok (.aload_n 0, 1) := by decide +kernel
theorem dX11_run_164 : decode cX11_run 164 = .ok (.iload_n 2, 1) := by decide +kernel
theorem dX11_run_165 : decode cX11_run 165 = .ok (.putfield 26, 3) := by decide +kernel
theorem dX11_run_168 : decode cX11_run 168 = .ok (.aload_n 0, 1) := by decide +kernel
theorem dX11_run_169 : decode cX11_run 169 = .ok (.iconst 2, 1) := by decide +kernel
theorem dX11_run_170 : decode cX11_run 170 = .ok (.invokevirtual 119, 3) := by decide +kernel
theorem dX11_run_173 : decode cX11_run 173 = .ok (.ireturn, 1) := by decide +kernel
theorem dX11_run_174 : decode cX11_run 174 = .ok (.iinc 2 1, 3) := by decide +kernel
theorem dX11_run_177 : decode cX11_run 177 = .ok (.goto (-62), 3) := by decide +kernel
theorem dX11_run_180 : decode cX11_run 180 = .ok (.aload_n 0, 1) := by decide +kernel
theorem dX11_run_181 : decode cX11_run 181 = .ok (.invokevirtual 136, 3) := by decide +kernel
theorem dX11_run_184 : decode cX11_run 184 = .ok (.aload_n 0, 1) := by decide +kernel
theorem dX11_run_185 : decode cX11_run 185 = .ok (.getfield 279, 3) := by decide +kernel
theorem dX11_run_188 : decode cX11_run 188 = .ok (.ireturn, 1) := by decide +kernel
theorem dX11_errorPosition_0 : decode cX11_errorPosition 0 = .ok (.aload_n 0, 1) := by decide +kernel
theorem dX11_errorPosition_1 : decode cX11_errorPosition 1 = .ok (.iconst 0, 1) := by decide +kernel
theorem dX11_errorPosition_2 : decode cX11_errorPosition 2 = .ok (.putfield 56, 3) := by decide +kernel
theorem dX11_errorPosition_5 : decode cX11_errorPosition 5 = .ok (.aload_n 0, 1) := by decide +kernel
theorem dX11_errorPosition_6 : decode cX11_errorPosition 6 = .ok (.getfield 22, 3) := by decide +kernel
theorem dX11_errorPosition_9 : decode cX11_errorPosition 9 = .ok (.iconst (-1), 1) := by decide +kernel
theorem dX11_errorPosition_10 : decode cX11_errorPosition 10 = .ok (.if_icmp .ne 11, 3) := by decide +kernel
theorem dX11_errorPosition_13 : decode cX11_errorPosition 13 = .ok (.aload_n 0, 1) := by decide +kernel
theorem dX11_errorPosition_14 : decode cX11_errorPosition 14 = .ok (.iconst 1, 1) := by decide +kernel
theorem dX11_errorPosition_15 : decode cX11_errorPosition 15 = .ok (.invokevirtual 119, 3) := by decide +kernel
theorem dX11_errorPosition_18 : decode cX11_errorPosition 18 = .ok (.goto 7, 3) := by decide +kernel
theorem dX11_errorPosition_21 : decode cX11_errorPosition 21 = .ok (.aload_n 0, 1) := by decide +kernel
theorem dX11_errorPosition_22 : decode cX11_errorPosition 22 = .ok (.getfield 22, 3) := by decide +kernel
theorem dX11_errorPosition_25 : decode cX11_errorPosition 25 = .ok (.ireturn, 1) := by decide +kernel
theorem dX11_failedCommand_0 : decode cX11_failedCommand 0 = .ok (.aload_n 0, 1) := by decide +kernel
theorem dX11_failedCommand_1 : decode cX11_failedCommand 1 = .ok (.iconst 0, 1) := by decide +kernel
theorem dX11_failedCommand_2 : decode cX11_failedCommand 2 = .ok (.putfield 56, 3) := by decide +kernel
theorem dX11_failedCommand_5 : decode cX11_failedCommand 5 = .ok (.aload_n 0, 1) := by decide +kernel
theorem dX11_failedCommand_6 : decode cX11_failedCommand 6 = .ok (.getfield 26, 3) := by decide +kernel
theorem dX11_failedCommand_9 : decode cX11_failedCommand 9 = .ok (.iconst (-1), 1) := by decide +kernel
theorem dX11_failedCommand_10 : decode cX11_failedCommand 10 = .ok (.if_icmp .ne 11, 3) := by decide +kernel
theorem dX11_failedCommand_13 : decode cX11_failedCommand 13 = .ok (.aload_n 0, 1) := by decide +kernel
theorem dX11_failedCommand_14 : decode cX11_failedCommand 14 = .ok (.iconst 1, 1) := by decide +kernel
theorem dX11_failedCommand_15 : decode cX11_failedCommand 15 = .ok (.invokevirtual 119, 3) := by decide +kernel
theorem dX11_failedCommand_18 : decode cX11_failedCommand 18 = .ok (.goto 7, 3) := by decide +kernel
theorem dX11_failedCommand_21 : decode cX11_failedCommand 21 = .ok (.aload_n 0, 1) := by decide +kernel
theorem dX11_failedCommand_22 : decode cX11_failedCommand 22 = .ok (.getfield 26, 3) := by decide +kernel
theorem dX11_failedCommand_25 : decode cX11_failedCommand 25 = .ok (.ireturn, 1) := by decide +kernel
theorem dX11_sign_0 : decode cX11_sign 0 = .ok (.aload_n 0, 1) := by decide +kernel
theorem dX11_sign_1 : decode cX11_sign 1 = .ok (.getfield 53, 3) := by decide +kernel
theorem dX11_sign_4 : decode cX11_sign 4 = .ok (.aload_n 0, 1) := by decide +kernel
theorem dX11_sign_5 : decode cX11_sign 5 = .ok (.getfield 294, 3) := by decide +kernel
theorem dX11_sign_8 : decode cX11_sign 8 = .ok (.iload_n 1, 1) := by decide +kernel
theorem dX11_sign_9 : decode cX11_sign 9 = .ok (.iastore, 1) := by decide +kernel
theorem dX11_sign_10 : decode cX11_sign 10 = .ok (.aload_n 0, 1) := by decide +kernel
theorem dX11_sign_11 : decode cX11_sign 11 = .ok (.dup, 1) := by decide +kernel
theorem dX11_sign_12 : decode cX11_sign 12 = .ok (.getfield 294, 3) := by decide +kernel
theorem dX11_sign_15 : decode cX11_sign 15 = .ok (.iconst 1, 1) := by decide +kernel
theorem dX11_sign_16 : decode cX11_sign 16 = .ok (.iadd, 1) := by decide +kernel
theorem dX11_sign_17 : decode cX11_sign 17 = .ok (.putfield 294, 3) := by decide +kernel
theorem dX11_sign_20 : decode cX11_sign 20 = .ok (.return_, 1) := by decide +kernel
theorem dX11_writesWhole_0 : decode cX11_writesWhole 0 = .ok (.iconst 1, 1) := by decide +kernel
theorem dX11_writesWhole_1 : decode cX11_writesWhole 1 = .ok (.istore_n 2, 1) := by decide +kernel
theorem dX11_writesWhole_2 : decode cX11_writesWhole 2 = .ok (.iload_n 1, 1) := by decide +kernel
theorem dX11_writesWhole_3 : decode cX11_writesWhole 3 = .ok (.iload_n 2, 1) := by decide +kernel
theorem dX11_writesWhole_4 : decode cX11_writesWhole 4 = .ok (.idiv, 1) := by decide +kernel
theorem dX11_writesWhole_5 : decode cX11_writesWhole 5 = .ok (.bipush 9, 2) := by decide +kernel
theorem dX11_writesWhole_7 : decode cX11_writesWhole 7 = .ok (.if_icmp .le 11, 3) := by decide +kernel
theorem dX11_writesWhole_10 : decode cX11_writesWhole 10 = .ok (.iload_n 2, 1) := by decide +kernel
theorem dX11_writesWhole_11 : decode cX11_writesWhole 11 = .ok (.bipush 10, 2) := by decide +kernel
theorem dX11_writesWhole_13 : decode cX11_writesWhole 13 = .ok (.imul, 1) := by decide +kernel
theorem dX11_writesWhole_14 : decode cX11_writesWhole 14 = .ok (.istore_n 2, 1) := by decide +kernel
theorem dX11_writesWhole_15 : decode cX11_writesWhole 15 = .ok (.goto (-13), 3) := by decide +kernel
theorem dX11_writesWhole_18 : decode cX11_writesWhole 18 = .ok (.iload_n 2, 1) := by decide +kernel
theorem dX11_writesWhole_19 : decode cX11_writesWhole 19 = .ok (.ifCond .le 24, 3) := by decide +kernel
theorem dX11_writesWhole_22 : decode cX11_writesWhole 22 = .ok (.aload_n 0, 1) := by decide +kernel
theorem dX11_writesWhole_23 : decode cX11_writesWhole 23 = .ok (.bipush 48, 2) := by decide +kernel
theorem dX11_writesWhole_25 : decode cX11_writesWhole 25 = .ok (.iload_n 1, 1) := by decide +kernel
theorem dX11_writesWhole_26 : decode cX11_writesWhole 26 = .ok (.iload_n 2, 1) := by decide +kernel
theorem dX11_writesWhole_27 : decode cX11_writesWhole 27 = .ok (.idiv, 1) := by decide +kernel
theorem dX11_writesWhole_28 : decode cX11_writesWhole 28 = .ok (.bipush 10, 2) := by decide +kernel
theorem dX11_writesWhole_30 : decode cX11_writesWhole 30 = .ok (.irem, 1) := by decide +kernel
theorem dX11_writesWhole_31 : decode cX11_writesWhole 31 = .ok (.iadd, 1) := by decide +kernel
theorem dX11_writesWhole_32 : decode cX11_writesWhole 32 = .ok (.invokevirtual 297, 3) := by decide +kernel
theorem dX11_writesWhole_35 : decode cX11_writesWhole 35 = .ok (.iload_n 2, 1) := by decide +kernel
theorem dX11_writesWhole_36 : decode cX11_writesWhole 36 = .ok (.bipush 10, 2) := by decide +kernel
theorem dX11_writesWhole_38 : decode cX11_writesWhole 38 = .ok (.idiv, 1) := by decide +kernel
theorem dX11_writesWhole_39 : decode cX11_writesWhole 39 = .ok (.istore_n 2, 1) := by decide +kernel
theorem dX11_writesWhole_40 : decode cX11_writesWhole 40 = .ok (.goto (-22), 3) := by decide +kernel
theorem dX11_writesWhole_43 : decode cX11_writesWhole 43 = .ok (.return_, 1) := by decide +kernel
theorem dX11_writeNumber_0 : decode cX11_writeNumber 0 = .ok (.aload_n 0, 1) := by decide +kernel
theorem dX11_writeNumber_1 : decode cX11_writeNumber 1 = .ok (.iload_n 1, 1) := by decide +kernel
theorem dX11_writeNumber_2 : decode cX11_writeNumber 2 = .ok (.iconst 1, 1) := by decide +kernel
theorem dX11_writeNumber_3 : decode cX11_writeNumber 3 = .ok (.invokevirtual 181, 3) := by decide +kernel
theorem dX11_writeNumber_6 : decode cX11_writeNumber 6 = .ok (.lstore_n 2, 1) := by decide +kernel
theorem dX11_writeNumber_7 : decode cX11_writeNumber 7 = .ok (.aload_n 0, 1) := by decide +kernel
theorem dX11_writeNumber_8 : decode cX11_writeNumber 8 = .ok (.getfield 56, 3) := by decide +kernel
theorem dX11_writeNumber_11 : decode cX11_writeNumber 11 = .ok (.ifCond .le 5, 3) := by decide +kernel
theorem dX11_writeNumber_14 : decode cX11_writeNumber 14 = .ok (.iconst (-1), 1) := by decide +kernel
theorem dX11_writeNumber_15 : decode cX11_writeNumber 15 = .ok (.ireturn, 1) := by decide +kernel
theorem dX11_writeNumber_16 : decode cX11_writeNumber 16 = .ok (.aload_n 0, 1) := by decide +kernel
theorem dX11_writeNumber_17 : decode cX11_writeNumber 17 = .ok (.iload_n 1, 1) := by decide +kernel
theorem dX11_writeNumber_18 : decode cX11_writeNumber 18 = .ok (.invokevirtual 144, 3) := by decide +kernel
theorem dX11_writeNumber_21 : decode cX11_writeNumber 21 = .ok (.invokestatic 66, 3) := by decide +kernel
theorem dX11_writeNumber_24 : decode cX11_writeNumber 24 = .ok (.istore 4, 2) := by decide +kernel
theorem dX11_writeNumber_26 : decode cX11_writeNumber 26 = .ok (.aload_n 0, 1) := by decide +kernel
theorem dX11_writeNumber_27 : decode cX11_writeNumber 27 = .ok (.iconst 0, 1) := by decide +kernel
theorem dX11_writeNumber_28 : decode cX11_writeNumber 28 = .ok (.putfield 294, 3) := by decide +kernel
theorem dX11_writeNumber_31 : decode cX11_writeNumber 31 = .ok (.aload_n 0, 1) := by decide +kernel
theorem dX11_writeNumber_32 : decode cX11_writeNumber 32 = .ok (.iload_n 1, 1) := by decide +kernel
theorem dX11_writeNumber_33 : decode cX11_writeNumber 33 = .ok (.invokevirtual 300, 3) := by decide +kernel
theorem dX11_writeNumber_36 : decode cX11_writeNumber 36 = .ok (.aload_n 0, 1) := by decide +kernel
theorem dX11_writeNumber_37 : decode cX11_writeNumber 37 = .ok (.bipush 58, 2) := by decide +kernel
theorem dX11_writeNumber_39 : decode cX11_writeNumber 39 = .ok (.invokevirtual 297, 3) := by decide +kernel
theorem dX11_writeNumber_42 : decode cX11_writeNumber 42 = .ok (.aload_n 0, 1) := by decide +kernel
theorem dX11_writeNumber_43 : decode cX11_writeNumber 43 = .ok (.lload_n 2, 1) := by decide +kernel
theorem dX11_writeNumber_44 : decode cX11_writeNumber 44 = .ok (.ldc2_w 80, 3) := by decide +kernel
theorem dX11_writeNumber_47 : decode cX11_writeNumber 47 = .ok (.ldiv, 1) := by decide +kernel
theorem dX11_writeNumber_48 : decode cX11_writeNumber 48 = .ok (.l2i, 1) := by decide +kernel
theorem dX11_writeNumber_49 : decode cX11_writeNumber 49 = .ok (.invokevirtual 300, 3) := by decide +kernel
theorem dX11_writeNumber_52 : decode cX11_writeNumber 52 = .ok (.aload_n 0, 1) := by decide +kernel
theorem dX11_writeNumber_53 : decode cX11_writeNumber 53 = .ok (.getfield 9, 3) := by decide +kernel
theorem dX11_writeNumber_56 : decode cX11_writeNumber 56 = .ok (.iload 4, 2) := by decide +kernel
theorem dX11_writeNumber_58 : decode cX11_writeNumber 58 = .ok (.iconst 2, 1) := by decide +kernel
theorem dX11_writeNumber_59 : decode cX11_writeNumber 59 = .ok (.iadd, 1) := by decide +kernel
theorem dX11_writeNumber_60 : decode cX11_writeNumber 60 = .ok (.laload, 1) := by decide +kernel
theorem dX11_writeNumber_61 : decode cX11_writeNumber 61 = .ok (.lconst 0, 1) := by decide +kernel
theorem dX11_writeNumber_62 : decode cX11_writeNumber 62 = .ok (.lcmp, 1) := by decide +kernel
theorem dX11_writeNumber_63 : decode cX11_writeNumber 63 = .ok (.ifCond .le 9, 3) := by decide +kernel
theorem dX11_writeNumber_66 : decode cX11_writeNumber 66 = .ok (.aload_n 0, 1) := by decide +kernel
theorem dX11_writeNumber_67 : decode cX11_writeNumber 67 = .ok (.bipush 46, 2) := by decide +kernel
theorem dX11_writeNumber_69 : decode cX11_writeNumber 69 = .ok (.invokevirtual 297, 3) := by decide +kernel
theorem dX11_writeNumber_72 : decode cX11_writeNumber 72 = .ok (.iconst 0, 1) := by decide +kernel
theorem dX11_writeNumber_73 : decode cX11_writeNumber 73 = .ok (.istore 5, 2) := by decide +kernel
theorem dX11_writeNumber_75 : decode cX11_writeNumber 75 = .ok (.iload 5, 2) := by decide +kernel
theorem dX11_writeNumber_77 : decode cX11_writeNumber 77 = .ok (.i2l, 1) := by decide +kernel
theorem dX11_writeNumber_78 : decode cX11_writeNumber 78 = .ok (.aload_n 0, 1) := by decide +kernel
theorem dX11_writeNumber_79 : decode cX11_writeNumber 79 = .ok (.getfield 9, 3) := by decide +kernel
theorem dX11_writeNumber_82 : decode cX11_writeNumber 82 = .ok (.iload 4, 2) := by decide +kernel
theorem dX11_writeNumber_84 : decode cX11_writeNumber 84 = .ok (.iconst 2, 1) := by decide +kernel
theorem dX11_writeNumber_85 : decode cX11_writeNumber 85 = .ok (.iadd, 1) := by decide +kernel
theorem dX11_writeNumber_86 : decode cX11_writeNumber 86 = .ok (.laload, 1) := by decide +kernel
theorem dX11_writeNumber_87 : decode cX11_writeNumber 87 = .ok (.lcmp, 1) := by decide +kernel
theorem dX11_writeNumber_88 : decode cX11_writeNumber 88 = .ok (.ifCond .ge 24, 3) := by decide +kernel
theorem dX11_writeNumber_91 : decode cX11_writeNumber 91 = .ok (.aload_n 0, 1) := by decide +kernel
theorem dX11_writeNumber_92 : decode cX11_writeNumber 92 = .ok (.bipush 48, 2) := by decide +kernel
theorem dX11_writeNumber_94 : decode cX11_writeNumber 94 = .ok (.lload_n 2, 1) := by decide +kernel
theorem dX11_writeNumber_95 : decode cX11_writeNumber 95 = .ok (.iconst (-1), 1) := by decide +kernel
theorem dX11_writeNumber_96 : decode cX11_writeNumber 96 = .ok (.iload 5, 2) := by decide +kernel
theorem dX11_writeNumber_98 : decode cX11_writeNumber 98 = .ok (.isub, 1) := by decide +kernel
theorem dX11_writeNumber_99 : decode cX11_writeNumber 99 = .ok (.invokestatic 188, 3) := by decide +kernel
theorem dX11_writeNumber_102 : decode cX11_writeNumber 102 = .ok (.iadd, 1) := by decide +kernel
theorem dX11_writeNumber_103 : decode cX11_writeNumber 103 = .ok (.invokevirtual 297, 3) := by decide +kernel
theorem dX11_writeNumber_106 : decode cX11_writeNumber 106 = .ok (.iinc 5 1, 3) := by decide +kernel
theorem dX11_writeNumber_109 : decode cX11_writeNumber 109 = .ok (.goto (-34), 3) := by decide +kernel
theorem dX11_writeNumber_112 : decode cX11_writeNumber 112 = .ok (.aload_n 0, 1) := by decide +kernel
theorem dX11_writeNumber_113 : decode cX11_writeNumber 113 = .ok (.aload_n 0, 1) := by decide +kernel
theorem dX11_writeNumber_114 : decode cX11_writeNumber 114 = .ok (.getfield 9, 3) := by decide +kernel
theorem dX11_writeNumber_117 : decode cX11_writeNumber 117 = .ok (.iload 4, 2) := by decide +kernel
theorem dX11_writeNumber_119 : decode cX11_writeNumber 119 = .ok (.iconst 3, 1) := by decide +kernel
theorem dX11_writeNumber_120 : decode cX11_writeNumber 120 = .ok (.iadd, 1) := by decide +kernel
theorem dX11_writeNumber_121 : decode cX11_writeNumber 121 = .ok (.laload, 1) := by decide +kernel
theorem dX11_writeNumber_122 : decode cX11_writeNumber 122 = .ok (.l2i, 1) := by decide +kernel
theorem dX11_writeNumber_123 : decode cX11_writeNumber 123 = .ok (.invokevirtual 297, 3) := by decide +kernel
theorem dX11_writeNumber_126 : decode cX11_writeNumber 126 = .ok (.aload_n 0, 1) := by decide +kernel
theorem dX11_writeNumber_127 : decode cX11_writeNumber 127 = .ok (.getfield 294, 3) := by decide +kernel
theorem dX11_writeNumber_130 : decode cX11_writeNumber 130 = .ok (.ireturn, 1) := by decide +kernel
theorem dX11_writeQuotient_0 : decode cX11_writeQuotient 0 = .ok (.aload_n 0, 1) := by decide +kernel
theorem dX11_writeQuotient_1 : decode cX11_writeQuotient 1 = .ok (.iconst 0, 1) := by decide +kernel
theorem dX11_writeQuotient_2 : decode cX11_writeQuotient 2 = .ok (.putfield 56, 3) := by decide +kernel
theorem dX11_writeQuotient_5 : decode cX11_writeQuotient 5 = .ok (.iload_n 1, 1) := by decide +kernel
theorem dX11_writeQuotient_6 : decode cX11_writeQuotient 6 = .ok (.iload_n 2, 1) := by decide +kernel
theorem dX11_writeQuotient_7 : decode cX11_writeQuotient 7 = .ok (.invokestatic 213, 3) := by decide +kernel
theorem dX11_writeQuotient_10 : decode cX11_writeQuotient 10 = .ok (.ifCond .ne 9, 3) := by decide +kernel
theorem dX11_writeQuotient_13 : decode cX11_writeQuotient 13 = .ok (.aload_n 0, 1) := by decide +kernel
theorem dX11_writeQuotient_14 : decode cX11_writeQuotient 14 = .ok (.iconst 1, 1) := by decide +kernel
theorem dX11_writeQuotient_15 : decode cX11_writeQuotient 15 = .ok (.invokevirtual 119, 3) := by decide +kernel
theorem dX11_writeQuotient_18 : decode cX11_writeQuotient 18 = .ok (.ireturn, 1) := by decide +kernel
theorem dX11_writeQuotient_19 : decode cX11_writeQuotient 19 = .ok (.aload_n 0, 1) := by decide +kernel
theorem dX11_writeQuotient_20 : decode cX11_writeQuotient 20 = .ok (.iload_n 1, 1) := by decide +kernel
theorem dX11_writeQuotient_21 : decode cX11_writeQuotient 21 = .ok (.iload_n 2, 1) := by decide +kernel
theorem dX11_writeQuotient_22 : decode cX11_writeQuotient 22 = .ok (.invokevirtual 225, 3) := by decide +kernel
theorem dX11_writeQuotient_25 : decode cX11_writeQuotient 25 = .ok (.aload_n 0, 1) := by decide +kernel
theorem dX11_writeQuotient_26 : decode cX11_writeQuotient 26 = .ok (.iconst 0, 1) := by decide +kernel
theorem dX11_writeQuotient_27 : decode cX11_writeQuotient 27 = .ok (.putfield 294, 3) := by decide +kernel
theorem dX11_writeQuotient_30 : decode cX11_writeQuotient 30 = .ok (.aload_n 0, 1) := by decide +kernel
theorem dX11_writeQuotient_31 : decode cX11_writeQuotient 31 = .ok (.iload_n 1, 1) := by decide +kernel
theorem dX11_writeQuotient_32 : decode cX11_writeQuotient 32 = .ok (.iload_n 2, 1) := by decide +kernel
theorem dX11_writeQuotient_33 : decode cX11_writeQuotient 33 = .ok (.idiv, 1) := by decide +kernel
theorem dX11_writeQuotient_34 : decode cX11_writeQuotient 34 = .ok (.invokevirtual 300, 3) := by decide +kernel
theorem dX11_writeQuotient_37 : decode cX11_writeQuotient 37 = .ok (.aload_n 0, 1) := by decide +kernel
theorem dX11_writeQuotient_38 : decode cX11_writeQuotient 38 = .ok (.bipush 46, 2) := by decide +kernel
theorem dX11_writeQuotient_40 : decode cX11_writeQuotient 40 = .ok (.invokevirtual 297, 3) := by decide +kernel
theorem dX11_writeQuotient_43 : decode cX11_writeQuotient 43 = .ok (.iconst 1, 1) := by decide +kernel
theorem dX11_writeQuotient_44 : decode cX11_writeQuotient 44 = .ok (.istore_n 3, 1) := by decide +kernel
theorem dX11_writeQuotient_45 : decode cX11_writeQuotient 45 = .ok (.iload_n 3, 1) := by decide +kernel
theorem dX11_writeQuotient_46 : decode cX11_writeQuotient 46 = .ok (.aload_n 0, 1) := by decide +kernel
theorem dX11_writeQuotient_47 : decode cX11_writeQuotient 47 = .ok (.getfield 219, 3) := by decide +kernel
theorem dX11_writeQuotient_50 : decode cX11_writeQuotient 50 = .ok (.bipush 20, 2) := by decide +kernel
theorem dX11_writeQuotient_52 : decode cX11_writeQuotient 52 = .ok (.aload_n 0, 1) := by decide +kernel
theorem dX11_writeQuotient_53 : decode cX11_writeQuotient 53 = .ok (.getfield 222, 3) := by decide +kernel
theorem dX11_writeQuotient_56 : decode cX11_writeQuotient 56 = .ok (.invokestatic 303, 3) := by decide +kernel
theorem dX11_writeQuotient_59 : decode cX11_writeQuotient 59 = .ok (.iadd, 1) := by decide +kernel
theorem dX11_writeQuotient_60 : decode cX11_writeQuotient 60 = .ok (.if_icmp .gt 38, 3) := by decide +kernel
theorem dX11_writeQuotient_63 : decode cX11_writeQuotient 63 = .ok (.iload_n 3, 1) := by decide +kernel
theorem dX11_writeQuotient_64 : decode cX11_writeQuotient 64 = .ok (.aload_n 0, 1) := by decide +kernel
theorem dX11_writeQuotient_65 : decode cX11_writeQuotient 65 = .ok (.getfield 219, 3) := by decide +kernel
theorem dX11_writeQuotient_68 : decode cX11_writeQuotient 68 = .ok (.iconst 1, 1) := by decide +kernel
theorem dX11_writeQuotient_69 : decode cX11_writeQuotient 69 = .ok (.iadd, 1) := by decide +kernel
theorem dX11_writeQuotient_70 : decode cX11_writeQuotient 70 = .ok (.if_icmp .ne 9, 3) := by decide +kernel
theorem dX11_writeQuotient_73 : decode cX11_writeQuotient 73 = .ok (.aload_n 0, 1) := by decide +kernel
theorem dX11_writeQuotient_74 : decode cX11_writeQuotient 74 = .ok (.bipush 40, 2) := by decide +kernel
theorem dX11_writeQuotient_76 : decode cX11_writeQuotient 76 = .ok (.invokevirtual 297, 3) := by decide +kernel
theorem dX11_writeQuotient_79 : decode cX11_writeQuotient 79 = .ok (.aload_n 0, 1) := by decide +kernel
theorem dX11_writeQuotient_80 : decode cX11_writeQuotient 80 = .ok (.bipush 48, 2) := by decide +kernel
theorem dX11_writeQuotient_82 : decode cX11_writeQuotient 82 = .ok (.iload_n 1, 1) := by decide +kernel
theorem dX11_writeQuotient_83 : decode cX11_writeQuotient 83 = .ok (.iload_n 2, 1) := by decide +kernel
theorem dX11_writeQuotient_84 : decode cX11_writeQuotient 84 = .ok (.iload_n 3, 1) := by decide +kernel
theorem dX11_writeQuotient_85 : decode cX11_writeQuotient 85 = .ok (.invokestatic 216, 3) := by decide +kernel
theorem dX11_writeQuotient_88 : decode cX11_writeQuotient 88 = .ok (.iadd, 1) := by decide +kernel
theorem dX11_writeQuotient_89 : decode cX11_writeQuotient 89 = .ok (.invokevirtual 297, 3) := by decide +kernel
theorem dX11_writeQuotient_92 : decode cX11_writeQuotient 92 = .ok (.iinc 3 1, 3) := by decide +kernel
theorem dX11_writeQuotient_95 : decode cX11_writeQuotient 95 = .ok (.goto (-50), 3) := by decide +kernel
theorem dX11_writeQuotient_98 : decode cX11_writeQuotient 98 = .ok (.aload_n 0, 1) := by decide +kernel
theorem dX11_writeQuotient_99 : decode cX11_writeQuotient 99 = .ok (.bipush 41, 2) := by decide +kernel
theorem dX11_writeQuotient_101 : decode cX11_writeQuotient 101 = .ok (.invokevirtual 297, 3) := by decide +kernel
theorem dX11_writeQuotient_104 : decode cX11_writeQuotient 104 = .ok (.aload_n 0, 1) := by decide +kernel
theorem dX11_writeQuotient_105 : decode cX11_writeQuotient 105 = .ok (.getfield 294, 3) := by decide +kernel
theorem dX11_writeQuotient_108 : decode cX11_writeQuotient 108 = .ok (.ireturn, 1) := by decide +kernel
theorem dX11_outputAt_0 : decode cX11_outputAt 0 = .ok (.aload_n 0, 1) := by decide +kernel
theorem dX11_outputAt_1 : decode cX11_outputAt 1 = .ok (.iconst 0, 1) := by decide +kernel
theorem dX11_outputAt_2 : decode cX11_outputAt 2 = .ok (.putfield 56, 3) := by decide +kernel
theorem dX11_outputAt_5 : decode cX11_outputAt 5 = .ok (.iload_n 1, 1) := by decide +kernel
theorem dX11_outputAt_6 : decode cX11_outputAt 6 = .ok (.i2l, 1) := by decide +kernel
theorem dX11_outputAt_7 : decode cX11_outputAt 7 = .ok (.lconst 0, 1) := by decide +kernel
theorem dX11_outputAt_8 : decode cX11_outputAt 8 = .ok (.aload_n 0, 1) := by decide +kernel
theorem dX11_outputAt_9 : decode cX11_outputAt 9 = .ok (.getfield 294, 3) := by decide +kernel
theorem dX11_outputAt_12 : decode cX11_outputAt 12 = .ok (.iconst 1, 1) := by decide +kernel
theorem dX11_outputAt_13 : decode cX11_outputAt 13 = .ok (.isub, 1) := by decide +kernel
theorem dX11_outputAt_14 : decode cX11_outputAt 14 = .ok (.i2l, 1) := by decide +kernel
theorem dX11_outputAt_15 : decode cX11_outputAt 15 = .ok (.invokestatic 72, 3) := by decide +kernel
theorem dX11_outputAt_18 : decode cX11_outputAt 18 = .ok (.ifCond .eq 13, 3) := by decide +kernel
theorem dX11_outputAt_21 : decode cX11_outputAt 21 = .ok (.aload_n 0, 1) := by decide +kernel
theorem dX11_outputAt_22 : decode cX11_outputAt 22 = .ok (.getfield 53, 3) := by decide +kernel
theorem dX11_outputAt_25 : decode cX11_outputAt 25 = .ok (.iload_n 1, 1) := by decide +kernel
theorem dX11_outputAt_26 : decode cX11_outputAt 26 = .ok (.iaload, 1) := by decide +kernel
theorem dX11_outputAt_27 : decode cX11_outputAt 27 = .ok (.i2c, 1) := by decide +kernel
theorem dX11_outputAt_28 : decode cX11_outputAt 28 = .ok (.goto 9, 3) := by decide +kernel
theorem dX11_outputAt_31 : decode cX11_outputAt 31 = .ok (.aload_n 0, 1) := by decide +kernel
theorem dX11_outputAt_32 : decode cX11_outputAt 32 = .ok (.iconst 1, 1) := by decide +kernel
theorem dX11_outputAt_33 : decode cX11_outputAt 33 = .ok (.invokevirtual 119, 3) := by decide +kernel
theorem dX11_outputAt_36 : decode cX11_outputAt 36 = .ok (.i2c, 1) := by decide +kernel
theorem dX11_outputAt_37 : decode cX11_outputAt 37 = .ok (.ireturn, 1) := by decide +kernel
theorem dX11_undo_0 : decode cX11_undo 0 = .ok (.aload_n 0, 1) := by decide +kernel
theorem dX11_undo_1 : decode cX11_undo 1 = .ok (.iconst 0, 1) := by decide +kernel
theorem dX11_undo_2 : decode cX11_undo 2 = .ok (.putfield 56, 3) := by decide +kernel
theorem dX11_undo_5 : decode cX11_undo 5 = .ok (.aload_n 0, 1) := by decide +kernel
theorem dX11_undo_6 : decode cX11_undo 6 = .ok (.getfield 59, 3) := by decide +kernel
theorem dX11_undo_9 : decode cX11_undo 9 = .ok (.ifCond .ne 9, 3) := by decide +kernel
theorem dX11_undo_12 : decode cX11_undo 12 = .ok (.aload_n 0, 1) := by decide +kernel
theorem dX11_undo_13 : decode cX11_undo 13 = .ok (.iconst 1, 1) := by decide +kernel
theorem dX11_undo_14 : decode cX11_undo 14 = .ok (.invokevirtual 119, 3) := by decide +kernel
theorem dX11_undo_17 : decode cX11_undo 17 = .ok (.ireturn, 1) := by decide +kernel
theorem dX11_undo_18 : decode cX11_undo 18 = .ok (.aload_n 0, 1) := by decide +kernel
theorem dX11_undo_19 : decode cX11_undo 19 = .ok (.dup, 1) := by decide +kernel
theorem dX11_undo_20 : decode cX11_undo 20 = .ok (.getfield 59, 3) := by decide +kernel
theorem dX11_undo_23 : decode cX11_undo 23 = .ok (.iconst 1, 1) := by decide +kernel
theorem dX11_undo_24 : decode cX11_undo 24 = .ok (.isub, 1) := by decide +kernel
theorem dX11_undo_25 : decode cX11_undo 25 = .ok (.putfield 59, 3) := by decide +kernel
theorem dX11_undo_28 : decode cX11_undo 28 = .ok (.iconst 0, 1) := by decide +kernel
theorem dX11_undo_29 : decode cX11_undo 29 = .ok (.istore_n 1, 1) := by decide +kernel
theorem dX11_undo_30 : decode cX11_undo 30 = .ok (.iload_n 1, 1) := by decide +kernel
theorem dX11_undo_31 : decode cX11_undo 31 = .ok (.bipush 28, 2) := by decide +kernel
theorem dX11_undo_33 : decode cX11_undo 33 = .ok (.if_icmp .ge 29, 3) := by decide +kernel
theorem dX11_undo_36 : decode cX11_undo 36 = .ok (.aload_n 0, 1) := by decide +kernel
theorem dX11_undo_37 : decode cX11_undo 37 = .ok (.getfield 9, 3) := by decide +kernel
theorem dX11_undo_40 : decode cX11_undo 40 = .ok (.iload_n 1, 1) := by decide +kernel
theorem dX11_undo_41 : decode cX11_undo 41 = .ok (.aload_n 0, 1) := by decide +kernel
theorem dX11_undo_42 : decode cX11_undo 42 = .ok (.getfield 19, 3) := by decide +kernel
theorem dX11_undo_45 : decode cX11_undo 45 = .ok (.bipush 28, 2) := by decide +kernel
theorem dX11_undo_47 : decode cX11_undo 47 = .ok (.aload_n 0, 1) := by decide +kernel
theorem dX11_undo_48 : decode cX11_undo 48 = .ok (.getfield 59, 3) := by decide +kernel
theorem dX11_undo_51 : decode cX11_undo 51 = .ok (.imul, 1) := by decide +kernel
theorem dX11_undo_52 : decode cX11_undo 52 = .ok (.iload_n 1, 1) := by decide +kernel
theorem dX11_undo_53 : decode cX11_undo 53 = .ok (.iadd, 1) := by decide +kernel
theorem dX11_undo_54 : decode cX11_undo 54 = .ok (.laload, 1) := by decide +kernel
theorem dX11_undo_55 : decode cX11_undo 55 = .ok (.lastore, 1) := by decide +kernel
theorem dX11_undo_56 : decode cX11_undo 56 = .ok (.iinc 1 1, 3) := by decide +kernel
theorem dX11_undo_59 : decode cX11_undo 59 = .ok (.goto (-29), 3) := by decide +kernel
theorem dX11_undo_62 : decode cX11_undo 62 = .ok (.aload_n 0, 1) := by decide +kernel
theorem dX11_undo_63 : decode cX11_undo 63 = .ok (.getfield 59, 3) := by decide +kernel
theorem dX11_undo_66 : decode cX11_undo 66 = .ok (.ireturn, 1) := by decide +kernel
theorem dX11_save_0 : decode cX11_save 0 = .ok (.aload_n 0, 1) := by decide +kernel
theorem dX11_save_1 : decode cX11_save 1 = .ok (.iconst 0, 1) := by decide +kernel
theorem dX11_save_2 : decode cX11_save 2 = .ok (.putfield 56, 3) := by decide +kernel
theorem dX11_save_5 : decode cX11_save 5 = .ok (.iconst 0, 1) := by decide +kernel
theorem dX11_save_6 : decode cX11_save 6 = .ok (.istore_n 1, 1) := by decide +kernel
theorem dX11_save_7 : decode cX11_save 7 = .ok (.iload_n 1, 1) := by decide +kernel
theorem dX11_save_8 : decode cX11_save 8 = .ok (.bipush 28, 2) := by decide +kernel
theorem dX11_save_10 : decode cX11_save 10 = .ok (.if_icmp .ge 21, 3) := by decide +kernel
theorem dX11_save_13 : decode cX11_save 13 = .ok (.aload_n 0, 1) := by decide +kernel
theorem dX11_save_14 : decode cX11_save 14 = .ok (.getfield 16, 3) := by decide +kernel
theorem dX11_save_17 : decode cX11_save 17 = .ok (.iload_n 1, 1) := by decide +kernel
theorem dX11_save_18 : decode cX11_save 18 = .ok (.aload_n 0, 1) := by decide +kernel
theorem dX11_save_19 : decode cX11_save 19 = .ok (.getfield 9, 3) := by decide +kernel
theorem dX11_save_22 : decode cX11_save 22 = .ok (.iload_n 1, 1) := by decide +kernel
theorem dX11_save_23 : decode cX11_save 23 = .ok (.laload, 1) := by decide +kernel
theorem dX11_save_24 : decode cX11_save 24 = .ok (.lastore, 1) := by decide +kernel
theorem dX11_save_25 : decode cX11_save 25 = .ok (.iinc 1 1, 3) := by decide +kernel
theorem dX11_save_28 : decode cX11_save 28 = .ok (.goto (-21), 3) := by decide +kernel
theorem dX11_save_31 : decode cX11_save 31 = .ok (.aload_n 0, 1) := by decide +kernel
theorem dX11_save_32 : decode cX11_save 32 = .ok (.iconst 1, 1) := by decide +kernel
theorem dX11_save_33 : decode cX11_save 33 = .ok (.putfield 305, 3) := by decide +kernel
theorem dX11_save_36 : decode cX11_save 36 = .ok (.return_, 1) := by decide +kernel
theorem dX11_restore_0 : decode cX11_restore 0 = .ok (.aload_n 0, 1) := by decide +kernel
theorem dX11_restore_1 : decode cX11_restore 1 = .ok (.iconst 0, 1) := by decide +kernel
theorem dX11_restore_2 : decode cX11_restore 2 = .ok (.putfield 56, 3) := by decide +kernel
theorem dX11_restore_5 : decode cX11_restore 5 = .ok (.aload_n 0, 1) := by decide +kernel
theorem dX11_restore_6 : decode cX11_restore 6 = .ok (.getfield 305, 3) := by decide +kernel
theorem dX11_restore_9 : decode cX11_restore 9 = .ok (.ifCond .ne 10, 3) := by decide +kernel
theorem dX11_restore_12 : decode cX11_restore 12 = .ok (.aload_n 0, 1) := by decide +kernel
theorem dX11_restore_13 : decode cX11_restore 13 = .ok (.iconst 1, 1) := by decide +kernel
theorem dX11_restore_14 : decode cX11_restore 14 = .ok (.invokevirtual 119, 3) := by decide +kernel
theorem dX11_restore_17 : decode cX11_restore 17 = .ok (.pop, 1) := by decide +kernel
theorem dX11_restore_18 : decode cX11_restore 18 = .ok (.return_, 1) := by decide +kernel
theorem dX11_restore_19 : decode cX11_restore 19 = .ok (.iconst 0, 1) := by decide +kernel
theorem dX11_restore_20 : decode cX11_restore 20 = .ok (.istore_n 1, 1) := by decide +kernel
theorem dX11_restore_21 : decode cX11_restore 21 = .ok (.iload_n 1, 1) := by decide +kernel
theorem dX11_restore_22 : decode cX11_restore 22 = .ok (.bipush 28, 2) := by decide +kernel
theorem dX11_restore_24 : decode cX11_restore 24 = .ok (.if_icmp .ge 21, 3) := by decide +kernel
theorem dX11_restore_27 : decode cX11_restore 27 = .ok (.aload_n 0, 1) := by decide +kernel
theorem dX11_restore_28 : decode cX11_restore 28 = .ok (.getfield 9, 3) := by decide +kernel
theorem dX11_restore_31 : decode cX11_restore 31 = .ok (.iload_n 1, 1) := by decide +kernel
theorem dX11_restore_32 : decode cX11_restore 32 = .ok (.aload_n 0, 1) := by decide +kernel
theorem dX11_restore_33 : decode cX11_restore 33 = .ok (.getfield 16, 3) := by decide +kernel
theorem dX11_restore_36 : decode cX11_restore 36 = .ok (.iload_n 1, 1) := by decide +kernel
theorem dX11_restore_37 : decode cX11_restore 37 = .ok (.laload, 1) := by decide +kernel
theorem dX11_restore_38 : decode cX11_restore 38 = .ok (.lastore, 1) := by decide +kernel
theorem dX11_restore_39 : decode cX11_restore 39 = .ok (.iinc 1 1, 3) := by decide +kernel
theorem dX11_restore_42 : decode cX11_restore 42 = .ok (.goto (-21), 3) := by decide +kernel
theorem dX11_restore_45 : decode cX11_restore 45 = .ok (.aload_n 0, 1) := by decide +kernel
theorem dX11_restore_46 : decode cX11_restore 46 = .ok (.iconst 0, 1) := by decide +kernel
theorem dX11_restore_47 : decode cX11_restore 47 = .ok (.putfield 59, 3) := by decide +kernel
theorem dX11_restore_50 : decode cX11_restore 50 = .ok (.return_, 1) := by decide +kernel
theorem dJx00060_init_a7421_0 : decode cJx00060_init_a7421 0 = .ok (.aload_n 0, 1) := by decide +kernel
theorem dJx00060_init_a7421_1 : decode cJx00060_init_a7421 1 = .ok (.aload_n 1, 1) := by decide +kernel
theorem dJx00060_init_a7421_2 : decode cJx00060_init_a7421 2 = .ok (.invokespecial 7, 3) := by decide +kernel
theorem dJx00060_init_a7421_5 : decode cJx00060_init_a7421 5 = .ok (.return_, 1) := by decide +kernel
theorem dJ11_isValidCodePoint_9a6ad_0 : decode cJ11_isValidCodePoint_9a6ad 0 = .ok (.iload_n 0, 1) := by decide +kernel
theorem dJ11_isValidCodePoint_9a6ad_1 : decode cJ11_isValidCodePoint_9a6ad 1 = .ok (.bipush 16, 2) := by decide +kernel
theorem dJ11_isValidCodePoint_9a6ad_3 : decode cJ11_isValidCodePoint_9a6ad 3 = .ok (.iushr, 1) := by decide +kernel
theorem dJ11_isValidCodePoint_9a6ad_4 : decode cJ11_isValidCodePoint_9a6ad 4 = .ok (.istore_n 1, 1) := by decide +kernel
theorem dJ11_isValidCodePoint_9a6ad_5 : decode cJ11_isValidCodePoint_9a6ad 5 = .ok (.iload_n 1, 1) := by decide +kernel
theorem dJ11_isValidCodePoint_9a6ad_6 : decode cJ11_isValidCodePoint_9a6ad 6 = .ok (.bipush 17, 2) := by decide +kernel
theorem dJ11_isValidCodePoint_9a6ad_8 : decode cJ11_isValidCodePoint_9a6ad 8 = .ok (.if_icmp .ge 7, 3) := by decide +kernel
theorem dJ11_isValidCodePoint_9a6ad_11 : decode cJ11_isValidCodePoint_9a6ad 11 = .ok (.iconst 1, 1) := by decide +kernel
theorem dJ11_isValidCodePoint_9a6ad_12 : decode cJ11_isValidCodePoint_9a6ad 12 = .ok (.goto 4, 3) := by decide +kernel
theorem dJ11_isValidCodePoint_9a6ad_15 : decode cJ11_isValidCodePoint_9a6ad 15 = .ok (.iconst 0, 1) := by decide +kernel
theorem dJ11_isValidCodePoint_9a6ad_16 : decode cJ11_isValidCodePoint_9a6ad 16 = .ok (.ireturn, 1) := by decide +kernel
theorem dJ11_highSurrogate_5068e_0 : decode cJ11_highSurrogate_5068e 0 = .ok (.iload_n 0, 1) := by decide +kernel
theorem dJ11_highSurrogate_5068e_1 : decode cJ11_highSurrogate_5068e 1 = .ok (.bipush 10, 2) := by decide +kernel
theorem dJ11_highSurrogate_5068e_3 : decode cJ11_highSurrogate_5068e 3 = .ok (.iushr, 1) := by decide +kernel
theorem dJ11_highSurrogate_5068e_4 : decode cJ11_highSurrogate_5068e 4 = .ok (.ldc 110, 2) := by decide +kernel
theorem dJ11_highSurrogate_5068e_6 : decode cJ11_highSurrogate_5068e 6 = .ok (.iadd, 1) := by decide +kernel
theorem dJ11_highSurrogate_5068e_7 : decode cJ11_highSurrogate_5068e 7 = .ok (.i2c, 1) := by decide +kernel
theorem dJ11_highSurrogate_5068e_8 : decode cJ11_highSurrogate_5068e 8 = .ok (.ireturn, 1) := by decide +kernel
theorem dJ11_lowSurrogate_5068e_0 : decode cJ11_lowSurrogate_5068e 0 = .ok (.iload_n 0, 1) := by decide +kernel
theorem dJ11_lowSurrogate_5068e_1 : decode cJ11_lowSurrogate_5068e 1 = .ok (.sipush 1023, 3) := by decide +kernel
theorem dJ11_lowSurrogate_5068e_4 : decode cJ11_lowSurrogate_5068e 4 = .ok (.iand, 1) := by decide +kernel
theorem dJ11_lowSurrogate_5068e_5 : decode cJ11_lowSurrogate_5068e 5 = .ok (.ldc 76, 2) := by decide +kernel
theorem dJ11_lowSurrogate_5068e_7 : decode cJ11_lowSurrogate_5068e 7 = .ok (.iadd, 1) := by decide +kernel
theorem dJ11_lowSurrogate_5068e_8 : decode cJ11_lowSurrogate_5068e 8 = .ok (.i2c, 1) := by decide +kernel
theorem dJ11_lowSurrogate_5068e_9 : decode cJ11_lowSurrogate_5068e 9 = .ok (.ireturn, 1) := by decide +kernel
theorem dJx29ce0_ordinal_8abf5_0 : decode cJx29ce0_ordinal_8abf5 0 = .ok (.aload_n 0, 1) := by decide +kernel
theorem dJx29ce0_ordinal_8abf5_1 : decode cJx29ce0_ordinal_8abf5 1 = .ok (.getfield 7, 3) := by decide +kernel
theorem dJx29ce0_ordinal_8abf5_4 : decode cJx29ce0_ordinal_8abf5 4 = .ok (.ireturn, 1) := by decide +kernel
theorem dJ6_bitCount_0f7a4_0 : decode cJ6_bitCount_0f7a4 0 = .ok (.iload_n 0, 1) := by decide +kernel
theorem dJ6_bitCount_0f7a4_1 : decode cJ6_bitCount_0f7a4 1 = .ok (.iload_n 0, 1) := by decide +kernel
theorem dJ6_bitCount_0f7a4_2 : decode cJ6_bitCount_0f7a4 2 = .ok (.iconst 1, 1) := by decide +kernel
theorem dJ6_bitCount_0f7a4_3 : decode cJ6_bitCount_0f7a4 3 = .ok (.iushr, 1) := by decide +kernel
theorem dJ6_bitCount_0f7a4_4 : decode cJ6_bitCount_0f7a4 4 = .ok (.ldc_w 265, 3) := by decide +kernel
theorem dJ6_bitCount_0f7a4_7 : decode cJ6_bitCount_0f7a4 7 = .ok (.iand, 1) := by decide +kernel
theorem dJ6_bitCount_0f7a4_8 : decode cJ6_bitCount_0f7a4 8 = .ok (.isub, 1) := by decide +kernel
theorem dJ6_bitCount_0f7a4_9 : decode cJ6_bitCount_0f7a4 9 = .ok (.istore_n 0, 1) := by decide +kernel
theorem dJ6_bitCount_0f7a4_10 : decode cJ6_bitCount_0f7a4 10 = .ok (.iload_n 0, 1) := by decide +kernel
theorem dJ6_bitCount_0f7a4_11 : decode cJ6_bitCount_0f7a4 11 = .ok (.ldc_w 266, 3) := by decide +kernel
theorem dJ6_bitCount_0f7a4_14 : decode cJ6_bitCount_0f7a4 14 = .ok (.iand, 1) := by decide +kernel
theorem dJ6_bitCount_0f7a4_15 : decode cJ6_bitCount_0f7a4 15 = .ok (.iload_n 0, 1) := by decide +kernel
theorem dJ6_bitCount_0f7a4_16 : decode cJ6_bitCount_0f7a4 16 = .ok (.iconst 2, 1) := by decide +kernel
theorem dJ6_bitCount_0f7a4_17 : decode cJ6_bitCount_0f7a4 17 = .ok (.iushr, 1) := by decide +kernel
theorem dJ6_bitCount_0f7a4_18 : decode cJ6_bitCount_0f7a4 18 = .ok (.ldc_w 266, 3) := by decide +kernel
theorem dJ6_bitCount_0f7a4_21 : decode cJ6_bitCount_0f7a4 21 = .ok (.iand, 1) := by decide +kernel
theorem dJ6_bitCount_0f7a4_22 : decode cJ6_bitCount_0f7a4 22 = .ok (.iadd, 1) := by decide +kernel
theorem dJ6_bitCount_0f7a4_23 : decode cJ6_bitCount_0f7a4 23 = .ok (.istore_n 0, 1) := by decide +kernel
theorem dJ6_bitCount_0f7a4_24 : decode cJ6_bitCount_0f7a4 24 = .ok (.iload_n 0, 1) := by decide +kernel
theorem dJ6_bitCount_0f7a4_25 : decode cJ6_bitCount_0f7a4 25 = .ok (.iload_n 0, 1) := by decide +kernel
theorem dJ6_bitCount_0f7a4_26 : decode cJ6_bitCount_0f7a4 26 = .ok (.iconst 4, 1) := by decide +kernel
theorem dJ6_bitCount_0f7a4_27 : decode cJ6_bitCount_0f7a4 27 = .ok (.iushr, 1) := by decide +kernel
theorem dJ6_bitCount_0f7a4_28 : decode cJ6_bitCount_0f7a4 28 = .ok (.iadd, 1) := by decide +kernel
theorem dJ6_bitCount_0f7a4_29 : decode cJ6_bitCount_0f7a4 29 = .ok (.ldc_w 267, 3) := by decide +kernel
theorem dJ6_bitCount_0f7a4_32 : decode cJ6_bitCount_0f7a4 32 = .ok (.iand, 1) := by decide +kernel
theorem dJ6_bitCount_0f7a4_33 : decode cJ6_bitCount_0f7a4 33 = .ok (.istore_n 0, 1) := by decide +kernel
theorem dJ6_bitCount_0f7a4_34 : decode cJ6_bitCount_0f7a4 34 = .ok (.iload_n 0, 1) := by decide +kernel
theorem dJ6_bitCount_0f7a4_35 : decode cJ6_bitCount_0f7a4 35 = .ok (.iload_n 0, 1) := by decide +kernel
theorem dJ6_bitCount_0f7a4_36 : decode cJ6_bitCount_0f7a4 36 = .ok (.bipush 8, 2) := by decide +kernel
theorem dJ6_bitCount_0f7a4_38 : decode cJ6_bitCount_0f7a4 38 = .ok (.iushr, 1) := by decide +kernel
theorem dJ6_bitCount_0f7a4_39 : decode cJ6_bitCount_0f7a4 39 = .ok (.iadd, 1) := by decide +kernel
theorem dJ6_bitCount_0f7a4_40 : decode cJ6_bitCount_0f7a4 40 = .ok (.istore_n 0, 1) := by decide +kernel
theorem dJ6_bitCount_0f7a4_41 : decode cJ6_bitCount_0f7a4 41 = .ok (.iload_n 0, 1) := by decide +kernel
theorem dJ6_bitCount_0f7a4_42 : decode cJ6_bitCount_0f7a4 42 = .ok (.iload_n 0, 1) := by decide +kernel
theorem dJ6_bitCount_0f7a4_43 : decode cJ6_bitCount_0f7a4 43 = .ok (.bipush 16, 2) := by decide +kernel
theorem dJ6_bitCount_0f7a4_45 : decode cJ6_bitCount_0f7a4 45 = .ok (.iushr, 1) := by decide +kernel
theorem dJ6_bitCount_0f7a4_46 : decode cJ6_bitCount_0f7a4 46 = .ok (.iadd, 1) := by decide +kernel
theorem dJ6_bitCount_0f7a4_47 : decode cJ6_bitCount_0f7a4 47 = .ok (.istore_n 0, 1) := by decide +kernel
theorem dJ6_bitCount_0f7a4_48 : decode cJ6_bitCount_0f7a4 48 = .ok (.iload_n 0, 1) := by decide +kernel
theorem dJ6_bitCount_0f7a4_49 : decode cJ6_bitCount_0f7a4 49 = .ok (.bipush 63, 2) := by decide +kernel
theorem dJ6_bitCount_0f7a4_51 : decode cJ6_bitCount_0f7a4 51 = .ok (.iand, 1) := by decide +kernel
theorem dJ6_bitCount_0f7a4_52 : decode cJ6_bitCount_0f7a4 52 = .ok (.ireturn, 1) := by decide +kernel
theorem dJ9_abs_067f4_0 : decode cJ9_abs_067f4 0 = .ok (.lload_n 0, 1) := by decide +kernel
theorem dJ9_abs_067f4_1 : decode cJ9_abs_067f4 1 = .ok (.lconst 0, 1) := by decide +kernel
theorem dJ9_abs_067f4_2 : decode cJ9_abs_067f4 2 = .ok (.lcmp, 1) := by decide +kernel
theorem dJ9_abs_067f4_3 : decode cJ9_abs_067f4 3 = .ok (.ifCond .ge 8, 3) := by decide +kernel
theorem dJ9_abs_067f4_6 : decode cJ9_abs_067f4 6 = .ok (.lload_n 0, 1) := by decide +kernel
theorem dJ9_abs_067f4_7 : decode cJ9_abs_067f4 7 = .ok (.lneg, 1) := by decide +kernel
theorem dJ9_abs_067f4_8 : decode cJ9_abs_067f4 8 = .ok (.goto 4, 3) := by decide +kernel
theorem dJ9_abs_067f4_11 : decode cJ9_abs_067f4 11 = .ok (.lload_n 0, 1) := by decide +kernel
theorem dJ9_abs_067f4_12 : decode cJ9_abs_067f4 12 = .ok (.lreturn, 1) := by decide +kernel
theorem dJ9_max_7cf53_0 : decode cJ9_max_7cf53 0 = .ok (.iload_n 0, 1) := by decide +kernel
theorem dJ9_max_7cf53_1 : decode cJ9_max_7cf53 1 = .ok (.iload_n 1, 1) := by decide +kernel
theorem dJ9_max_7cf53_2 : decode cJ9_max_7cf53 2 = .ok (.if_icmp .lt 7, 3) := by decide +kernel
theorem dJ9_max_7cf53_5 : decode cJ9_max_7cf53 5 = .ok (.iload_n 0, 1) := by decide +kernel
theorem dJ9_max_7cf53_6 : decode cJ9_max_7cf53 6 = .ok (.goto 4, 3) := by decide +kernel
theorem dJ9_max_7cf53_9 : decode cJ9_max_7cf53 9 = .ok (.iload_n 1, 1) := by decide +kernel
theorem dJ9_max_7cf53_10 : decode cJ9_max_7cf53 10 = .ok (.ireturn, 1) := by decide +kernel
theorem dJ9_min_7cf53_0 : decode cJ9_min_7cf53 0 = .ok (.iload_n 0, 1) := by decide +kernel
theorem dJ9_min_7cf53_1 : decode cJ9_min_7cf53 1 = .ok (.iload_n 1, 1) := by decide +kernel
theorem dJ9_min_7cf53_2 : decode cJ9_min_7cf53 2 = .ok (.if_icmp .gt 7, 3) := by decide +kernel
theorem dJ9_min_7cf53_5 : decode cJ9_min_7cf53 5 = .ok (.iload_n 0, 1) := by decide +kernel
theorem dJ9_min_7cf53_6 : decode cJ9_min_7cf53 6 = .ok (.goto 4, 3) := by decide +kernel
theorem dJ9_min_7cf53_9 : decode cJ9_min_7cf53 9 = .ok (.iload_n 1, 1) := by decide +kernel
theorem dJ9_min_7cf53_10 : decode cJ9_min_7cf53 10 = .ok (.ireturn, 1) := by decide +kernel
theorem dJ9_min_f86c9_0 : decode cJ9_min_f86c9 0 = .ok (.lload_n 0, 1) := by decide +kernel
theorem dJ9_min_f86c9_1 : decode cJ9_min_f86c9 1 = .ok (.lload_n 2, 1) := by decide +kernel
theorem dJ9_min_f86c9_2 : decode cJ9_min_f86c9 2 = .ok (.lcmp, 1) := by decide +kernel
theorem dJ9_min_f86c9_3 : decode cJ9_min_f86c9 3 = .ok (.ifCond .gt 7, 3) := by decide +kernel
theorem dJ9_min_f86c9_6 : decode cJ9_min_f86c9 6 = .ok (.lload_n 0, 1) := by decide +kernel
theorem dJ9_min_f86c9_7 : decode cJ9_min_f86c9 7 = .ok (.goto 4, 3) := by decide +kernel
theorem dJ9_min_f86c9_10 : decode cJ9_min_f86c9 10 = .ok (.lload_n 2, 1) := by decide +kernel
theorem dJ9_min_f86c9_11 : decode cJ9_min_f86c9 11 = .ok (.lreturn, 1) := by decide +kernel
theorem dJ0_length_8abf5_0 : decode cJ0_length_8abf5 0 = .ok (.aload_n 0, 1) := by decide +kernel
theorem dJ0_length_8abf5_1 : decode cJ0_length_8abf5 1 = .ok (.getfield 9, 3) := by decide +kernel
theorem dJ0_length_8abf5_4 : decode cJ0_length_8abf5 4 = .ok (.arraylength, 1) := by decide +kernel
theorem dJ0_length_8abf5_5 : decode cJ0_length_8abf5 5 = .ok (.aload_n 0, 1) := by decide +kernel
theorem dJ0_length_8abf5_6 : decode cJ0_length_8abf5 6 = .ok (.invokevirtual 335, 3) := by decide +kernel
theorem dJ0_length_8abf5_9 : decode cJ0_length_8abf5 9 = .ok (.ishr, 1) := by decide +kernel
theorem dJ0_length_8abf5_10 : decode cJ0_length_8abf5 10 = .ok (.ireturn, 1) := by decide +kernel
theorem dJ0_charAt_5068e_0 : decode cJ0_charAt_5068e 0 = .ok (.aload_n 0, 1) := by decide +kernel
theorem dJ0_charAt_5068e_1 : decode cJ0_charAt_5068e 1 = .ok (.invokevirtual 492, 3) := by decide +kernel
theorem dJ0_charAt_5068e_4 : decode cJ0_charAt_5068e 4 = .ok (.ifCond .eq 12, 3) := by decide +kernel
theorem dJ0_charAt_5068e_7 : decode cJ0_charAt_5068e 7 = .ok (.aload_n 0, 1) := by decide +kernel
theorem dJ0_charAt_5068e_8 : decode cJ0_charAt_5068e 8 = .ok (.getfield 9, 3) := by decide +kernel
theorem dJ0_charAt_5068e_11 : decode cJ0_charAt_5068e 11 = .ok (.iload_n 1, 1) := by decide +kernel
theorem dJ0_charAt_5068e_12 : decode cJ0_charAt_5068e 12 = .ok (.invokestatic 495, 3) := by decide +kernel
theorem dJ0_charAt_5068e_15 : decode cJ0_charAt_5068e 15 = .ok (.ireturn, 1) := by decide +kernel
theorem dJ0_charAt_5068e_16 : decode cJ0_charAt_5068e 16 = .ok (.aload_n 0, 1) := by decide +kernel
theorem dJ0_charAt_5068e_17 : decode cJ0_charAt_5068e 17 = .ok (.getfield 9, 3) := by decide +kernel
theorem dJ0_charAt_5068e_20 : decode cJ0_charAt_5068e 20 = .ok (.iload_n 1, 1) := by decide +kernel
theorem dJ0_charAt_5068e_21 : decode cJ0_charAt_5068e 21 = .ok (.invokestatic 498, 3) := by decide +kernel
theorem dJ0_charAt_5068e_24 : decode cJ0_charAt_5068e 24 = .ok (.ireturn, 1) := by decide +kernel
theorem dJ0_indexOf_0f7a4_0 : decode cJ0_indexOf_0f7a4 0 = .ok (.aload_n 0, 1) := by decide +kernel
theorem dJ0_indexOf_0f7a4_1 : decode cJ0_indexOf_0f7a4 1 = .ok (.iload_n 1, 1) := by decide +kernel
theorem dJ0_indexOf_0f7a4_2 : decode cJ0_indexOf_0f7a4 2 = .ok (.iconst 0, 1) := by decide +kernel
theorem dJ0_indexOf_0f7a4_3 : decode cJ0_indexOf_0f7a4 3 = .ok (.invokevirtual 633, 3) := by decide +kernel
theorem dJ0_indexOf_0f7a4_6 : decode cJ0_indexOf_0f7a4 6 = .ok (.ireturn, 1) := by decide +kernel
theorem dJ0_indexOf_7cf53_0 : decode cJ0_indexOf_7cf53 0 = .ok (.aload_n 0, 1) := by decide +kernel
theorem dJ0_indexOf_7cf53_1 : decode cJ0_indexOf_7cf53 1 = .ok (.invokevirtual 492, 3) := by decide +kernel
theorem dJ0_indexOf_7cf53_4 : decode cJ0_indexOf_7cf53 4 = .ok (.ifCond .eq 19, 3) := by decide +kernel
theorem dJ0_indexOf_7cf53_7 : decode cJ0_indexOf_7cf53 7 = .ok (.aload_n 0, 1) := by decide +kernel
theorem dJ0_indexOf_7cf53_8 : decode cJ0_indexOf_7cf53 8 = .ok (.getfield 9, 3) := by decide +kernel
theorem dJ0_indexOf_7cf53_11 : decode cJ0_indexOf_7cf53 11 = .ok (.iload_n 1, 1) := by decide +kernel
theorem dJ0_indexOf_7cf53_12 : decode cJ0_indexOf_7cf53 12 = .ok (.iload_n 2, 1) := by decide +kernel
theorem dJ0_indexOf_7cf53_13 : decode cJ0_indexOf_7cf53 13 = .ok (.aload_n 0, 1) := by decide +kernel
theorem dJ0_indexOf_7cf53_14 : decode cJ0_indexOf_7cf53 14 = .ok (.invokevirtual 505, 3) := by decide +kernel
theorem dJ0_indexOf_7cf53_17 : decode cJ0_indexOf_7cf53 17 = .ok (.invokestatic 637, 3) := by decide +kernel
theorem dJ0_indexOf_7cf53_20 : decode cJ0_indexOf_7cf53 20 = .ok (.goto 16, 3) := by decide +kernel
theorem dJ0_indexOf_7cf53_23 : decode cJ0_indexOf_7cf53 23 = .ok (.aload_n 0, 1) := by decide +kernel
theorem dJ0_indexOf_7cf53_24 : decode cJ0_indexOf_7cf53 24 = .ok (.getfield 9, 3) := by decide +kernel
theorem dJ0_indexOf_7cf53_27 : decode cJ0_indexOf_7cf53 27 = .ok (.iload_n 1, 1) := by decide +kernel
theorem dJ0_indexOf_7cf53_28 : decode cJ0_indexOf_7cf53 28 = .ok (.iload_n 2, 1) := by decide +kernel
theorem dJ0_indexOf_7cf53_29 : decode cJ0_indexOf_7cf53 29 = .ok (.aload_n 0, 1) := by decide +kernel
theorem dJ0_indexOf_7cf53_30 : decode cJ0_indexOf_7cf53 30 = .ok (.invokevirtual 505, 3) := by decide +kernel
theorem dJ0_indexOf_7cf53_33 : decode cJ0_indexOf_7cf53 33 = .ok (.invokestatic 640, 3) := by decide +kernel
theorem dJ0_indexOf_7cf53_36 : decode cJ0_indexOf_7cf53 36 = .ok (.ireturn, 1) := by decide +kernel
theorem dJ0_coder_7d493_0 : decode cJ0_coder_7d493 0 = .ok (.getstatic 38, 3) := by decide +kernel
theorem dJ0_coder_7d493_3 : decode cJ0_coder_7d493 3 = .ok (.ifCond .eq 10, 3) := by decide +kernel
theorem dJ0_coder_7d493_6 : decode cJ0_coder_7d493 6 = .ok (.aload_n 0, 1) := by decide +kernel
theorem dJ0_coder_7d493_7 : decode cJ0_coder_7d493 7 = .ok (.getfield 15, 3) := by decide +kernel
theorem dJ0_coder_7d493_10 : decode cJ0_coder_7d493 10 = .ok (.goto 4, 3) := by decide +kernel
theorem dJ0_coder_7d493_13 : decode cJ0_coder_7d493 13 = .ok (.iconst 1, 1) := by decide +kernel
theorem dJ0_coder_7d493_14 : decode cJ0_coder_7d493 14 = .ok (.ireturn, 1) := by decide +kernel
theorem dJ0_isLatin1_aae02_0 : decode cJ0_isLatin1_aae02 0 = .ok (.getstatic 38, 3) := by decide +kernel
theorem dJ0_isLatin1_aae02_3 : decode cJ0_isLatin1_aae02 3 = .ok (.ifCond .eq 14, 3) := by decide +kernel
theorem dJ0_isLatin1_aae02_6 : decode cJ0_isLatin1_aae02 6 = .ok (.aload_n 0, 1) := by decide +kernel
theorem dJ0_isLatin1_aae02_7 : decode cJ0_isLatin1_aae02 7 = .ok (.getfield 15, 3) := by decide +kernel
theorem dJ0_isLatin1_aae02_10 : decode cJ0_isLatin1_aae02 10 = .ok (.ifCond .ne 7, 3) := by decide +kernel
theorem dJ0_isLatin1_aae02_13 : decode cJ0_isLatin1_aae02 13 = .ok (.iconst 1, 1) := by decide +kernel
theorem dJ0_isLatin1_aae02_14 : decode cJ0_isLatin1_aae02 14 = .ok (.goto 4, 3) := by decide +kernel
theorem dJ0_isLatin1_aae02_17 : decode cJ0_isLatin1_aae02 17 = .ok (.iconst 0, 1) := by decide +kernel
theorem dJ0_isLatin1_aae02_18 : decode cJ0_isLatin1_aae02 18 = .ok (.ireturn, 1) := by decide +kernel
theorem dJ0_checkIndex_df160_0 : decode cJ0_checkIndex_df160 0 = .ok (.iload_n 0, 1) := by decide +kernel
theorem dJ0_checkIndex_df160_1 : decode cJ0_checkIndex_df160 1 = .ok (.iload_n 1, 1) := by decide +kernel
theorem dJ0_checkIndex_df160_2 : decode cJ0_checkIndex_df160 2 = .ok (.getstatic 1053, 3) := by decide +kernel
theorem dJ0_checkIndex_df160_5 : decode cJ0_checkIndex_df160 5 = .ok (.invokestatic 1059, 3) := by decide +kernel
theorem dJ0_checkIndex_df160_8 : decode cJ0_checkIndex_df160 8 = .ok (.pop, 1) := by decide +kernel
theorem dJ0_checkIndex_df160_9 : decode cJ0_checkIndex_df160 9 = .ok (.return_, 1) := by decide +kernel
theorem dJ0_checkBoundsBeginEnd_23922_0 : decode cJ0_checkBoundsBeginEnd_23922 0 = .ok (.iload_n 0, 1) := by decide +kernel
theorem dJ0_checkBoundsBeginEnd_23922_1 : decode cJ0_checkBoundsBeginEnd_23922 1 = .ok (.iload_n 1, 1) := by decide +kernel
theorem dJ0_checkBoundsBeginEnd_23922_2 : decode cJ0_checkBoundsBeginEnd_23922 2 = .ok (.iload_n 2, 1) := by decide +kernel
theorem dJ0_checkBoundsBeginEnd_23922_3 : decode cJ0_checkBoundsBeginEnd_23922 3 = .ok (.getstatic 1053, 3) := by decide +kernel
theorem dJ0_checkBoundsBeginEnd_23922_6 : decode cJ0_checkBoundsBeginEnd_23922 6 = .ok (.invokestatic 1062, 3) := by decide +kernel
theorem dJ0_checkBoundsBeginEnd_23922_9 : decode cJ0_checkBoundsBeginEnd_23922 9 = .ok (.pop, 1) := by decide +kernel
theorem dJ0_checkBoundsBeginEnd_23922_10 : decode cJ0_checkBoundsBeginEnd_23922 10 = .ok (.return_, 1) := by decide +kernel
theorem dJ1_charAt_3b067_0 : decode cJ1_charAt_3b067 0 = .ok (.iload_n 1, 1) := by decide +kernel
theorem dJ1_charAt_3b067_1 : decode cJ1_charAt_3b067 1 = .ok (.aload_n 0, 1) := by decide +kernel
theorem dJ1_charAt_3b067_2 : decode cJ1_charAt_3b067 2 = .ok (.arraylength, 1) := by decide +kernel
theorem dJ1_charAt_3b067_3 : decode cJ1_charAt_3b067 3 = .ok (.invokestatic 9, 3) := by decide +kernel
theorem dJ1_charAt_3b067_6 : decode cJ1_charAt_3b067 6 = .ok (.aload_n 0, 1) := by decide +kernel
theorem dJ1_charAt_3b067_7 : decode cJ1_charAt_3b067 7 = .ok (.iload_n 1, 1) := by decide +kernel
theorem dJ1_charAt_3b067_8 : decode cJ1_charAt_3b067 8 = .ok (.baload, 1) := by decide +kernel
theorem dJ1_charAt_3b067_9 : decode cJ1_charAt_3b067 9 = .ok (.sipush 255, 3) := by decide +kernel
theorem dJ1_charAt_3b067_12 : decode cJ1_charAt_3b067 12 = .ok (.iand, 1) := by decide +kernel
theorem dJ1_charAt_3b067_13 : decode cJ1_charAt_3b067 13 = .ok (.i2c, 1) := by decide +kernel
theorem dJ1_charAt_3b067_14 : decode cJ1_charAt_3b067 14 = .ok (.ireturn, 1) := by decide +kernel
theorem dJ1_canEncode_9a6ad_0 : decode cJ1_canEncode_9a6ad 0 = .ok (.iload_n 0, 1) := by decide +kernel
theorem dJ1_canEncode_9a6ad_1 : decode cJ1_canEncode_9a6ad 1 = .ok (.ifCond .lt 14, 3) := by decide +kernel
theorem dJ1_canEncode_9a6ad_4 : decode cJ1_canEncode_9a6ad 4 = .ok (.iload_n 0, 1) := by decide +kernel
theorem dJ1_canEncode_9a6ad_5 : decode cJ1_canEncode_9a6ad 5 = .ok (.sipush 255, 3) := by decide +kernel
theorem dJ1_canEncode_9a6ad_8 : decode cJ1_canEncode_9a6ad 8 = .ok (.if_icmp .gt 7, 3) := by decide +kernel
theorem dJ1_canEncode_9a6ad_11 : decode cJ1_canEncode_9a6ad 11 = .ok (.iconst 1, 1) := by decide +kernel
theorem dJ1_canEncode_9a6ad_12 : decode cJ1_canEncode_9a6ad 12 = .ok (.goto 4, 3) := by decide +kernel
theorem dJ1_canEncode_9a6ad_15 : decode cJ1_canEncode_9a6ad 15 = .ok (.iconst 0, 1) := by decide +kernel
theorem dJ1_canEncode_9a6ad_16 : decode cJ1_canEncode_9a6ad 16 = .ok (.ireturn, 1) := by decide +kernel
theorem dJ1_indexOf_4cfef_0 : decode cJ1_indexOf_4cfef 0 = .ok (.iload_n 1, 1) := by decide +kernel
theorem dJ1_indexOf_4cfef_1 : decode cJ1_indexOf_4cfef 1 = .ok (.invokestatic 88, 3) := by decide +kernel
theorem dJ1_indexOf_4cfef_4 : decode cJ1_indexOf_4cfef 4 = .ok (.ifCond .ne 5, 3) := by decide +kernel
theorem dJ1_indexOf_4cfef_7 : decode cJ1_indexOf_4cfef 7 = .ok (.iconst (-1), 1) := by decide +kernel
theorem dJ1_indexOf_4cfef_8 : decode cJ1_indexOf_4cfef 8 = .ok (.ireturn, 1) := by decide +kernel
theorem dJ1_indexOf_4cfef_9 : decode cJ1_indexOf_4cfef 9 = .ok (.iload_n 2, 1) := by decide +kernel
theorem dJ1_indexOf_4cfef_10 : decode cJ1_indexOf_4cfef 10 = .ok (.iconst 0, 1) := by decide +kernel
theorem dJ1_indexOf_4cfef_11 : decode cJ1_indexOf_4cfef 11 = .ok (.invokestatic 92, 3) := by decide +kernel
theorem dJ1_indexOf_4cfef_14 : decode cJ1_indexOf_4cfef 14 = .ok (.istore_n 2, 1) := by decide +kernel
theorem dJ1_indexOf_4cfef_15 : decode cJ1_indexOf_4cfef 15 = .ok (.iload_n 3, 1) := by decide +kernel
theorem dJ1_indexOf_4cfef_16 : decode cJ1_indexOf_4cfef 16 = .ok (.aload_n 0, 1) := by decide +kernel
theorem dJ1_indexOf_4cfef_17 : decode cJ1_indexOf_4cfef 17 = .ok (.arraylength, 1) := by decide +kernel
theorem dJ1_indexOf_4cfef_18 : decode cJ1_indexOf_4cfef 18 = .ok (.invokestatic 38, 3) := by decide +kernel
theorem dJ1_indexOf_4cfef_21 : decode cJ1_indexOf_4cfef 21 = .ok (.istore_n 3, 1) := by decide +kernel
theorem dJ1_indexOf_4cfef_22 : decode cJ1_indexOf_4cfef 22 = .ok (.iload_n 2, 1) := by decide +kernel
theorem dJ1_indexOf_4cfef_23 : decode cJ1_indexOf_4cfef 23 = .ok (.iload_n 3, 1) := by decide +kernel
theorem dJ1_indexOf_4cfef_24 : decode cJ1_indexOf_4cfef 24 = .ok (.if_icmp .lt 5, 3) := by decide +kernel
theorem dJ1_indexOf_4cfef_27 : decode cJ1_indexOf_4cfef 27 = .ok (.iconst (-1), 1) := by decide +kernel
theorem dJ1_indexOf_4cfef_28 : decode cJ1_indexOf_4cfef 28 = .ok (.ireturn, 1) := by decide +kernel
theorem dJ1_indexOf_4cfef_29 : decode cJ1_indexOf_4cfef 29 = .ok (.aload_n 0, 1) := by decide +kernel
theorem dJ1_indexOf_4cfef_30 : decode cJ1_indexOf_4cfef 30 = .ok (.iload_n 1, 1) := by decide +kernel
theorem dJ1_indexOf_4cfef_31 : decode cJ1_indexOf_4cfef 31 = .ok (.iload_n 2, 1) := by decide +kernel
theorem dJ1_indexOf_4cfef_32 : decode cJ1_indexOf_4cfef 32 = .ok (.iload_n 3, 1) := by decide +kernel
theorem dJ1_indexOf_4cfef_33 : decode cJ1_indexOf_4cfef 33 = .ok (.invokestatic 95, 3) := by decide +kernel
theorem dJ1_indexOf_4cfef_36 : decode cJ1_indexOf_4cfef 36 = .ok (.ireturn, 1) := by decide +kernel
theorem dJ1_indexOfChar_4cfef_0 : decode cJ1_indexOfChar_4cfef 0 = .ok (.iload_n 1, 1) := by decide +kernel
theorem dJ1_indexOfChar_4cfef_1 : decode cJ1_indexOfChar_4cfef 1 = .ok (.i2b, 1) := by decide +kernel
theorem dJ1_indexOfChar_4cfef_2 : decode cJ1_indexOfChar_4cfef 2 = .ok (.istore 4, 2) := by decide +kernel
theorem dJ1_indexOfChar_4cfef_4 : decode cJ1_indexOfChar_4cfef 4 = .ok (.iload_n 2, 1) := by decide +kernel
theorem dJ1_indexOfChar_4cfef_5 : decode cJ1_indexOfChar_4cfef 5 = .ok (.istore 5, 2) := by decide +kernel
theorem dJ1_indexOfChar_4cfef_7 : decode cJ1_indexOfChar_4cfef 7 = .ok (.iload 5, 2) := by decide +kernel
theorem dJ1_indexOfChar_4cfef_9 : decode cJ1_indexOfChar_4cfef 9 = .ok (.iload_n 3, 1) := by decide +kernel
theorem dJ1_indexOfChar_4cfef_10 : decode cJ1_indexOfChar_4cfef 10 = .ok (.if_icmp .ge 21, 3) := by decide +kernel
theorem dJ1_indexOfChar_4cfef_13 : decode cJ1_indexOfChar_4cfef 13 = .ok (.aload_n 0, 1) := by decide +kernel
theorem dJ1_indexOfChar_4cfef_14 : decode cJ1_indexOfChar_4cfef 14 = .ok (.iload 5, 2) := by decide +kernel
theorem dJ1_indexOfChar_4cfef_16 : decode cJ1_indexOfChar_4cfef 16 = .ok (.baload, 1) := by decide +kernel
theorem dJ1_indexOfChar_4cfef_17 : decode cJ1_indexOfChar_4cfef 17 = .ok (.iload 4, 2) := by decide +kernel
theorem dJ1_indexOfChar_4cfef_19 : decode cJ1_indexOfChar_4cfef 19 = .ok (.if_icmp .ne 6, 3) := by decide +kernel
theorem dJ1_indexOfChar_4cfef_22 : decode cJ1_indexOfChar_4cfef 22 = .ok (.iload 5, 2) := by decide +kernel
theorem dJ1_indexOfChar_4cfef_24 : decode cJ1_indexOfChar_4cfef 24 = .ok (.ireturn, 1) := by decide +kernel
theorem dJ1_indexOfChar_4cfef_25 : decode cJ1_indexOfChar_4cfef 25 = .ok (.iinc 5 1, 3) := by decide +kernel
theorem dJ1_indexOfChar_4cfef_28 : decode cJ1_indexOfChar_4cfef 28 = .ok (.goto (-21), 3) := by decide +kernel
theorem dJ1_indexOfChar_4cfef_31 : decode cJ1_indexOfChar_4cfef 31 = .ok (.iconst (-1), 1) := by decide +kernel
theorem dJ1_indexOfChar_4cfef_32 : decode cJ1_indexOfChar_4cfef 32 = .ok (.ireturn, 1) := by decide +kernel
theorem dJ2_getChar_3b067_0 : decode cJ2_getChar_3b067 0 = .ok (.getstatic 44, 3) := by decide +kernel
theorem dJ2_getChar_3b067_3 : decode cJ2_getChar_3b067 3 = .ok (.ifCond .ne 25, 3) := by decide +kernel
theorem dJ2_getChar_3b067_6 : decode cJ2_getChar_3b067 6 = .ok (.iload_n 1, 1) := by decide +kernel
theorem dJ2_getChar_3b067_7 : decode cJ2_getChar_3b067 7 = .ok (.ifCond .lt 11, 3) := by decide +kernel
theorem dJ2_getChar_3b067_10 : decode cJ2_getChar_3b067 10 = .ok (.iload_n 1, 1) := by decide +kernel
theorem dJ2_getChar_3b067_11 : decode cJ2_getChar_3b067 11 = .ok (.aload_n 0, 1) := by decide +kernel
theorem dJ2_getChar_3b067_12 : decode cJ2_getChar_3b067 12 = .ok (.invokestatic 48, 3) := by decide +kernel
theorem dJ2_getChar_3b067_15 : decode cJ2_getChar_3b067 15 = .ok (.if_icmp .lt 13, 3) := by decide +kernel
theorem dJ2_getChar_3b067_18 : decode cJ2_getChar_3b067 18 = .ok (.new 52, 3) := by decide +kernel
theorem dJ2_getChar_3b067_21 : decode cJ2_getChar_3b067 21 = .ok (.dup, 1) := by decide +kernel
theorem dJ2_getChar_3b067_22 : decode cJ2_getChar_3b067 22 = .ok (.ldc 54, 2) := by decide +kernel
theorem dJ2_getChar_3b067_24 : decode cJ2_getChar_3b067 24 = .ok (.invokespecial 56, 3) := by decide +kernel
theorem dJ2_getChar_3b067_27 : decode cJ2_getChar_3b067 27 = .ok (.athrow, 1) := by decide +kernel
theorem dJ2_getChar_3b067_28 : decode cJ2_getChar_3b067 28 = .ok (.iload_n 1, 1) := by decide +kernel
theorem dJ2_getChar_3b067_29 : decode cJ2_getChar_3b067 29 = .ok (.iconst 1, 1) := by decide +kernel
theorem dJ2_getChar_3b067_30 : decode cJ2_getChar_3b067 30 = .ok (.ishl, 1) := by decide +kernel
theorem dJ2_getChar_3b067_31 : decode cJ2_getChar_3b067 31 = .ok (.istore_n 1, 1) := by decide +kernel
theorem dJ2_getChar_3b067_32 : decode cJ2_getChar_3b067 32 = .ok (.aload_n 0, 1) := by decide +kernel
theorem dJ2_getChar_3b067_33 : decode cJ2_getChar_3b067 33 = .ok (.iload_n 1, 1) := by decide +kernel
theorem dJ2_getChar_3b067_34 : decode cJ2_getChar_3b067 34 = .ok (.iinc 1 1, 3) := by decide +kernel
theorem dJ2_getChar_3b067_37 : decode cJ2_getChar_3b067 37 = .ok (.baload, 1) := by decide +kernel
theorem dJ2_getChar_3b067_38 : decode cJ2_getChar_3b067 38 = .ok (.sipush 255, 3) := by decide +kernel
theorem dJ2_getChar_3b067_41 : decode cJ2_getChar_3b067 41 = .ok (.iand, 1) := by decide +kernel
theorem dJ2_getChar_3b067_42 : decode cJ2_getChar_3b067 42 = .ok (.getstatic 59, 3) := by decide +kernel
theorem dJ2_getChar_3b067_45 : decode cJ2_getChar_3b067 45 = .ok (.ishl, 1) := by decide +kernel
theorem dJ2_getChar_3b067_46 : decode cJ2_getChar_3b067 46 = .ok (.aload_n 0, 1) := by decide +kernel
theorem dJ2_getChar_3b067_47 : decode cJ2_getChar_3b067 47 = .ok (.iload_n 1, 1) := by decide +kernel
theorem dJ2_getChar_3b067_48 : decode cJ2_getChar_3b067 48 = .ok (.baload, 1) := by decide +kernel
theorem dJ2_getChar_3b067_49 : decode cJ2_getChar_3b067 49 = .ok (.sipush 255, 3) := by decide +kernel
theorem dJ2_getChar_3b067_52 : decode cJ2_getChar_3b067 52 = .ok (.iand, 1) := by decide +kernel
theorem dJ2_getChar_3b067_53 : decode cJ2_getChar_3b067 53 = .ok (.getstatic 63, 3) := by decide +kernel
theorem dJ2_getChar_3b067_56 : decode cJ2_getChar_3b067 56 = .ok (.ishl, 1) := by decide +kernel
theorem dJ2_getChar_3b067_57 : decode cJ2_getChar_3b067 57 = .ok (.ior, 1) := by decide +kernel
theorem dJ2_getChar_3b067_58 : decode cJ2_getChar_3b067 58 = .ok (.i2c, 1) := by decide +kernel
theorem dJ2_getChar_3b067_59 : decode cJ2_getChar_3b067 59 = .ok (.ireturn, 1) := by decide +kernel
theorem dJ2_length_9d52b_0 : decode cJ2_length_9d52b 0 = .ok (.aload_n 0, 1) := by decide +kernel
theorem dJ2_length_9d52b_1 : decode cJ2_length_9d52b 1 = .ok (.arraylength, 1) := by decide +kernel
theorem dJ2_length_9d52b_2 : decode cJ2_length_9d52b 2 = .ok (.iconst 1, 1) := by decide +kernel
theorem dJ2_length_9d52b_3 : decode cJ2_length_9d52b 3 = .ok (.ishr, 1) := by decide +kernel
theorem dJ2_length_9d52b_4 : decode cJ2_length_9d52b 4 = .ok (.ireturn, 1) := by decide +kernel
theorem dJ2_indexOf_4cfef_0 : decode cJ2_indexOf_4cfef 0 = .ok (.iload_n 2, 1) := by decide +kernel
theorem dJ2_indexOf_4cfef_1 : decode cJ2_indexOf_4cfef 1 = .ok (.iconst 0, 1) := by decide +kernel
theorem dJ2_indexOf_4cfef_2 : decode cJ2_indexOf_4cfef 2 = .ok (.invokestatic 224, 3) := by decide +kernel
theorem dJ2_indexOf_4cfef_5 : decode cJ2_indexOf_4cfef 5 = .ok (.istore_n 2, 1) := by decide +kernel
theorem dJ2_indexOf_4cfef_6 : decode cJ2_indexOf_4cfef 6 = .ok (.iload_n 3, 1) := by decide +kernel
theorem dJ2_indexOf_4cfef_7 : decode cJ2_indexOf_4cfef 7 = .ok (.aload_n 0, 1) := by decide +kernel
theorem dJ2_indexOf_4cfef_8 : decode cJ2_indexOf_4cfef 8 = .ok (.arraylength, 1) := by decide +kernel
theorem dJ2_indexOf_4cfef_9 : decode cJ2_indexOf_4cfef 9 = .ok (.iconst 1, 1) := by decide +kernel
theorem dJ2_indexOf_4cfef_10 : decode cJ2_indexOf_4cfef 10 = .ok (.ishr, 1) := by decide +kernel
theorem dJ2_indexOf_4cfef_11 : decode cJ2_indexOf_4cfef 11 = .ok (.invokestatic 183, 3) := by decide +kernel
theorem dJ2_indexOf_4cfef_14 : decode cJ2_indexOf_4cfef 14 = .ok (.istore_n 3, 1) := by decide +kernel
theorem dJ2_indexOf_4cfef_15 : decode cJ2_indexOf_4cfef 15 = .ok (.iload_n 2, 1) := by decide +kernel
theorem dJ2_indexOf_4cfef_16 : decode cJ2_indexOf_4cfef 16 = .ok (.iload_n 3, 1) := by decide +kernel
theorem dJ2_indexOf_4cfef_17 : decode cJ2_indexOf_4cfef 17 = .ok (.if_icmp .lt 5, 3) := by decide +kernel
theorem dJ2_indexOf_4cfef_20 : decode cJ2_indexOf_4cfef 20 = .ok (.iconst (-1), 1) := by decide +kernel
theorem dJ2_indexOf_4cfef_21 : decode cJ2_indexOf_4cfef 21 = .ok (.ireturn, 1) := by decide +kernel
theorem dJ2_indexOf_4cfef_22 : decode cJ2_indexOf_4cfef 22 = .ok (.iload_n 1, 1) := by decide +kernel
theorem dJ2_indexOf_4cfef_23 : decode cJ2_indexOf_4cfef 23 = .ok (.ldc 227, 2) := by decide +kernel
theorem dJ2_indexOf_4cfef_25 : decode cJ2_indexOf_4cfef 25 = .ok (.if_icmp .ge 11, 3) := by decide +kernel
theorem dJ2_indexOf_4cfef_28 : decode cJ2_indexOf_4cfef 28 = .ok (.aload_n 0, 1) := by decide +kernel
theorem dJ2_indexOf_4cfef_29 : decode cJ2_indexOf_4cfef 29 = .ok (.iload_n 1, 1) := by decide +kernel
theorem dJ2_indexOf_4cfef_30 : decode cJ2_indexOf_4cfef 30 = .ok (.iload_n 2, 1) := by decide +kernel
theorem dJ2_indexOf_4cfef_31 : decode cJ2_indexOf_4cfef 31 = .ok (.iload_n 3, 1) := by decide +kernel
theorem dJ2_indexOf_4cfef_32 : decode cJ2_indexOf_4cfef 32 = .ok (.invokestatic 228, 3) := by decide +kernel
theorem dJ2_indexOf_4cfef_35 : decode cJ2_indexOf_4cfef 35 = .ok (.ireturn, 1) := by decide +kernel
theorem dJ2_indexOf_4cfef_36 : decode cJ2_indexOf_4cfef 36 = .ok (.aload_n 0, 1) := by decide +kernel
theorem dJ2_indexOf_4cfef_37 : decode cJ2_indexOf_4cfef 37 = .ok (.iload_n 1, 1) := by decide +kernel
theorem dJ2_indexOf_4cfef_38 : decode cJ2_indexOf_4cfef 38 = .ok (.iload_n 2, 1) := by decide +kernel
theorem dJ2_indexOf_4cfef_39 : decode cJ2_indexOf_4cfef 39 = .ok (.iload_n 3, 1) := by decide +kernel
theorem dJ2_indexOf_4cfef_40 : decode cJ2_indexOf_4cfef 40 = .ok (.invokestatic 232, 3) := by decide +kernel
theorem dJ2_indexOf_4cfef_43 : decode cJ2_indexOf_4cfef 43 = .ok (.ireturn, 1) := by decide +kernel
theorem dJ2_indexOfChar_4cfef_0 : decode cJ2_indexOfChar_4cfef 0 = .ok (.iload_n 2, 1) := by decide +kernel
theorem dJ2_indexOfChar_4cfef_1 : decode cJ2_indexOfChar_4cfef 1 = .ok (.iload_n 3, 1) := by decide +kernel
theorem dJ2_indexOfChar_4cfef_2 : decode cJ2_indexOfChar_4cfef 2 = .ok (.aload_n 0, 1) := by decide +kernel
theorem dJ2_indexOfChar_4cfef_3 : decode cJ2_indexOfChar_4cfef 3 = .ok (.invokestatic 96, 3) := by decide +kernel
theorem dJ2_indexOfChar_4cfef_6 : decode cJ2_indexOfChar_4cfef 6 = .ok (.aload_n 0, 1) := by decide +kernel
theorem dJ2_indexOfChar_4cfef_7 : decode cJ2_indexOfChar_4cfef 7 = .ok (.iload_n 1, 1) := by decide +kernel
theorem dJ2_indexOfChar_4cfef_8 : decode cJ2_indexOfChar_4cfef 8 = .ok (.iload_n 2, 1) := by decide +kernel
theorem dJ2_indexOfChar_4cfef_9 : decode cJ2_indexOfChar_4cfef 9 = .ok (.iload_n 3, 1) := by decide +kernel
theorem dJ2_indexOfChar_4cfef_10 : decode cJ2_indexOfChar_4cfef 10 = .ok (.invokestatic 244, 3) := by decide +kernel
theorem dJ2_indexOfChar_4cfef_13 : decode cJ2_indexOfChar_4cfef 13 = .ok (.ireturn, 1) := by decide +kernel
theorem dJ2_indexOfCharUnsafe_4cfef_0 : decode cJ2_indexOfCharUnsafe_4cfef 0 = .ok (.iload_n 2, 1) := by decide +kernel
theorem dJ2_indexOfCharUnsafe_4cfef_1 : decode cJ2_indexOfCharUnsafe_4cfef 1 = .ok (.istore 4, 2) := by decide +kernel
theorem dJ2_indexOfCharUnsafe_4cfef_3 : decode cJ2_indexOfCharUnsafe_4cfef 3 = .ok (.iload 4, 2) := by decide +kernel
theorem dJ2_indexOfCharUnsafe_4cfef_5 : decode cJ2_indexOfCharUnsafe_4cfef 5 = .ok (.iload_n 3, 1) := by decide +kernel
theorem dJ2_indexOfCharUnsafe_4cfef_6 : decode cJ2_indexOfCharUnsafe_4cfef 6 = .ok (.if_icmp .ge 22, 3) := by decide +kernel
theorem dJ2_indexOfCharUnsafe_4cfef_9 : decode cJ2_indexOfCharUnsafe_4cfef 9 = .ok (.aload_n 0, 1) := by decide +kernel
theorem dJ2_indexOfCharUnsafe_4cfef_10 : decode cJ2_indexOfCharUnsafe_4cfef 10 = .ok (.iload 4, 2) := by decide +kernel
theorem dJ2_indexOfCharUnsafe_4cfef_12 : decode cJ2_indexOfCharUnsafe_4cfef 12 = .ok (.invokestatic 71, 3) := by decide +kernel
theorem dJ2_indexOfCharUnsafe_4cfef_15 : decode cJ2_indexOfCharUnsafe_4cfef 15 = .ok (.iload_n 1, 1) := by decide +kernel
theorem dJ2_indexOfCharUnsafe_4cfef_16 : decode cJ2_indexOfCharUnsafe_4cfef 16 = .ok (.if_icmp .ne 6, 3) := by decide +kernel
theorem dJ2_indexOfCharUnsafe_4cfef_19 : decode cJ2_indexOfCharUnsafe_4cfef 19 = .ok (.iload 4, 2) := by decide +kernel
theorem dJ2_indexOfCharUnsafe_4cfef_21 : decode cJ2_indexOfCharUnsafe_4cfef 21 = .ok (.ireturn, 1) := by decide +kernel
theorem dJ2_indexOfCharUnsafe_4cfef_22 : decode cJ2_indexOfCharUnsafe_4cfef 22 = .ok (.iinc 4 1, 3) := by decide +kernel
theorem dJ2_indexOfCharUnsafe_4cfef_25 : decode cJ2_indexOfCharUnsafe_4cfef 25 = .ok (.goto (-22), 3) := by decide +kernel
theorem dJ2_indexOfCharUnsafe_4cfef_28 : decode cJ2_indexOfCharUnsafe_4cfef 28 = .ok (.iconst (-1), 1) := by decide +kernel
theorem dJ2_indexOfCharUnsafe_4cfef_29 : decode cJ2_indexOfCharUnsafe_4cfef 29 = .ok (.ireturn, 1) := by decide +kernel
theorem dJ2_indexOfSupplementary_4cfef_0 : decode cJ2_indexOfSupplementary_4cfef 0 = .ok (.iload_n 1, 1) := by decide +kernel
theorem dJ2_indexOfSupplementary_4cfef_1 : decode cJ2_indexOfSupplementary_4cfef 1 = .ok (.invokestatic 164, 3) := by decide +kernel
theorem dJ2_indexOfSupplementary_4cfef_4 : decode cJ2_indexOfSupplementary_4cfef 4 = .ok (.ifCond .eq 65, 3) := by decide +kernel
theorem dJ2_indexOfSupplementary_4cfef_7 : decode cJ2_indexOfSupplementary_4cfef 7 = .ok (.iload_n 1, 1) := by decide +kernel
theorem dJ2_indexOfSupplementary_4cfef_8 : decode cJ2_indexOfSupplementary_4cfef 8 = .ok (.invokestatic 157, 3) := by decide +kernel
theorem dJ2_indexOfSupplementary_4cfef_11 : decode cJ2_indexOfSupplementary_4cfef 11 = .ok (.istore 4, 2) := by decide +kernel
theorem dJ2_indexOfSupplementary_4cfef_13 : decode cJ2_indexOfSupplementary_4cfef 13 = .ok (.iload_n 1, 1) := by decide +kernel
theorem dJ2_indexOfSupplementary_4cfef_14 : decode cJ2_indexOfSupplementary_4cfef 14 = .ok (.invokestatic 161, 3) := by decide +kernel
theorem dJ2_indexOfSupplementary_4cfef_17 : decode cJ2_indexOfSupplementary_4cfef 17 = .ok (.istore 5, 2) := by decide +kernel
theorem dJ2_indexOfSupplementary_4cfef_19 : decode cJ2_indexOfSupplementary_4cfef 19 = .ok (.iload_n 2, 1) := by decide +kernel
theorem dJ2_indexOfSupplementary_4cfef_20 : decode cJ2_indexOfSupplementary_4cfef 20 = .ok (.iload_n 3, 1) := by decide +kernel
theorem dJ2_indexOfSupplementary_4cfef_21 : decode cJ2_indexOfSupplementary_4cfef 21 = .ok (.aload_n 0, 1) := by decide +kernel
theorem dJ2_indexOfSupplementary_4cfef_22 : decode cJ2_indexOfSupplementary_4cfef 22 = .ok (.invokestatic 96, 3) := by decide +kernel
theorem dJ2_indexOfSupplementary_4cfef_25 : decode cJ2_indexOfSupplementary_4cfef 25 = .ok (.iload_n 2, 1) := by decide +kernel
theorem dJ2_indexOfSupplementary_4cfef_26 : decode cJ2_indexOfSupplementary_4cfef 26 = .ok (.istore 6, 2) := by decide +kernel
theorem dJ2_indexOfSupplementary_4cfef_28 : decode cJ2_indexOfSupplementary_4cfef 28 = .ok (.iload 6, 2) := by decide +kernel
theorem dJ2_indexOfSupplementary_4cfef_30 : decode cJ2_indexOfSupplementary_4cfef 30 = .ok (.iload_n 3, 1) := by decide +kernel
theorem dJ2_indexOfSupplementary_4cfef_31 : decode cJ2_indexOfSupplementary_4cfef 31 = .ok (.iconst 1, 1) := by decide +kernel
theorem dJ2_indexOfSupplementary_4cfef_32 : decode cJ2_indexOfSupplementary_4cfef 32 = .ok (.isub, 1) := by decide +kernel
theorem dJ2_indexOfSupplementary_4cfef_33 : decode cJ2_indexOfSupplementary_4cfef 33 = .ok (.if_icmp .ge 36, 3) := by decide +kernel
theorem dJ2_indexOfSupplementary_4cfef_36 : decode cJ2_indexOfSupplementary_4cfef 36 = .ok (.aload_n 0, 1) := by decide +kernel
theorem dJ2_indexOfSupplementary_4cfef_37 : decode cJ2_indexOfSupplementary_4cfef 37 = .ok (.iload 6, 2) := by decide +kernel
theorem dJ2_indexOfSupplementary_4cfef_39 : decode cJ2_indexOfSupplementary_4cfef 39 = .ok (.invokestatic 71, 3) := by decide +kernel
theorem dJ2_indexOfSupplementary_4cfef_42 : decode cJ2_indexOfSupplementary_4cfef 42 = .ok (.iload 4, 2) := by decide +kernel
theorem dJ2_indexOfSupplementary_4cfef_44 : decode cJ2_indexOfSupplementary_4cfef 44 = .ok (.if_icmp .ne 19, 3) := by decide +kernel
theorem dJ2_indexOfSupplementary_4cfef_47 : decode cJ2_indexOfSupplementary_4cfef 47 = .ok (.aload_n 0, 1) := by decide +kernel
theorem dJ2_indexOfSupplementary_4cfef_48 : decode cJ2_indexOfSupplementary_4cfef 48 = .ok (.iload 6, 2) := by decide +kernel
theorem dJ2_indexOfSupplementary_4cfef_50 : decode cJ2_indexOfSupplementary_4cfef 50 = .ok (.iconst 1, 1) := by decide +kernel
theorem dJ2_indexOfSupplementary_4cfef_51 : decode cJ2_indexOfSupplementary_4cfef 51 = .ok (.iadd, 1) := by decide +kernel
theorem dJ2_indexOfSupplementary_4cfef_52 : decode cJ2_indexOfSupplementary_4cfef 52 = .ok (.invokestatic 71, 3) := by decide +kernel
theorem dJ2_indexOfSupplementary_4cfef_55 : decode cJ2_indexOfSupplementary_4cfef 55 = .ok (.iload 5, 2) := by decide +kernel
theorem dJ2_indexOfSupplementary_4cfef_57 : decode cJ2_indexOfSupplementary_4cfef 57 = .ok (.if_icmp .ne 6, 3) := by decide +kernel
theorem dJ2_indexOfSupplementary_4cfef_60 : decode cJ2_indexOfSupplementary_4cfef 60 = .ok (.iload 6, 2) := by decide +kernel
theorem dJ2_indexOfSupplementary_4cfef_62 : decode cJ2_indexOfSupplementary_4cfef 62 = .ok (.ireturn, 1) := by decide +kernel
theorem dJ2_indexOfSupplementary_4cfef_63 : decode cJ2_indexOfSupplementary_4cfef 63 = .ok (.iinc 6 1, 3) := by decide +kernel
theorem dJ2_indexOfSupplementary_4cfef_66 : decode cJ2_indexOfSupplementary_4cfef 66 = .ok (.goto (-38), 3) := by decide +kernel
theorem dJ2_indexOfSupplementary_4cfef_69 : decode cJ2_indexOfSupplementary_4cfef 69 = .ok (.iconst (-1), 1) := by decide +kernel
theorem dJ2_indexOfSupplementary_4cfef_70 : decode cJ2_indexOfSupplementary_4cfef 70 = .ok (.ireturn, 1) := by decide +kernel
theorem dJ2_charAt_3b067_0 : decode cJ2_charAt_3b067 0 = .ok (.iload_n 1, 1) := by decide +kernel
theorem dJ2_charAt_3b067_1 : decode cJ2_charAt_3b067 1 = .ok (.aload_n 0, 1) := by decide +kernel
theorem dJ2_charAt_3b067_2 : decode cJ2_charAt_3b067 2 = .ok (.invokestatic 67, 3) := by decide +kernel
theorem dJ2_charAt_3b067_5 : decode cJ2_charAt_3b067 5 = .ok (.aload_n 0, 1) := by decide +kernel
theorem dJ2_charAt_3b067_6 : decode cJ2_charAt_3b067 6 = .ok (.iload_n 1, 1) := by decide +kernel
theorem dJ2_charAt_3b067_7 : decode cJ2_charAt_3b067 7 = .ok (.invokestatic 71, 3) := by decide +kernel
theorem dJ2_charAt_3b067_10 : decode cJ2_charAt_3b067 10 = .ok (.ireturn, 1) := by decide +kernel
theorem dJ2_checkIndex_2214a_0 : decode cJ2_checkIndex_2214a 0 = .ok (.iload_n 0, 1) := by decide +kernel
theorem dJ2_checkIndex_2214a_1 : decode cJ2_checkIndex_2214a 1 = .ok (.aload_n 1, 1) := by decide +kernel
theorem dJ2_checkIndex_2214a_2 : decode cJ2_checkIndex_2214a 2 = .ok (.invokestatic 48, 3) := by decide +kernel
theorem dJ2_checkIndex_2214a_5 : decode cJ2_checkIndex_2214a 5 = .ok (.invokestatic 414, 3) := by decide +kernel
theorem dJ2_checkIndex_2214a_8 : decode cJ2_checkIndex_2214a 8 = .ok (.return_, 1) := by decide +kernel
theorem dJ2_checkBoundsBeginEnd_d044e_0 : decode cJ2_checkBoundsBeginEnd_d044e 0 = .ok (.iload_n 0, 1) := by decide +kernel
theorem dJ2_checkBoundsBeginEnd_d044e_1 : decode cJ2_checkBoundsBeginEnd_d044e 1 = .ok (.iload_n 1, 1) := by decide +kernel
theorem dJ2_checkBoundsBeginEnd_d044e_2 : decode cJ2_checkBoundsBeginEnd_d044e 2 = .ok (.aload_n 2, 1) := by decide +kernel
theorem dJ2_checkBoundsBeginEnd_d044e_3 : decode cJ2_checkBoundsBeginEnd_d044e 3 = .ok (.invokestatic 48, 3) := by decide +kernel
theorem dJ2_checkBoundsBeginEnd_d044e_6 : decode cJ2_checkBoundsBeginEnd_d044e 6 = .ok (.invokestatic 241, 3) := by decide +kernel
theorem dJ2_checkBoundsBeginEnd_d044e_9 : decode cJ2_checkBoundsBeginEnd_d044e 9 = .ok (.return_, 1) := by decide +kernel
theorem dJ7_fill_53178_0 : decode cJ7_fill_53178 0 = .ok (.iconst 0, 1) := by decide +kernel
theorem dJ7_fill_53178_1 : decode cJ7_fill_53178 1 = .ok (.istore_n 2, 1) := by decide +kernel
theorem dJ7_fill_53178_2 : decode cJ7_fill_53178 2 = .ok (.aload_n 0, 1) := by decide +kernel
theorem dJ7_fill_53178_3 : decode cJ7_fill_53178 3 = .ok (.arraylength, 1) := by decide +kernel
theorem dJ7_fill_53178_4 : decode cJ7_fill_53178 4 = .ok (.istore_n 3, 1) := by decide +kernel
theorem dJ7_fill_53178_5 : decode cJ7_fill_53178 5 = .ok (.iload_n 2, 1) := by decide +kernel
theorem dJ7_fill_53178_6 : decode cJ7_fill_53178 6 = .ok (.iload_n 3, 1) := by decide +kernel
theorem dJ7_fill_53178_7 : decode cJ7_fill_53178 7 = .ok (.if_icmp .ge 13, 3) := by decide +kernel
theorem dJ7_fill_53178_10 : decode cJ7_fill_53178 10 = .ok (.aload_n 0, 1) := by decide +kernel
theorem dJ7_fill_53178_11 : decode cJ7_fill_53178 11 = .ok (.iload_n 2, 1) := by decide +kernel
theorem dJ7_fill_53178_12 : decode cJ7_fill_53178 12 = .ok (.iload_n 1, 1) := by decide +kernel
theorem dJ7_fill_53178_13 : decode cJ7_fill_53178 13 = .ok (.iastore, 1) := by decide +kernel
theorem dJ7_fill_53178_14 : decode cJ7_fill_53178 14 = .ok (.iinc 2 1, 3) := by decide +kernel
theorem dJ7_fill_53178_17 : decode cJ7_fill_53178 17 = .ok (.goto (-12), 3) := by decide +kernel
theorem dJ7_fill_53178_20 : decode cJ7_fill_53178 20 = .ok (.return_, 1) := by decide +kernel
theorem dJ3_checkIndex_8e157_0 : decode cJ3_checkIndex_8e157 0 = .ok (.iload_n 0, 1) := by decide +kernel
theorem dJ3_checkIndex_8e157_1 : decode cJ3_checkIndex_8e157 1 = .ok (.ifCond .lt 8, 3) := by decide +kernel
theorem dJ3_checkIndex_8e157_4 : decode cJ3_checkIndex_8e157 4 = .ok (.iload_n 0, 1) := by decide +kernel
theorem dJ3_checkIndex_8e157_5 : decode cJ3_checkIndex_8e157 5 = .ok (.iload_n 1, 1) := by decide +kernel
theorem dJ3_checkIndex_8e157_6 : decode cJ3_checkIndex_8e157 6 = .ok (.if_icmp .lt 10, 3) := by decide +kernel
theorem dJ3_checkIndex_8e157_9 : decode cJ3_checkIndex_8e157 9 = .ok (.aload_n 2, 1) := by decide +kernel
theorem dJ3_checkIndex_8e157_10 : decode cJ3_checkIndex_8e157 10 = .ok (.iload_n 0, 1) := by decide +kernel
theorem dJ3_checkIndex_8e157_11 : decode cJ3_checkIndex_8e157 11 = .ok (.iload_n 1, 1) := by decide +kernel
theorem dJ3_checkIndex_8e157_12 : decode cJ3_checkIndex_8e157 12 = .ok (.invokestatic 95, 3) := by decide +kernel
theorem dJ3_checkIndex_8e157_15 : decode cJ3_checkIndex_8e157 15 = .ok (.athrow, 1) := by decide +kernel
theorem dJ3_checkIndex_8e157_16 : decode cJ3_checkIndex_8e157 16 = .ok (.iload_n 0, 1) := by decide +kernel
theorem dJ3_checkIndex_8e157_17 : decode cJ3_checkIndex_8e157 17 = .ok (.ireturn, 1) := by decide +kernel
theorem dJ3_checkFromToIndex_8c36e_0 : decode cJ3_checkFromToIndex_8c36e 0 = .ok (.iload_n 0, 1) := by decide +kernel
theorem dJ3_checkFromToIndex_8c36e_1 : decode cJ3_checkFromToIndex_8c36e 1 = .ok (.ifCond .lt 13, 3) := by decide +kernel
theorem dJ3_checkFromToIndex_8c36e_4 : decode cJ3_checkFromToIndex_8c36e 4 = .ok (.iload_n 0, 1) := by decide +kernel
theorem dJ3_checkFromToIndex_8c36e_5 : decode cJ3_checkFromToIndex_8c36e 5 = .ok (.iload_n 1, 1) := by decide +kernel
theorem dJ3_checkFromToIndex_8c36e_6 : decode cJ3_checkFromToIndex_8c36e 6 = .ok (.if_icmp .gt 8, 3) := by decide +kernel
theorem dJ3_checkFromToIndex_8c36e_9 : decode cJ3_checkFromToIndex_8c36e 9 = .ok (.iload_n 1, 1) := by decide +kernel
theorem dJ3_checkFromToIndex_8c36e_10 : decode cJ3_checkFromToIndex_8c36e 10 = .ok (.iload_n 2, 1) := by decide +kernel
theorem dJ3_checkFromToIndex_8c36e_11 : decode cJ3_checkFromToIndex_8c36e 11 = .ok (.if_icmp .le 11, 3) := by decide +kernel
theorem dJ3_checkFromToIndex_8c36e_14 : decode cJ3_checkFromToIndex_8c36e 14 = .ok (.aload_n 3, 1) := by decide +kernel
theorem dJ3_checkFromToIndex_8c36e_15 : decode cJ3_checkFromToIndex_8c36e 15 = .ok (.iload_n 0, 1) := by decide +kernel
theorem dJ3_checkFromToIndex_8c36e_16 : decode cJ3_checkFromToIndex_8c36e 16 = .ok (.iload_n 1, 1) := by decide +kernel
theorem dJ3_checkFromToIndex_8c36e_17 : decode cJ3_checkFromToIndex_8c36e 17 = .ok (.iload_n 2, 1) := by decide +kernel
theorem dJ3_checkFromToIndex_8c36e_18 : decode cJ3_checkFromToIndex_8c36e 18 = .ok (.invokestatic 99, 3) := by decide +kernel
theorem dJ3_checkFromToIndex_8c36e_21 : decode cJ3_checkFromToIndex_8c36e 21 = .ok (.athrow, 1) := by decide +kernel
theorem dJ3_checkFromToIndex_8c36e_22 : decode cJ3_checkFromToIndex_8c36e 22 = .ok (.iload_n 0, 1) := by decide +kernel
theorem dJ3_checkFromToIndex_8c36e_23 : decode cJ3_checkFromToIndex_8c36e 23 = .ok (.ireturn, 1) := by decide +kernel
theorem dL_addNumber_0 : decode cL_addNumber 0 = .ok (.aload 5, 2) := by decide +kernel
theorem dL_addNumber_2 : decode cL_addNumber 2 = .ok (.iconst 0, 1) := by decide +kernel
theorem dL_addNumber_3 : decode cL_addNumber 3 = .ok (.aload_n 0, 1) := by decide +kernel
theorem dL_addNumber_4 : decode cL_addNumber 4 = .ok (.iload_n 1, 1) := by decide +kernel
theorem dL_addNumber_5 : decode cL_addNumber 5 = .ok (.iload_n 2, 1) := by decide +kernel
theorem dL_addNumber_6 : decode cL_addNumber 6 = .ok (.iload_n 3, 1) := by decide +kernel
theorem dL_addNumber_7 : decode cL_addNumber 7 = .ok (.iload 4, 2) := by decide +kernel
theorem dL_addNumber_9 : decode cL_addNumber 9 = .ok (.invokevirtual 7, 3) := by decide +kernel
theorem dL_addNumber_12 : decode cL_addNumber 12 = .ok (.i2l, 1) := by decide +kernel
theorem dL_addNumber_13 : decode cL_addNumber 13 = .ok (.lastore, 1) := by decide +kernel
theorem dL_addNumber_14 : decode cL_addNumber 14 = .ok (.goto 15, 3) := by decide +kernel
theorem dL_addNumber_17 : decode cL_addNumber 17 = .ok (.astore 6, 2) := by decide +kernel
