theorem dX10_longestCarry_19 : decode cX10_longestCarry 19 = .ok (.iload 4, 2) := by decide +kernel
theorem dX10_longestCarry_21 : decode cX10_longestCarry 21 = .ok (.laload, 1) := by decide +kernel
theorem dX10_longestCarry_22 : decode cX10_longestCarry 22 = .ok (.iload_n 2, 1) := by decide +kernel
theorem dX10_longestCarry_23 : decode cX10_longestCarry 23 = .ok (.iload_n 3, 1) := by decide +kernel
theorem dX10_longestCarry_24 : decode cX10_longestCarry 24 = .ok (.invokestatic 107, 3) := by decide +kernel
theorem dX10_longestCarry_27 : decode cX10_longestCarry 27 = .ok (.invokestatic 230, 3) := by decide +kernel
theorem dX10_longestCarry_30 : decode cX10_longestCarry 30 = .ok (.istore 5, 2) := by decide +kernel
theorem dX10_longestCarry_32 : decode cX10_longestCarry 32 = .ok (.iconst 0, 1) := by decide +kernel
theorem dX10_longestCarry_33 : decode cX10_longestCarry 33 = .ok (.istore 6, 2) := by decide +kernel
theorem dX10_longestCarry_35 : decode cX10_longestCarry 35 = .ok (.iconst 0, 1) := by decide +kernel
theorem dX10_longestCarry_36 : decode cX10_longestCarry 36 = .ok (.istore 7, 2) := by decide +kernel
theorem dX10_longestCarry_38 : decode cX10_longestCarry 38 = .ok (.iconst 0, 1) := by decide +kernel
theorem dX10_longestCarry_39 : decode cX10_longestCarry 39 = .ok (.istore 8, 2) := by decide +kernel
theorem dX10_longestCarry_41 : decode cX10_longestCarry 41 = .ok (.iload 8, 2) := by decide +kernel
theorem dX10_longestCarry_43 : decode cX10_longestCarry 43 = .ok (.bipush 10, 2) := by decide +kernel
theorem dX10_longestCarry_45 : decode cX10_longestCarry 45 = .ok (.if_icmp .ge 39, 3) := by decide +kernel
theorem dX10_longestCarry_48 : decode cX10_longestCarry 48 = .ok (.iload 5, 2) := by decide +kernel
theorem dX10_longestCarry_50 : decode cX10_longestCarry 50 = .ok (.iload 8, 2) := by decide +kernel
theorem dX10_longestCarry_52 : decode cX10_longestCarry 52 = .ok (.ishr, 1) := by decide +kernel
theorem dX10_longestCarry_53 : decode cX10_longestCarry 53 = .ok (.iconst 1, 1) := by decide +kernel
theorem dX10_longestCarry_54 : decode cX10_longestCarry 54 = .ok (.iand, 1) := by decide +kernel
theorem dX10_longestCarry_55 : decode cX10_longestCarry 55 = .ok (.iconst 1, 1) := by decide +kernel
theorem dX10_longestCarry_56 : decode cX10_longestCarry 56 = .ok (.if_icmp .ne 10, 3) := by decide +kernel
theorem dX10_longestCarry_59 : decode cX10_longestCarry 59 = .ok (.iload 7, 2) := by decide +kernel
theorem dX10_longestCarry_61 : decode cX10_longestCarry 61 = .ok (.iconst 1, 1) := by decide +kernel
theorem dX10_longestCarry_62 : decode cX10_longestCarry 62 = .ok (.iadd, 1) := by decide +kernel
theorem dX10_longestCarry_63 : decode cX10_longestCarry 63 = .ok (.goto 4, 3) := by decide +kernel
theorem dX10_longestCarry_66 : decode cX10_longestCarry 66 = .ok (.iconst 0, 1) := by decide +kernel
theorem dX10_longestCarry_67 : decode cX10_longestCarry 67 = .ok (.istore 7, 2) := by decide +kernel
theorem dX10_longestCarry_69 : decode cX10_longestCarry 69 = .ok (.iload 6, 2) := by decide +kernel
theorem dX10_longestCarry_71 : decode cX10_longestCarry 71 = .ok (.iload 7, 2) := by decide +kernel
theorem dX10_longestCarry_73 : decode cX10_longestCarry 73 = .ok (.invokestatic 237, 3) := by decide +kernel
theorem dX10_longestCarry_76 : decode cX10_longestCarry 76 = .ok (.istore 6, 2) := by decide +kernel
theorem dX10_longestCarry_78 : decode cX10_longestCarry 78 = .ok (.iinc 8 1, 3) := by decide +kernel
theorem dX10_longestCarry_81 : decode cX10_longestCarry 81 = .ok (.goto (-40), 3) := by decide +kernel
theorem dX10_longestCarry_84 : decode cX10_longestCarry 84 = .ok (.iload 6, 2) := by decide +kernel
theorem dX10_longestCarry_86 : decode cX10_longestCarry 86 = .ok (.ireturn, 1) := by decide +kernel
theorem dX10_togetherError_0 : decode cX10_togetherError 0 = .ok (.iload_n 1, 1) := by decide +kernel
theorem dX10_togetherError_1 : decode cX10_togetherError 1 = .ok (.invokestatic 96, 3) := by decide +kernel
theorem dX10_togetherError_4 : decode cX10_togetherError 4 = .ok (.aload_n 0, 1) := by decide +kernel
theorem dX10_togetherError_5 : decode cX10_togetherError 5 = .ok (.getfield 10, 3) := by decide +kernel
theorem dX10_togetherError_8 : decode cX10_togetherError 8 = .ok (.iload_n 1, 1) := by decide +kernel
theorem dX10_togetherError_9 : decode cX10_togetherError 9 = .ok (.aload_n 0, 1) := by decide +kernel
theorem dX10_togetherError_10 : decode cX10_togetherError 10 = .ok (.getfield 10, 3) := by decide +kernel
theorem dX10_togetherError_13 : decode cX10_togetherError 13 = .ok (.iload_n 1, 1) := by decide +kernel
theorem dX10_togetherError_14 : decode cX10_togetherError 14 = .ok (.invokestatic 172, 3) := by decide +kernel
theorem dX10_togetherError_17 : decode cX10_togetherError 17 = .ok (.invokestatic 240, 3) := by decide +kernel
theorem dX10_togetherError_20 : decode cX10_togetherError 20 = .ok (.lreturn, 1) := by decide +kernel
theorem dX10_togetherErrorBySets_0 : decode cX10_togetherErrorBySets 0 = .ok (.iload_n 1, 1) := by decide +kernel
theorem dX10_togetherErrorBySets_1 : decode cX10_togetherErrorBySets 1 = .ok (.invokestatic 96, 3) := by decide +kernel
theorem dX10_togetherErrorBySets_4 : decode cX10_togetherErrorBySets 4 = .ok (.aload_n 0, 1) := by decide +kernel
theorem dX10_togetherErrorBySets_5 : decode cX10_togetherErrorBySets 5 = .ok (.getfield 10, 3) := by decide +kernel
theorem dX10_togetherErrorBySets_8 : decode cX10_togetherErrorBySets 8 = .ok (.iload_n 1, 1) := by decide +kernel
theorem dX10_togetherErrorBySets_9 : decode cX10_togetherErrorBySets 9 = .ok (.invokestatic 244, 3) := by decide +kernel
theorem dX10_togetherErrorBySets_12 : decode cX10_togetherErrorBySets 12 = .ok (.lreturn, 1) := by decide +kernel
theorem dX10_goesUp_0 : decode cX10_goesUp 0 = .ok (.aload_n 0, 1) := by decide +kernel
theorem dX10_goesUp_1 : decode cX10_goesUp 1 = .ok (.iload_n 1, 1) := by decide +kernel
theorem dX10_goesUp_2 : decode cX10_goesUp 2 = .ok (.invokevirtual 134, 3) := by decide +kernel
theorem dX10_goesUp_5 : decode cX10_goesUp 5 = .ok (.istore_n 3, 1) := by decide +kernel
theorem dX10_goesUp_6 : decode cX10_goesUp 6 = .ok (.iload_n 2, 1) := by decide +kernel
theorem dX10_goesUp_7 : decode cX10_goesUp 7 = .ok (.invokestatic 96, 3) := by decide +kernel
theorem dX10_goesUp_10 : decode cX10_goesUp 10 = .ok (.aload_n 0, 1) := by decide +kernel
theorem dX10_goesUp_11 : decode cX10_goesUp 11 = .ok (.getfield 10, 3) := by decide +kernel
theorem dX10_goesUp_14 : decode cX10_goesUp 14 = .ok (.iload_n 2, 1) := by decide +kernel
theorem dX10_goesUp_15 : decode cX10_goesUp 15 = .ok (.invokestatic 172, 3) := by decide +kernel
theorem dX10_goesUp_18 : decode cX10_goesUp 18 = .ok (.iload_n 3, 1) := by decide +kernel
theorem dX10_goesUp_19 : decode cX10_goesUp 19 = .ok (.invokestatic 248, 3) := by decide +kernel
theorem dX10_goesUp_22 : decode cX10_goesUp 22 = .ok (.ireturn, 1) := by decide +kernel
theorem dX10_quotientDigit_0 : decode cX10_quotientDigit 0 = .ok (.iload_n 1, 1) := by decide +kernel
theorem dX10_quotientDigit_1 : decode cX10_quotientDigit 1 = .ok (.iload_n 2, 1) := by decide +kernel
theorem dX10_quotientDigit_2 : decode cX10_quotientDigit 2 = .ok (.invokestatic 127, 3) := by decide +kernel
theorem dX10_quotientDigit_5 : decode cX10_quotientDigit 5 = .ok (.iload_n 3, 1) := by decide +kernel
theorem dX10_quotientDigit_6 : decode cX10_quotientDigit 6 = .ok (.iconst 1, 1) := by decide +kernel
theorem dX10_quotientDigit_7 : decode cX10_quotientDigit 7 = .ok (.if_icmp .lt 10, 3) := by decide +kernel
theorem dX10_quotientDigit_10 : decode cX10_quotientDigit 10 = .ok (.iload_n 3, 1) := by decide +kernel
theorem dX10_quotientDigit_11 : decode cX10_quotientDigit 11 = .ok (.sipush 9999, 3) := by decide +kernel
theorem dX10_quotientDigit_14 : decode cX10_quotientDigit 14 = .ok (.if_icmp .le 13, 3) := by decide +kernel
theorem dX10_quotientDigit_17 : decode cX10_quotientDigit 17 = .ok (.new 199, 3) := by decide +kernel
theorem dX10_quotientDigit_20 : decode cX10_quotientDigit 20 = .ok (.dup, 1) := by decide +kernel
theorem dX10_quotientDigit_21 : decode cX10_quotientDigit 21 = .ok (.ldc 252, 2) := by decide +kernel
theorem dX10_quotientDigit_23 : decode cX10_quotientDigit 23 = .ok (.invokespecial 203, 3) := by decide +kernel
theorem dX10_quotientDigit_26 : decode cX10_quotientDigit 26 = .ok (.athrow, 1) := by decide +kernel
theorem dX10_quotientDigit_27 : decode cX10_quotientDigit 27 = .ok (.iload_n 1, 1) := by decide +kernel
theorem dX10_quotientDigit_28 : decode cX10_quotientDigit 28 = .ok (.iload_n 2, 1) := by decide +kernel
theorem dX10_quotientDigit_29 : decode cX10_quotientDigit 29 = .ok (.irem, 1) := by decide +kernel
theorem dX10_quotientDigit_30 : decode cX10_quotientDigit 30 = .ok (.istore 4, 2) := by decide +kernel
theorem dX10_quotientDigit_32 : decode cX10_quotientDigit 32 = .ok (.iconst 1, 1) := by decide +kernel
theorem dX10_quotientDigit_33 : decode cX10_quotientDigit 33 = .ok (.istore 5, 2) := by decide +kernel
theorem dX10_quotientDigit_35 : decode cX10_quotientDigit 35 = .ok (.iload 5, 2) := by decide +kernel
theorem dX10_quotientDigit_37 : decode cX10_quotientDigit 37 = .ok (.iload_n 3, 1) := by decide +kernel
theorem dX10_quotientDigit_38 : decode cX10_quotientDigit 38 = .ok (.if_icmp .ge 18, 3) := by decide +kernel
theorem dX10_quotientDigit_41 : decode cX10_quotientDigit 41 = .ok (.iload 4, 2) := by decide +kernel
theorem dX10_quotientDigit_43 : decode cX10_quotientDigit 43 = .ok (.bipush 10, 2) := by decide +kernel
theorem dX10_quotientDigit_45 : decode cX10_quotientDigit 45 = .ok (.imul, 1) := by decide +kernel
theorem dX10_quotientDigit_46 : decode cX10_quotientDigit 46 = .ok (.iload_n 2, 1) := by decide +kernel
theorem dX10_quotientDigit_47 : decode cX10_quotientDigit 47 = .ok (.irem, 1) := by decide +kernel
theorem dX10_quotientDigit_48 : decode cX10_quotientDigit 48 = .ok (.istore 4, 2) := by decide +kernel
theorem dX10_quotientDigit_50 : decode cX10_quotientDigit 50 = .ok (.iinc 5 1, 3) := by decide +kernel
theorem dX10_quotientDigit_53 : decode cX10_quotientDigit 53 = .ok (.goto (-18), 3) := by decide +kernel
theorem dX10_quotientDigit_56 : decode cX10_quotientDigit 56 = .ok (.iload 4, 2) := by decide +kernel
theorem dX10_quotientDigit_58 : decode cX10_quotientDigit 58 = .ok (.bipush 10, 2) := by decide +kernel
theorem dX10_quotientDigit_60 : decode cX10_quotientDigit 60 = .ok (.imul, 1) := by decide +kernel
theorem dX10_quotientDigit_61 : decode cX10_quotientDigit 61 = .ok (.iload_n 2, 1) := by decide +kernel
theorem dX10_quotientDigit_62 : decode cX10_quotientDigit 62 = .ok (.idiv, 1) := by decide +kernel
theorem dX10_quotientDigit_63 : decode cX10_quotientDigit 63 = .ok (.ireturn, 1) := by decide +kernel
theorem dX10_preperiod_0 : decode cX10_preperiod 0 = .ok (.iload_n 1, 1) := by decide +kernel
theorem dX10_preperiod_1 : decode cX10_preperiod 1 = .ok (.iload_n 2, 1) := by decide +kernel
theorem dX10_preperiod_2 : decode cX10_preperiod 2 = .ok (.invokestatic 127, 3) := by decide +kernel
theorem dX10_preperiod_5 : decode cX10_preperiod 5 = .ok (.aload_n 0, 1) := by decide +kernel
theorem dX10_preperiod_6 : decode cX10_preperiod 6 = .ok (.getfield 29, 3) := by decide +kernel
theorem dX10_preperiod_9 : decode cX10_preperiod 9 = .ok (.iload_n 1, 1) := by decide +kernel
theorem dX10_preperiod_10 : decode cX10_preperiod 10 = .ok (.iload_n 2, 1) := by decide +kernel
theorem dX10_preperiod_11 : decode cX10_preperiod 11 = .ok (.invokevirtual 254, 3) := by decide +kernel
theorem dX10_preperiod_14 : decode cX10_preperiod 14 = .ok (.aload_n 0, 1) := by decide +kernel
theorem dX10_preperiod_15 : decode cX10_preperiod 15 = .ok (.getfield 29, 3) := by decide +kernel
theorem dX10_preperiod_18 : decode cX10_preperiod 18 = .ok (.getfield 257, 3) := by decide +kernel
theorem dX10_preperiod_21 : decode cX10_preperiod 21 = .ok (.ireturn, 1) := by decide +kernel
theorem dX10_period_0 : decode cX10_period 0 = .ok (.iload_n 1, 1) := by decide +kernel
theorem dX10_period_1 : decode cX10_period 1 = .ok (.iload_n 2, 1) := by decide +kernel
theorem dX10_period_2 : decode cX10_period 2 = .ok (.invokestatic 127, 3) := by decide +kernel
theorem dX10_period_5 : decode cX10_period 5 = .ok (.aload_n 0, 1) := by decide +kernel
theorem dX10_period_6 : decode cX10_period 6 = .ok (.getfield 29, 3) := by decide +kernel
theorem dX10_period_9 : decode cX10_period 9 = .ok (.iload_n 1, 1) := by decide +kernel
theorem dX10_period_10 : decode cX10_period 10 = .ok (.iload_n 2, 1) := by decide +kernel
theorem dX10_period_11 : decode cX10_period 11 = .ok (.invokevirtual 254, 3) := by decide +kernel
theorem dX10_period_14 : decode cX10_period 14 = .ok (.aload_n 0, 1) := by decide +kernel
theorem dX10_period_15 : decode cX10_period 15 = .ok (.getfield 29, 3) := by decide +kernel
theorem dX10_period_18 : decode cX10_period 18 = .ok (.getfield 260, 3) := by decide +kernel
theorem dX10_period_21 : decode cX10_period 21 = .ok (.ireturn, 1) := by decide +kernel
theorem dX10_periodByPowers_0 : decode cX10_periodByPowers 0 = .ok (.iload_n 1, 1) := by decide +kernel
theorem dX10_periodByPowers_1 : decode cX10_periodByPowers 1 = .ok (.iload_n 2, 1) := by decide +kernel
theorem dX10_periodByPowers_2 : decode cX10_periodByPowers 2 = .ok (.invokestatic 127, 3) := by decide +kernel
theorem dX10_periodByPowers_5 : decode cX10_periodByPowers 5 = .ok (.iload_n 1, 1) := by decide +kernel
theorem dX10_periodByPowers_6 : decode cX10_periodByPowers 6 = .ok (.iload_n 2, 1) := by decide +kernel
theorem dX10_periodByPowers_7 : decode cX10_periodByPowers 7 = .ok (.invokestatic 263, 3) := by decide +kernel
theorem dX10_periodByPowers_10 : decode cX10_periodByPowers 10 = .ok (.invokestatic 266, 3) := by decide +kernel
theorem dX10_periodByPowers_13 : decode cX10_periodByPowers 13 = .ok (.ireturn, 1) := by decide +kernel
theorem dX10_total_0 : decode cX10_total 0 = .ok (.aload_n 0, 1) := by decide +kernel
theorem dX10_total_1 : decode cX10_total 1 = .ok (.getfield 10, 3) := by decide +kernel
theorem dX10_total_4 : decode cX10_total 4 = .ok (.invokevirtual 269, 3) := by decide +kernel
theorem dX10_total_7 : decode cX10_total 7 = .ok (.lreturn, 1) := by decide +kernel
theorem dX10_totalByAccounts_0 : decode cX10_totalByAccounts 0 = .ok (.aload_n 0, 1) := by decide +kernel
theorem dX10_totalByAccounts_1 : decode cX10_totalByAccounts 1 = .ok (.getfield 10, 3) := by decide +kernel
theorem dX10_totalByAccounts_4 : decode cX10_totalByAccounts 4 = .ok (.invokevirtual 273, 3) := by decide +kernel
theorem dX10_totalByAccounts_7 : decode cX10_totalByAccounts 7 = .ok (.lreturn, 1) := by decide +kernel
theorem dX10_escapes_0 : decode cX10_escapes 0 = .ok (.aload_n 0, 1) := by decide +kernel
theorem dX10_escapes_1 : decode cX10_escapes 1 = .ok (.getfield 10, 3) := by decide +kernel
theorem dX10_escapes_4 : decode cX10_escapes 4 = .ok (.getfield 276, 3) := by decide +kernel
theorem dX10_escapes_7 : decode cX10_escapes 7 = .ok (.ireturn, 1) := by decide +kernel
theorem dX10_crumbs_0 : decode cX10_crumbs 0 = .ok (.aload_n 0, 1) := by decide +kernel
theorem dX10_crumbs_1 : decode cX10_crumbs 1 = .ok (.getfield 10, 3) := by decide +kernel
theorem dX10_crumbs_4 : decode cX10_crumbs 4 = .ok (.getfield 279, 3) := by decide +kernel
theorem dX10_crumbs_7 : decode cX10_crumbs 7 = .ok (.lreturn, 1) := by decide +kernel
theorem dX10_meanValue_0 : decode cX10_meanValue 0 = .ok (.aload_n 0, 1) := by decide +kernel
theorem dX10_meanValue_1 : decode cX10_meanValue 1 = .ok (.getfield 10, 3) := by decide +kernel
theorem dX10_meanValue_4 : decode cX10_meanValue 4 = .ok (.getfield 178, 3) := by decide +kernel
theorem dX10_meanValue_7 : decode cX10_meanValue 7 = .ok (.ifCond .ne 14, 3) := by decide +kernel
theorem dX10_meanValue_10 : decode cX10_meanValue 10 = .ok (.new 282, 3) := by decide +kernel
theorem dX10_meanValue_13 : decode cX10_meanValue 13 = .ok (.dup, 1) := by decide +kernel
theorem dX10_meanValue_14 : decode cX10_meanValue 14 = .ok (.ldc_w 284, 3) := by decide +kernel
theorem dX10_meanValue_17 : decode cX10_meanValue 17 = .ok (.invokespecial 286, 3) := by decide +kernel
theorem dX10_meanValue_20 : decode cX10_meanValue 20 = .ok (.athrow, 1) := by decide +kernel
theorem dX10_meanValue_21 : decode cX10_meanValue 21 = .ok (.aload_n 0, 1) := by decide +kernel
theorem dX10_meanValue_22 : decode cX10_meanValue 22 = .ok (.getfield 10, 3) := by decide +kernel
theorem dX10_meanValue_25 : decode cX10_meanValue 25 = .ok (.invokevirtual 269, 3) := by decide +kernel
theorem dX10_meanValue_28 : decode cX10_meanValue 28 = .ok (.l2d, 1) := by decide +kernel
theorem dX10_meanValue_29 : decode cX10_meanValue 29 = .ok (.aload_n 0, 1) := by decide +kernel
theorem dX10_meanValue_30 : decode cX10_meanValue 30 = .ok (.getfield 10, 3) := by decide +kernel
theorem dX10_meanValue_33 : decode cX10_meanValue 33 = .ok (.getfield 178, 3) := by decide +kernel
theorem dX10_meanValue_36 : decode cX10_meanValue 36 = .ok (.i2d, 1) := by decide +kernel
theorem dX10_meanValue_37 : decode cX10_meanValue 37 = .ok (.ddiv, 1) := by decide +kernel
theorem dX10_meanValue_38 : decode cX10_meanValue 38 = .ok (.ldc2_w 287, 3) := by decide +kernel
theorem dX10_meanValue_41 : decode cX10_meanValue 41 = .ok (.ddiv, 1) := by decide +kernel
theorem dX10_meanValue_42 : decode cX10_meanValue 42 = .ok (.dreturn, 1) := by decide +kernel
theorem dX10_share_0 : decode cX10_share 0 = .ok (.aload_n 0, 1) := by decide +kernel
theorem dX10_share_1 : decode cX10_share 1 = .ok (.iload_n 1, 1) := by decide +kernel
theorem dX10_share_2 : decode cX10_share 2 = .ok (.invokevirtual 134, 3) := by decide +kernel
theorem dX10_share_5 : decode cX10_share 5 = .ok (.istore_n 2, 1) := by decide +kernel
theorem dX10_share_6 : decode cX10_share 6 = .ok (.aload_n 0, 1) := by decide +kernel
theorem dX10_share_7 : decode cX10_share 7 = .ok (.getfield 10, 3) := by decide +kernel
theorem dX10_share_10 : decode cX10_share 10 = .ok (.invokevirtual 269, 3) := by decide +kernel
theorem dX10_share_13 : decode cX10_share 13 = .ok (.lstore_n 3, 1) := by decide +kernel
theorem dX10_share_14 : decode cX10_share 14 = .ok (.lload_n 3, 1) := by decide +kernel
theorem dX10_share_15 : decode cX10_share 15 = .ok (.lconst 0, 1) := by decide +kernel
theorem dX10_share_16 : decode cX10_share 16 = .ok (.lcmp, 1) := by decide +kernel
theorem dX10_share_17 : decode cX10_share 17 = .ok (.ifCond .ne 14, 3) := by decide +kernel
theorem dX10_share_20 : decode cX10_share 20 = .ok (.new 282, 3) := by decide +kernel
theorem dX10_share_23 : decode cX10_share 23 = .ok (.dup, 1) := by decide +kernel
theorem dX10_share_24 : decode cX10_share 24 = .ok (.ldc_w 289, 3) := by decide +kernel
theorem dX10_share_27 : decode cX10_share 27 = .ok (.invokespecial 286, 3) := by decide +kernel
theorem dX10_share_30 : decode cX10_share 30 = .ok (.athrow, 1) := by decide +kernel
theorem dX10_share_31 : decode cX10_share 31 = .ok (.aload_n 0, 1) := by decide +kernel
theorem dX10_share_32 : decode cX10_share 32 = .ok (.getfield 10, 3) := by decide +kernel
theorem dX10_share_35 : decode cX10_share 35 = .ok (.getfield 144, 3) := by decide +kernel
theorem dX10_share_38 : decode cX10_share 38 = .ok (.iload_n 2, 1) := by decide +kernel
theorem dX10_share_39 : decode cX10_share 39 = .ok (.laload, 1) := by decide +kernel
theorem dX10_share_40 : decode cX10_share 40 = .ok (.l2f, 1) := by decide +kernel
theorem dX10_share_41 : decode cX10_share 41 = .ok (.lload_n 3, 1) := by decide +kernel
theorem dX10_share_42 : decode cX10_share 42 = .ok (.l2f, 1) := by decide +kernel
theorem dX10_share_43 : decode cX10_share 43 = .ok (.fdiv, 1) := by decide +kernel
theorem dX10_share_44 : decode cX10_share 44 = .ok (.freturn, 1) := by decide +kernel
theorem dX10_isConsistent_0 : decode cX10_isConsistent 0 = .ok (.aload_n 0, 1) := by decide +kernel
theorem dX10_isConsistent_1 : decode cX10_isConsistent 1 = .ok (.getfield 10, 3) := by decide +kernel
theorem dX10_isConsistent_4 : decode cX10_isConsistent 4 = .ok (.invokevirtual 269, 3) := by decide +kernel
theorem dX10_isConsistent_7 : decode cX10_isConsistent 7 = .ok (.aload_n 0, 1) := by decide +kernel
theorem dX10_isConsistent_8 : decode cX10_isConsistent 8 = .ok (.getfield 10, 3) := by decide +kernel
theorem dX10_isConsistent_11 : decode cX10_isConsistent 11 = .ok (.invokevirtual 273, 3) := by decide +kernel
theorem dX10_isConsistent_14 : decode cX10_isConsistent 14 = .ok (.lcmp, 1) := by decide +kernel
theorem dX10_isConsistent_15 : decode cX10_isConsistent 15 = .ok (.ifCond .ne 31, 3) := by decide +kernel
theorem dX10_isConsistent_18 : decode cX10_isConsistent 18 = .ok (.aload_n 0, 1) := by decide +kernel
theorem dX10_isConsistent_19 : decode cX10_isConsistent 19 = .ok (.getfield 10, 3) := by decide +kernel
theorem dX10_isConsistent_22 : decode cX10_isConsistent 22 = .ok (.invokevirtual 291, 3) := by decide +kernel
theorem dX10_isConsistent_25 : decode cX10_isConsistent 25 = .ok (.ifCond .eq 21, 3) := by decide +kernel
theorem dX10_isConsistent_28 : decode cX10_isConsistent 28 = .ok (.aload_n 0, 1) := by decide +kernel
theorem dX10_isConsistent_29 : decode cX10_isConsistent 29 = .ok (.invokevirtual 295, 3) := by decide +kernel
theorem dX10_isConsistent_32 : decode cX10_isConsistent 32 = .ok (.ifCond .eq 14, 3) := by decide +kernel
theorem dX10_isConsistent_35 : decode cX10_isConsistent 35 = .ok (.aload_n 0, 1) := by decide +kernel
theorem dX10_isConsistent_36 : decode cX10_isConsistent 36 = .ok (.invokevirtual 298, 3) := by decide +kernel
theorem dX10_isConsistent_39 : decode cX10_isConsistent 39 = .ok (.ifCond .eq 7, 3) := by decide +kernel
theorem dX10_isConsistent_42 : decode cX10_isConsistent 42 = .ok (.iconst 1, 1) := by decide +kernel
theorem dX10_isConsistent_43 : decode cX10_isConsistent 43 = .ok (.goto 4, 3) := by decide +kernel
theorem dX10_isConsistent_46 : decode cX10_isConsistent 46 = .ok (.iconst 0, 1) := by decide +kernel
theorem dX10_isConsistent_47 : decode cX10_isConsistent 47 = .ok (.ireturn, 1) := by decide +kernel
theorem dX10_errorsAgree_0 : decode cX10_errorsAgree 0 = .ok (.iconst 0, 1) := by decide +kernel
theorem dX10_errorsAgree_1 : decode cX10_errorsAgree 1 = .ok (.istore_n 1, 1) := by decide +kernel
theorem dX10_errorsAgree_2 : decode cX10_errorsAgree 2 = .ok (.iload_n 1, 1) := by decide +kernel
theorem dX10_errorsAgree_3 : decode cX10_errorsAgree 3 = .ok (.iconst 4, 1) := by decide +kernel
theorem dX10_errorsAgree_4 : decode cX10_errorsAgree 4 = .ok (.if_icmp .gt 41, 3) := by decide +kernel
theorem dX10_errorsAgree_7 : decode cX10_errorsAgree 7 = .ok (.aload_n 0, 1) := by decide +kernel
theorem dX10_errorsAgree_8 : decode cX10_errorsAgree 8 = .ok (.getfield 10, 3) := by decide +kernel
theorem dX10_errorsAgree_11 : decode cX10_errorsAgree 11 = .ok (.iload_n 1, 1) := by decide +kernel
theorem dX10_errorsAgree_12 : decode cX10_errorsAgree 12 = .ok (.aload_n 0, 1) := by decide +kernel
theorem dX10_errorsAgree_13 : decode cX10_errorsAgree 13 = .ok (.getfield 10, 3) := by decide +kernel
theorem dX10_errorsAgree_16 : decode cX10_errorsAgree 16 = .ok (.iload_n 1, 1) := by decide +kernel
theorem dX10_errorsAgree_17 : decode cX10_errorsAgree 17 = .ok (.invokestatic 172, 3) := by decide +kernel
theorem dX10_errorsAgree_20 : decode cX10_errorsAgree 20 = .ok (.invokestatic 240, 3) := by decide +kernel
theorem dX10_errorsAgree_23 : decode cX10_errorsAgree 23 = .ok (.lstore_n 2, 1) := by decide +kernel
theorem dX10_errorsAgree_24 : decode cX10_errorsAgree 24 = .ok (.lload_n 2, 1) := by decide +kernel
theorem dX10_errorsAgree_25 : decode cX10_errorsAgree 25 = .ok (.aload_n 0, 1) := by decide +kernel
theorem dX10_errorsAgree_26 : decode cX10_errorsAgree 26 = .ok (.getfield 10, 3) := by decide +kernel
theorem dX10_errorsAgree_29 : decode cX10_errorsAgree 29 = .ok (.iload_n 1, 1) := by decide +kernel
theorem dX10_errorsAgree_30 : decode cX10_errorsAgree 30 = .ok (.invokestatic 244, 3) := by decide +kernel
theorem dX10_errorsAgree_33 : decode cX10_errorsAgree 33 = .ok (.lcmp, 1) := by decide +kernel
theorem dX10_errorsAgree_34 : decode cX10_errorsAgree 34 = .ok (.ifCond .eq 5, 3) := by decide +kernel
theorem dX10_errorsAgree_37 : decode cX10_errorsAgree 37 = .ok (.iconst 0, 1) := by decide +kernel
theorem dX10_errorsAgree_38 : decode cX10_errorsAgree 38 = .ok (.ireturn, 1) := by decide +kernel
theorem dX10_errorsAgree_39 : decode cX10_errorsAgree 39 = .ok (.iinc 1 1, 3) := by decide +kernel
theorem dX10_errorsAgree_42 : decode cX10_errorsAgree 42 = .ok (.goto (-40), 3) := by decide +kernel
theorem dX10_errorsAgree_45 : decode cX10_errorsAgree 45 = .ok (.iconst 1, 1) := by decide +kernel
theorem dX10_errorsAgree_46 : decode cX10_errorsAgree 46 = .ok (.ireturn, 1) := by decide +kernel
theorem dX10_carriesAgree_0 : decode cX10_carriesAgree 0 = .ok (.iconst 1, 1) := by decide +kernel
theorem dX10_carriesAgree_1 : decode cX10_carriesAgree 1 = .ok (.sipush 9999, 3) := by decide +kernel
theorem dX10_carriesAgree_4 : decode cX10_carriesAgree 4 = .ok (.invokestatic 107, 3) := by decide +kernel
theorem dX10_carriesAgree_7 : decode cX10_carriesAgree 7 = .ok (.lstore_n 1, 1) := by decide +kernel
theorem dX10_carriesAgree_8 : decode cX10_carriesAgree 8 = .ok (.iconst 0, 1) := by decide +kernel
theorem dX10_carriesAgree_9 : decode cX10_carriesAgree 9 = .ok (.istore_n 3, 1) := by decide +kernel
theorem dX10_carriesAgree_10 : decode cX10_carriesAgree 10 = .ok (.iload_n 3, 1) := by decide +kernel
theorem dX10_carriesAgree_11 : decode cX10_carriesAgree 11 = .ok (.aload_n 0, 1) := by decide +kernel
theorem dX10_carriesAgree_12 : decode cX10_carriesAgree 12 = .ok (.getfield 10, 3) := by decide +kernel
theorem dX10_carriesAgree_15 : decode cX10_carriesAgree 15 = .ok (.getfield 178, 3) := by decide +kernel
theorem dX10_carriesAgree_18 : decode cX10_carriesAgree 18 = .ok (.if_icmp .ge 40, 3) := by decide +kernel
theorem dX10_carriesAgree_21 : decode cX10_carriesAgree 21 = .ok (.aload_n 0, 1) := by decide +kernel
theorem dX10_carriesAgree_22 : decode cX10_carriesAgree 22 = .ok (.getfield 10, 3) := by decide +kernel
theorem dX10_carriesAgree_25 : decode cX10_carriesAgree 25 = .ok (.getfield 144, 3) := by decide +kernel
theorem dX10_carriesAgree_28 : decode cX10_carriesAgree 28 = .ok (.iload_n 3, 1) := by decide +kernel
theorem dX10_carriesAgree_29 : decode cX10_carriesAgree 29 = .ok (.laload, 1) := by decide +kernel
theorem dX10_carriesAgree_30 : decode cX10_carriesAgree 30 = .ok (.lstore 4, 2) := by decide +kernel
theorem dX10_carriesAgree_32 : decode cX10_carriesAgree 32 = .ok (.lload 4, 2) := by decide +kernel
theorem dX10_carriesAgree_34 : decode cX10_carriesAgree 34 = .ok (.lload_n 1, 1) := by decide +kernel
theorem dX10_carriesAgree_35 : decode cX10_carriesAgree 35 = .ok (.invokestatic 230, 3) := by decide +kernel
theorem dX10_carriesAgree_38 : decode cX10_carriesAgree 38 = .ok (.invokestatic 194, 3) := by decide +kernel
theorem dX10_carriesAgree_41 : decode cX10_carriesAgree 41 = .ok (.lload 4, 2) := by decide +kernel
theorem dX10_carriesAgree_43 : decode cX10_carriesAgree 43 = .ok (.lload_n 1, 1) := by decide +kernel
theorem dX10_carriesAgree_44 : decode cX10_carriesAgree 44 = .ok (.invokestatic 234, 3) := by decide +kernel
theorem dX10_carriesAgree_47 : decode cX10_carriesAgree 47 = .ok (.if_icmp .eq 5, 3) := by decide +kernel
theorem dX10_carriesAgree_50 : decode cX10_carriesAgree 50 = .ok (.iconst 0, 1) := by decide +kernel
theorem dX10_carriesAgree_51 : decode cX10_carriesAgree 51 = .ok (.ireturn, 1) := by decide +kernel
theorem dX10_carriesAgree_52 : decode cX10_carriesAgree 52 = .ok (.iinc 3 1, 3) := by decide +kernel
theorem dX10_carriesAgree_55 : decode cX10_carriesAgree 55 = .ok (.goto (-45), 3) := by decide +kernel
theorem dX10_carriesAgree_58 : decode cX10_carriesAgree 58 = .ok (.iconst 1, 1) := by decide +kernel
theorem dX10_carriesAgree_59 : decode cX10_carriesAgree 59 = .ok (.ireturn, 1) := by decide +kernel
theorem dX10_append_0 : decode cX10_append 0 = .ok (.aload_n 0, 1) := by decide +kernel
theorem dX10_append_1 : decode cX10_append 1 = .ok (.getfield 36, 3) := by decide +kernel
theorem dX10_append_4 : decode cX10_append 4 = .ok (.invokevirtual 301, 3) := by decide +kernel
theorem dX10_append_7 : decode cX10_append 7 = .ok (.ifCond .eq 14, 3) := by decide +kernel
theorem dX10_append_10 : decode cX10_append 10 = .ok (.new 157, 3) := by decide +kernel
theorem dX10_append_13 : decode cX10_append 13 = .ok (.dup, 1) := by decide +kernel
theorem dX10_append_14 : decode cX10_append 14 = .ok (.ldc_w 304, 3) := by decide +kernel
theorem dX10_append_17 : decode cX10_append 17 = .ok (.invokespecial 161, 3) := by decide +kernel
theorem dX10_append_20 : decode cX10_append 20 = .ok (.athrow, 1) := by decide +kernel
theorem dX10_append_21 : decode cX10_append 21 = .ok (.aload_n 0, 1) := by decide +kernel
theorem dX10_append_22 : decode cX10_append 22 = .ok (.getfield 36, 3) := by decide +kernel
theorem dX10_append_25 : decode cX10_append 25 = .ok (.iload_n 1, 1) := by decide +kernel
theorem dX10_append_26 : decode cX10_append 26 = .ok (.invokevirtual 306, 3) := by decide +kernel
theorem dX10_append_29 : decode cX10_append 29 = .ok (.aload_n 0, 1) := by decide +kernel
theorem dX10_append_30 : decode cX10_append 30 = .ok (.getfield 36, 3) := by decide +kernel
theorem dX10_append_33 : decode cX10_append 33 = .ok (.getfield 309, 3) := by decide +kernel
theorem dX10_append_36 : decode cX10_append 36 = .ok (.ireturn, 1) := by decide +kernel
theorem dX10_run_0 : decode cX10_run 0 = .ok (.aload_n 0, 1) := by decide +kernel
theorem dX10_run_1 : decode cX10_run 1 = .ok (.getfield 36, 3) := by decide +kernel
theorem dX10_run_4 : decode cX10_run 4 = .ok (.invokevirtual 312, 3) := by decide +kernel
theorem dX10_run_7 : decode cX10_run 7 = .ok (.istore_n 1, 1) := by decide +kernel
theorem dX10_run_8 : decode cX10_run 8 = .ok (.aload_n 0, 1) := by decide +kernel
theorem dX10_run_9 : decode cX10_run 9 = .ok (.getfield 36, 3) := by decide +kernel
theorem dX10_run_12 : decode cX10_run 12 = .ok (.iconst 0, 1) := by decide +kernel
theorem dX10_run_13 : decode cX10_run 13 = .ok (.putfield 309, 3) := by decide +kernel
theorem dX10_run_16 : decode cX10_run 16 = .ok (.iload_n 1, 1) := by decide +kernel
theorem dX10_run_17 : decode cX10_run 17 = .ok (.ifCond .ne 25, 3) := by decide +kernel
theorem dX10_run_20 : decode cX10_run 20 = .ok (.aload_n 0, 1) := by decide +kernel
theorem dX10_run_21 : decode cX10_run 21 = .ok (.aload_n 0, 1) := by decide +kernel
theorem dX10_run_22 : decode cX10_run 22 = .ok (.getfield 36, 3) := by decide +kernel
theorem dX10_run_25 : decode cX10_run 25 = .ok (.getfield 315, 3) := by decide +kernel
theorem dX10_run_28 : decode cX10_run 28 = .ok (.putfield 40, 3) := by decide +kernel
theorem dX10_run_31 : decode cX10_run 31 = .ok (.new 152, 3) := by decide +kernel
theorem dX10_run_34 : decode cX10_run 34 = .ok (.dup, 1) := by decide +kernel
theorem dX10_run_35 : decode cX10_run 35 = .ok (.ldc_w 318, 3) := by decide +kernel
theorem dX10_run_38 : decode cX10_run 38 = .ok (.invokespecial 156, 3) := by decide +kernel
theorem dX10_run_41 : decode cX10_run 41 = .ok (.athrow, 1) := by decide +kernel
theorem dX10_run_42 : decode cX10_run 42 = .ok (.aload_n 0, 1) := by decide +kernel
theorem dX10_run_43 : decode cX10_run 43 = .ok (.getfield 22, 3) := by decide +kernel
theorem dX10_run_46 : decode cX10_run 46 = .ok (.aload_n 0, 1) := by decide +kernel
theorem dX10_run_47 : decode cX10_run 47 = .ok (.getfield 10, 3) := by decide +kernel
theorem dX10_run_50 : decode cX10_run 50 = .ok (.invokevirtual 54, 3) := by decide +kernel
theorem dX10_run_53 : decode cX10_run 53 = .ok (.iconst 0, 1) := by decide +kernel
theorem dX10_run_54 : decode cX10_run 54 = .ok (.istore_n 2, 1) := by decide +kernel
theorem dX10_run_55 : decode cX10_run 55 = .ok (.iload_n 2, 1) := by decide +kernel
theorem dX10_run_56 : decode cX10_run 56 = .ok (.aload_n 0, 1) := by decide +kernel
theorem dX10_run_57 : decode cX10_run 57 = .ok (.getfield 36, 3) := by decide +kernel
theorem dX10_run_60 : decode cX10_run 60 = .ok (.getfield 320, 3) := by decide +kernel
theorem dX10_run_63 : decode cX10_run 63 = .ok (.if_icmp .ge 52, 3) := by decide +kernel
theorem dX10_run_66 : decode cX10_run 66 = .ok (.aload_n 0, 1) := by decide +kernel
theorem dX10_run_67 : decode cX10_run 67 = .ok (.aload_n 0, 1) := by decide +kernel
theorem dX10_run_68 : decode cX10_run 68 = .ok (.getfield 36, 3) := by decide +kernel
theorem dX10_run_71 : decode cX10_run 71 = .ok (.getfield 323, 3) := by decide +kernel
theorem dX10_run_74 : decode cX10_run 74 = .ok (.iload_n 2, 1) := by decide +kernel
theorem dX10_run_75 : decode cX10_run 75 = .ok (.aaload, 1) := by decide +kernel
theorem dX10_run_76 : decode cX10_run 76 = .ok (.invokevirtual 327, 3) := by decide +kernel
theorem dX10_run_79 : decode cX10_run 79 = .ok (.ifCond .ne 30, 3) := by decide +kernel
theorem dX10_run_82 : decode cX10_run 82 = .ok (.aload_n 0, 1) := by decide +kernel
theorem dX10_run_83 : decode cX10_run 83 = .ok (.getfield 22, 3) := by decide +kernel
theorem dX10_run_86 : decode cX10_run 86 = .ok (.aload_n 0, 1) := by decide +kernel
theorem dX10_run_87 : decode cX10_run 87 = .ok (.getfield 10, 3) := by decide +kernel
theorem dX10_run_90 : decode cX10_run 90 = .ok (.invokevirtual 331, 3) := by decide +kernel
theorem dX10_run_93 : decode cX10_run 93 = .ok (.aload_n 0, 1) := by decide +kernel
theorem dX10_run_94 : decode cX10_run 94 = .ok (.iload_n 2, 1) := by decide +kernel
theorem dX10_run_95 : decode cX10_run 95 = .ok (.putfield 44, 3) := by decide +kernel
theorem dX10_run_98 : decode cX10_run 98 = .ok (.new 116, 3) := by decide +kernel
theorem dX10_run_101 : decode cX10_run 101 = .ok (.dup, 1) := by decide +kernel
theorem dX10_run_102 : decode cX10_run 102 = .ok (.ldc_w 334, 3) := by decide +kernel
theorem dX10_run_105 : decode cX10_run 105 = .ok (.invokespecial 120, 3) := by decide +kernel
theorem dX10_run_108 : decode cX10_run 108 = .ok (.athrow, 1) := by decide +kernel
theorem dX10_run_109 : decode cX10_run 109 = .ok (.iinc 2 1, 3) := by decide +kernel
theorem dX10_run_112 : decode cX10_run 112 = .ok (.goto (-57), 3) := by decide +kernel
theorem dX10_run_115 : decode cX10_run 115 = .ok (.aload_n 0, 1) := by decide +kernel
theorem dX10_run_116 : decode cX10_run 116 = .ok (.getfield 22, 3) := by decide +kernel
theorem dX10_run_119 : decode cX10_run 119 = .ok (.invokevirtual 62, 3) := by decide +kernel
theorem dX10_run_122 : decode cX10_run 122 = .ok (.aload_n 0, 1) := by decide +kernel
theorem dX10_run_123 : decode cX10_run 123 = .ok (.getfield 36, 3) := by decide +kernel
theorem dX10_run_126 : decode cX10_run 126 = .ok (.getfield 320, 3) := by decide +kernel
theorem dX10_run_129 : decode cX10_run 129 = .ok (.ireturn, 1) := by decide +kernel
theorem dX10_succeeds_0 : decode cX10_succeeds 0 = .ok (.aload_n 0, 1) := by decide +kernel
theorem dX10_succeeds_1 : decode cX10_succeeds 1 = .ok (.aload_n 1, 1) := by decide +kernel
theorem dX10_succeeds_2 : decode cX10_succeeds 2 = .ok (.invokevirtual 336, 3) := by decide +kernel
theorem dX10_succeeds_5 : decode cX10_succeeds 5 = .ok (.iconst 1, 1) := by decide +kernel
theorem dX10_succeeds_6 : decode cX10_succeeds 6 = .ok (.ireturn, 1) := by decide +kernel
theorem dX10_succeeds_7 : decode cX10_succeeds 7 = .ok (.astore_n 2, 1) := by decide +kernel
theorem dX10_succeeds_8 : decode cX10_succeeds 8 = .ok (.iconst 0, 1) := by decide +kernel
theorem dX10_succeeds_9 : decode cX10_succeeds 9 = .ok (.ireturn, 1) := by decide +kernel
theorem dX10_succeeds_10 : decode cX10_succeeds 10 = .ok (.astore_n 2, 1) := by decide +kernel
theorem dX10_succeeds_11 : decode cX10_succeeds 11 = .ok (.iconst 0, 1) := by decide +kernel
theorem dX10_succeeds_12 : decode cX10_succeeds 12 = .ok (.ireturn, 1) := by decide +kernel
theorem dX10_succeeds_13 : decode cX10_succeeds 13 = .ok (.astore_n 2, 1) := by decide +kernel
theorem dX10_succeeds_14 : decode cX10_succeeds 14 = .ok (.iconst 0, 1) := by decide +kernel
theorem dX10_succeeds_15 : decode cX10_succeeds 15 = .ok (.ireturn, 1) := by decide +kernel
theorem dX10_succeeds_16 : decode cX10_succeeds 16 = .ok (.astore_n 2, 1) := by decide +kernel
theorem dX10_succeeds_17 : decode cX10_succeeds 17 = .ok (.iconst 0, 1) := by decide +kernel
theorem dX10_succeeds_18 : decode cX10_succeeds 18 = .ok (.ireturn, 1) := by decide +kernel
theorem dX10_carryOut_0 : decode cX10_carryOut 0 = .ok (.getstatic 342, 3) := by decide +kernel
theorem dX10_carryOut_3 : decode cX10_carryOut 3 = .ok (.aload_n 1, 1) := by decide +kernel
theorem dX10_carryOut_4 : decode cX10_carryOut 4 = .ok (.getfield 347, 3) := by decide +kernel
theorem dX10_carryOut_7 : decode cX10_carryOut 7 = .ok (.invokevirtual 353, 3) := by decide +kernel
theorem dX10_carryOut_10 : decode cX10_carryOut 10 = .ok (.iaload, 1) := by decide +kernel
theorem dX10_carryOut_11 : decode cX10_carryOut 11 = .ok (.tableswitch 177 1 7 #[41, 65, 89, 101, 121, 145, 161], 41) := by decide +kernel
theorem dX10_carryOut_52 : decode cX10_carryOut 52 = .ok (.aload_n 0, 1) := by decide +kernel
theorem dX10_carryOut_53 : decode cX10_carryOut 53 = .ok (.aload_n 1, 1) := by decide +kernel
theorem dX10_carryOut_54 : decode cX10_carryOut 54 = .ok (.getfield 359, 3) := by decide +kernel
theorem dX10_carryOut_57 : decode cX10_carryOut 57 = .ok (.aload_n 1, 1) := by decide +kernel
theorem dX10_carryOut_58 : decode cX10_carryOut 58 = .ok (.getfield 362, 3) := by decide +kernel
theorem dX10_carryOut_61 : decode cX10_carryOut 61 = .ok (.aload_n 1, 1) := by decide +kernel
theorem dX10_carryOut_62 : decode cX10_carryOut 62 = .ok (.getfield 365, 3) := by decide +kernel
theorem dX10_carryOut_65 : decode cX10_carryOut 65 = .ok (.aload_n 1, 1) := by decide +kernel
theorem dX10_carryOut_66 : decode cX10_carryOut 66 = .ok (.getfield 368, 3) := by decide +kernel
theorem dX10_carryOut_69 : decode cX10_carryOut 69 = .ok (.invokevirtual 58, 3) := by decide +kernel
theorem dX10_carryOut_72 : decode cX10_carryOut 72 = .ok (.pop, 1) := by decide +kernel
theorem dX10_carryOut_73 : decode cX10_carryOut 73 = .ok (.goto 124, 3) := by decide +kernel
theorem dX10_carryOut_76 : decode cX10_carryOut 76 = .ok (.aload_n 0, 1) := by decide +kernel
theorem dX10_carryOut_77 : decode cX10_carryOut 77 = .ok (.aload_n 1, 1) := by decide +kernel
theorem dX10_carryOut_78 : decode cX10_carryOut 78 = .ok (.getfield 372, 3) := by decide +kernel
theorem dX10_carryOut_81 : decode cX10_carryOut 81 = .ok (.aload_n 1, 1) := by decide +kernel
theorem dX10_carryOut_82 : decode cX10_carryOut 82 = .ok (.getfield 375, 3) := by decide +kernel
theorem dX10_carryOut_85 : decode cX10_carryOut 85 = .ok (.aload_n 1, 1) := by decide +kernel
theorem dX10_carryOut_86 : decode cX10_carryOut 86 = .ok (.getfield 365, 3) := by decide +kernel
theorem dX10_carryOut_89 : decode cX10_carryOut 89 = .ok (.aload_n 1, 1) := by decide +kernel
theorem dX10_carryOut_90 : decode cX10_carryOut 90 = .ok (.getfield 368, 3) := by decide +kernel
theorem dX10_carryOut_93 : decode cX10_carryOut 93 = .ok (.invokevirtual 65, 3) := by decide +kernel
theorem dX10_carryOut_96 : decode cX10_carryOut 96 = .ok (.pop, 1) := by decide +kernel
theorem dX10_carryOut_97 : decode cX10_carryOut 97 = .ok (.goto 100, 3) := by decide +kernel
theorem dX10_carryOut_100 : decode cX10_carryOut 100 = .ok (.aload_n 0, 1) := by decide +kernel
theorem dX10_carryOut_101 : decode cX10_carryOut 101 = .ok (.aload_n 1, 1) := by decide +kernel
theorem dX10_carryOut_102 : decode cX10_carryOut 102 = .ok (.getfield 372, 3) := by decide +kernel
theorem dX10_carryOut_105 : decode cX10_carryOut 105 = .ok (.invokevirtual 68, 3) := by decide +kernel
theorem dX10_carryOut_108 : decode cX10_carryOut 108 = .ok (.pop2, 1) := by decide +kernel
theorem dX10_carryOut_109 : decode cX10_carryOut 109 = .ok (.goto 88, 3) := by decide +kernel
theorem dX10_carryOut_112 : decode cX10_carryOut 112 = .ok (.aload_n 0, 1) := by decide +kernel
theorem dX10_carryOut_113 : decode cX10_carryOut 113 = .ok (.aload_n 1, 1) := by decide +kernel
theorem dX10_carryOut_114 : decode cX10_carryOut 114 = .ok (.getfield 372, 3) := by decide +kernel
theorem dX10_carryOut_117 : decode cX10_carryOut 117 = .ok (.aload_n 1, 1) := by decide +kernel
theorem dX10_carryOut_118 : decode cX10_carryOut 118 = .ok (.getfield 359, 3) := by decide +kernel
theorem dX10_carryOut_121 : decode cX10_carryOut 121 = .ok (.aload_n 1, 1) := by decide +kernel
theorem dX10_carryOut_122 : decode cX10_carryOut 122 = .ok (.getfield 362, 3) := by decide +kernel
theorem dX10_carryOut_125 : decode cX10_carryOut 125 = .ok (.invokevirtual 72, 3) := by decide +kernel
theorem dX10_carryOut_128 : decode cX10_carryOut 128 = .ok (.pop2, 1) := by decide +kernel
theorem dX10_carryOut_129 : decode cX10_carryOut 129 = .ok (.goto 68, 3) := by decide +kernel
theorem dX10_carryOut_132 : decode cX10_carryOut 132 = .ok (.aload_n 0, 1) := by decide +kernel
theorem dX10_carryOut_133 : decode cX10_carryOut 133 = .ok (.aload_n 1, 1) := by decide +kernel
theorem dX10_carryOut_134 : decode cX10_carryOut 134 = .ok (.getfield 372, 3) := by decide +kernel
theorem dX10_carryOut_137 : decode cX10_carryOut 137 = .ok (.aload_n 1, 1) := by decide +kernel
theorem dX10_carryOut_138 : decode cX10_carryOut 138 = .ok (.getfield 375, 3) := by decide +kernel
theorem dX10_carryOut_141 : decode cX10_carryOut 141 = .ok (.aload_n 1, 1) := by decide +kernel
theorem dX10_carryOut_142 : decode cX10_carryOut 142 = .ok (.getfield 359, 3) := by decide +kernel
theorem dX10_carryOut_145 : decode cX10_carryOut 145 = .ok (.aload_n 1, 1) := by decide +kernel
theorem dX10_carryOut_146 : decode cX10_carryOut 146 = .ok (.getfield 362, 3) := by decide +kernel
theorem dX10_carryOut_149 : decode cX10_carryOut 149 = .ok (.invokevirtual 76, 3) := by decide +kernel
theorem dX10_carryOut_152 : decode cX10_carryOut 152 = .ok (.pop2, 1) := by decide +kernel
theorem dX10_carryOut_153 : decode cX10_carryOut 153 = .ok (.goto 44, 3) := by decide +kernel
theorem dX10_carryOut_156 : decode cX10_carryOut 156 = .ok (.aload_n 0, 1) := by decide +kernel
theorem dX10_carryOut_157 : decode cX10_carryOut 157 = .ok (.aload_n 1, 1) := by decide +kernel
theorem dX10_carryOut_158 : decode cX10_carryOut 158 = .ok (.getfield 372, 3) := by decide +kernel
theorem dX10_carryOut_161 : decode cX10_carryOut 161 = .ok (.aload_n 1, 1) := by decide +kernel
theorem dX10_carryOut_162 : decode cX10_carryOut 162 = .ok (.getfield 365, 3) := by decide +kernel
theorem dX10_carryOut_165 : decode cX10_carryOut 165 = .ok (.invokevirtual 80, 3) := by decide +kernel
theorem dX10_carryOut_168 : decode cX10_carryOut 168 = .ok (.pop, 1) := by decide +kernel
theorem dX10_carryOut_169 : decode cX10_carryOut 169 = .ok (.goto 28, 3) := by decide +kernel
theorem dX10_carryOut_172 : decode cX10_carryOut 172 = .ok (.aload_n 0, 1) := by decide +kernel
theorem dX10_carryOut_173 : decode cX10_carryOut 173 = .ok (.aload_n 1, 1) := by decide +kernel
theorem dX10_carryOut_174 : decode cX10_carryOut 174 = .ok (.getfield 372, 3) := by decide +kernel
theorem dX10_carryOut_177 : decode cX10_carryOut 177 = .ok (.aload_n 1, 1) := by decide +kernel
theorem dX10_carryOut_178 : decode cX10_carryOut 178 = .ok (.getfield 368, 3) := by decide +kernel
theorem dX10_carryOut_181 : decode cX10_carryOut 181 = .ok (.invokevirtual 84, 3) := by decide +kernel
theorem dX10_carryOut_184 : decode cX10_carryOut 184 = .ok (.pop, 1) := by decide +kernel
theorem dX10_carryOut_185 : decode cX10_carryOut 185 = .ok (.goto 12, 3) := by decide +kernel
theorem dX10_carryOut_188 : decode cX10_carryOut 188 = .ok (.aload_n 0, 1) := by decide +kernel
theorem dX10_carryOut_189 : decode cX10_carryOut 189 = .ok (.aload_n 1, 1) := by decide +kernel
theorem dX10_carryOut_190 : decode cX10_carryOut 190 = .ok (.getfield 365, 3) := by decide +kernel
theorem dX10_carryOut_193 : decode cX10_carryOut 193 = .ok (.invokevirtual 88, 3) := by decide +kernel
theorem dX10_carryOut_196 : decode cX10_carryOut 196 = .ok (.pop, 1) := by decide +kernel
theorem dX10_carryOut_197 : decode cX10_carryOut 197 = .ok (.return_, 1) := by decide +kernel
theorem dX10_errorPosition_0 : decode cX10_errorPosition 0 = .ok (.aload_n 0, 1) := by decide +kernel
theorem dX10_errorPosition_1 : decode cX10_errorPosition 1 = .ok (.getfield 40, 3) := by decide +kernel
theorem dX10_errorPosition_4 : decode cX10_errorPosition 4 = .ok (.iconst (-1), 1) := by decide +kernel
theorem dX10_errorPosition_5 : decode cX10_errorPosition 5 = .ok (.if_icmp .ne 14, 3) := by decide +kernel
theorem dX10_errorPosition_8 : decode cX10_errorPosition 8 = .ok (.new 340, 3) := by decide +kernel
theorem dX10_errorPosition_11 : decode cX10_errorPosition 11 = .ok (.dup, 1) := by decide +kernel
theorem dX10_errorPosition_12 : decode cX10_errorPosition 12 = .ok (.ldc_w 378, 3) := by decide +kernel
theorem dX10_errorPosition_15 : decode cX10_errorPosition 15 = .ok (.invokespecial 380, 3) := by decide +kernel
theorem dX10_errorPosition_18 : decode cX10_errorPosition 18 = .ok (.athrow, 1) := by decide +kernel
theorem dX10_errorPosition_19 : decode cX10_errorPosition 19 = .ok (.aload_n 0, 1) := by decide +kernel
theorem dX10_errorPosition_20 : decode cX10_errorPosition 20 = .ok (.getfield 40, 3) := by decide +kernel
theorem dX10_errorPosition_23 : decode cX10_errorPosition 23 = .ok (.ireturn, 1) := by decide +kernel
theorem dX10_failedCommand_0 : decode cX10_failedCommand 0 = .ok (.aload_n 0, 1) := by decide +kernel
theorem dX10_failedCommand_1 : decode cX10_failedCommand 1 = .ok (.getfield 44, 3) := by decide +kernel
theorem dX10_failedCommand_4 : decode cX10_failedCommand 4 = .ok (.iconst (-1), 1) := by decide +kernel
theorem dX10_failedCommand_5 : decode cX10_failedCommand 5 = .ok (.if_icmp .ne 14, 3) := by decide +kernel
theorem dX10_failedCommand_8 : decode cX10_failedCommand 8 = .ok (.new 340, 3) := by decide +kernel
theorem dX10_failedCommand_11 : decode cX10_failedCommand 11 = .ok (.dup, 1) := by decide +kernel
theorem dX10_failedCommand_12 : decode cX10_failedCommand 12 = .ok (.ldc_w 381, 3) := by decide +kernel
theorem dX10_failedCommand_15 : decode cX10_failedCommand 15 = .ok (.invokespecial 380, 3) := by decide +kernel
theorem dX10_failedCommand_18 : decode cX10_failedCommand 18 = .ok (.athrow, 1) := by decide +kernel
theorem dX10_failedCommand_19 : decode cX10_failedCommand 19 = .ok (.aload_n 0, 1) := by decide +kernel
theorem dX10_failedCommand_20 : decode cX10_failedCommand 20 = .ok (.getfield 44, 3) := by decide +kernel
theorem dX10_failedCommand_23 : decode cX10_failedCommand 23 = .ok (.ireturn, 1) := by decide +kernel
theorem dX10_writeNumber_0 : decode cX10_writeNumber 0 = .ok (.aload_n 0, 1) := by decide +kernel
theorem dX10_writeNumber_1 : decode cX10_writeNumber 1 = .ok (.iload_n 1, 1) := by decide +kernel
theorem dX10_writeNumber_2 : decode cX10_writeNumber 2 = .ok (.invokevirtual 134, 3) := by decide +kernel
theorem dX10_writeNumber_5 : decode cX10_writeNumber 5 = .ok (.istore_n 2, 1) := by decide +kernel
theorem dX10_writeNumber_6 : decode cX10_writeNumber 6 = .ok (.aload_n 0, 1) := by decide +kernel
theorem dX10_writeNumber_7 : decode cX10_writeNumber 7 = .ok (.getfield 10, 3) := by decide +kernel
theorem dX10_writeNumber_10 : decode cX10_writeNumber 10 = .ok (.getfield 144, 3) := by decide +kernel
theorem dX10_writeNumber_13 : decode cX10_writeNumber 13 = .ok (.iload_n 2, 1) := by decide +kernel
theorem dX10_writeNumber_14 : decode cX10_writeNumber 14 = .ok (.laload, 1) := by decide +kernel
theorem dX10_writeNumber_15 : decode cX10_writeNumber 15 = .ok (.lstore_n 3, 1) := by decide +kernel
theorem dX10_writeNumber_16 : decode cX10_writeNumber 16 = .ok (.aload_n 0, 1) := by decide +kernel
theorem dX10_writeNumber_17 : decode cX10_writeNumber 17 = .ok (.getfield 50, 3) := by decide +kernel
theorem dX10_writeNumber_20 : decode cX10_writeNumber 20 = .ok (.iconst 0, 1) := by decide +kernel
theorem dX10_writeNumber_21 : decode cX10_writeNumber 21 = .ok (.putfield 383, 3) := by decide +kernel
theorem dX10_writeNumber_24 : decode cX10_writeNumber 24 = .ok (.aload_n 0, 1) := by decide +kernel
theorem dX10_writeNumber_25 : decode cX10_writeNumber 25 = .ok (.getfield 50, 3) := by decide +kernel
theorem dX10_writeNumber_28 : decode cX10_writeNumber 28 = .ok (.iload_n 1, 1) := by decide +kernel
theorem dX10_writeNumber_29 : decode cX10_writeNumber 29 = .ok (.i2l, 1) := by decide +kernel
theorem dX10_writeNumber_30 : decode cX10_writeNumber 30 = .ok (.invokevirtual 384, 3) := by decide +kernel
theorem dX10_writeNumber_33 : decode cX10_writeNumber 33 = .ok (.aload_n 0, 1) := by decide +kernel
theorem dX10_writeNumber_34 : decode cX10_writeNumber 34 = .ok (.getfield 50, 3) := by decide +kernel
theorem dX10_writeNumber_37 : decode cX10_writeNumber 37 = .ok (.bipush 58, 2) := by decide +kernel
theorem dX10_writeNumber_39 : decode cX10_writeNumber 39 = .ok (.invokevirtual 388, 3) := by decide +kernel
theorem dX10_writeNumber_42 : decode cX10_writeNumber 42 = .ok (.aload_n 0, 1) := by decide +kernel
theorem dX10_writeNumber_43 : decode cX10_writeNumber 43 = .ok (.getfield 50, 3) := by decide +kernel
theorem dX10_writeNumber_46 : decode cX10_writeNumber 46 = .ok (.lload_n 3, 1) := by decide +kernel
theorem dX10_writeNumber_47 : decode cX10_writeNumber 47 = .ok (.ldc2_w 389, 3) := by decide +kernel
theorem dX10_writeNumber_50 : decode cX10_writeNumber 50 = .ok (.ldiv, 1) := by decide +kernel
theorem dX10_writeNumber_51 : decode cX10_writeNumber 51 = .ok (.invokevirtual 384, 3) := by decide +kernel
theorem dX10_writeNumber_54 : decode cX10_writeNumber 54 = .ok (.aload_n 0, 1) := by decide +kernel
theorem dX10_writeNumber_55 : decode cX10_writeNumber 55 = .ok (.getfield 10, 3) := by decide +kernel
theorem dX10_writeNumber_58 : decode cX10_writeNumber 58 = .ok (.getfield 162, 3) := by decide +kernel
theorem dX10_writeNumber_61 : decode cX10_writeNumber 61 = .ok (.iload_n 2, 1) := by decide +kernel
theorem dX10_writeNumber_62 : decode cX10_writeNumber 62 = .ok (.iaload, 1) := by decide +kernel
theorem dX10_writeNumber_63 : decode cX10_writeNumber 63 = .ok (.ifCond .le 12, 3) := by decide +kernel
theorem dX10_writeNumber_66 : decode cX10_writeNumber 66 = .ok (.aload_n 0, 1) := by decide +kernel
theorem dX10_writeNumber_67 : decode cX10_writeNumber 67 = .ok (.getfield 50, 3) := by decide +kernel
theorem dX10_writeNumber_70 : decode cX10_writeNumber 70 = .ok (.bipush 46, 2) := by decide +kernel
theorem dX10_writeNumber_72 : decode cX10_writeNumber 72 = .ok (.invokevirtual 388, 3) := by decide +kernel
theorem dX10_writeNumber_75 : decode cX10_writeNumber 75 = .ok (.iconst 1, 1) := by decide +kernel
theorem dX10_writeNumber_76 : decode cX10_writeNumber 76 = .ok (.istore 5, 2) := by decide +kernel
theorem dX10_writeNumber_78 : decode cX10_writeNumber 78 = .ok (.iload 5, 2) := by decide +kernel
theorem dX10_writeNumber_80 : decode cX10_writeNumber 80 = .ok (.aload_n 0, 1) := by decide +kernel
theorem dX10_writeNumber_81 : decode cX10_writeNumber 81 = .ok (.getfield 10, 3) := by decide +kernel
theorem dX10_writeNumber_84 : decode cX10_writeNumber 84 = .ok (.getfield 162, 3) := by decide +kernel
theorem dX10_writeNumber_87 : decode cX10_writeNumber 87 = .ok (.iload_n 2, 1) := by decide +kernel
theorem dX10_writeNumber_88 : decode cX10_writeNumber 88 = .ok (.iaload, 1) := by decide +kernel
theorem dX10_writeNumber_89 : decode cX10_writeNumber 89 = .ok (.if_icmp .gt 24, 3) := by decide +kernel
theorem dX10_writeNumber_92 : decode cX10_writeNumber 92 = .ok (.aload_n 0, 1) := by decide +kernel
theorem dX10_writeNumber_93 : decode cX10_writeNumber 93 = .ok (.getfield 50, 3) := by decide +kernel
theorem dX10_writeNumber_96 : decode cX10_writeNumber 96 = .ok (.lload_n 3, 1) := by decide +kernel
theorem dX10_writeNumber_97 : decode cX10_writeNumber 97 = .ok (.iconst 4, 1) := by decide +kernel
theorem dX10_writeNumber_98 : decode cX10_writeNumber 98 = .ok (.iload 5, 2) := by decide +kernel
theorem dX10_writeNumber_100 : decode cX10_writeNumber 100 = .ok (.isub, 1) := by decide +kernel
theorem dX10_writeNumber_101 : decode cX10_writeNumber 101 = .ok (.invokestatic 209, 3) := by decide +kernel
theorem dX10_writeNumber_104 : decode cX10_writeNumber 104 = .ok (.invokevirtual 391, 3) := by decide +kernel
theorem dX10_writeNumber_107 : decode cX10_writeNumber 107 = .ok (.iinc 5 1, 3) := by decide +kernel
theorem dX10_writeNumber_110 : decode cX10_writeNumber 110 = .ok (.goto (-32), 3) := by decide +kernel
theorem dX10_writeNumber_113 : decode cX10_writeNumber 113 = .ok (.aload_n 0, 1) := by decide +kernel
theorem dX10_writeNumber_114 : decode cX10_writeNumber 114 = .ok (.getfield 50, 3) := by decide +kernel
theorem dX10_writeNumber_117 : decode cX10_writeNumber 117 = .ok (.aload_n 0, 1) := by decide +kernel
theorem dX10_writeNumber_118 : decode cX10_writeNumber 118 = .ok (.getfield 10, 3) := by decide +kernel
theorem dX10_writeNumber_121 : decode cX10_writeNumber 121 = .ok (.getfield 168, 3) := by decide +kernel
theorem dX10_writeNumber_124 : decode cX10_writeNumber 124 = .ok (.iload_n 2, 1) := by decide +kernel
theorem dX10_writeNumber_125 : decode cX10_writeNumber 125 = .ok (.caload, 1) := by decide +kernel
theorem dX10_writeNumber_126 : decode cX10_writeNumber 126 = .ok (.invokevirtual 388, 3) := by decide +kernel
theorem dX10_writeNumber_129 : decode cX10_writeNumber 129 = .ok (.aload_n 0, 1) := by decide +kernel
theorem dX10_writeNumber_130 : decode cX10_writeNumber 130 = .ok (.getfield 50, 3) := by decide +kernel
theorem dX10_writeNumber_133 : decode cX10_writeNumber 133 = .ok (.getfield 383, 3) := by decide +kernel
theorem dX10_writeNumber_136 : decode cX10_writeNumber 136 = .ok (.ireturn, 1) := by decide +kernel
theorem dX10_writeQuotient_0 : decode cX10_writeQuotient 0 = .ok (.iload_n 1, 1) := by decide +kernel
theorem dX10_writeQuotient_1 : decode cX10_writeQuotient 1 = .ok (.iload_n 2, 1) := by decide +kernel
theorem dX10_writeQuotient_2 : decode cX10_writeQuotient 2 = .ok (.invokestatic 127, 3) := by decide +kernel
theorem dX10_writeQuotient_5 : decode cX10_writeQuotient 5 = .ok (.aload_n 0, 1) := by decide +kernel
theorem dX10_writeQuotient_6 : decode cX10_writeQuotient 6 = .ok (.getfield 29, 3) := by decide +kernel
theorem dX10_writeQuotient_9 : decode cX10_writeQuotient 9 = .ok (.iload_n 1, 1) := by decide +kernel
theorem dX10_writeQuotient_10 : decode cX10_writeQuotient 10 = .ok (.iload_n 2, 1) := by decide +kernel
theorem dX10_writeQuotient_11 : decode cX10_writeQuotient 11 = .ok (.invokevirtual 254, 3) := by decide +kernel
theorem dX10_writeQuotient_14 : decode cX10_writeQuotient 14 = .ok (.aload_n 0, 1) := by decide +kernel
theorem dX10_writeQuotient_15 : decode cX10_writeQuotient 15 = .ok (.getfield 50, 3) := by decide +kernel
theorem dX10_writeQuotient_18 : decode cX10_writeQuotient 18 = .ok (.iconst 0, 1) := by decide +kernel
theorem dX10_writeQuotient_19 : decode cX10_writeQuotient 19 = .ok (.putfield 383, 3) := by decide +kernel
theorem dX10_writeQuotient_22 : decode cX10_writeQuotient 22 = .ok (.aload_n 0, 1) := by decide +kernel
theorem dX10_writeQuotient_23 : decode cX10_writeQuotient 23 = .ok (.getfield 50, 3) := by decide +kernel
theorem dX10_writeQuotient_26 : decode cX10_writeQuotient 26 = .ok (.iload_n 1, 1) := by decide +kernel
theorem dX10_writeQuotient_27 : decode cX10_writeQuotient 27 = .ok (.iload_n 2, 1) := by decide +kernel
theorem dX10_writeQuotient_28 : decode cX10_writeQuotient 28 = .ok (.idiv, 1) := by decide +kernel
theorem dX10_writeQuotient_29 : decode cX10_writeQuotient 29 = .ok (.i2l, 1) := by decide +kernel
theorem dX10_writeQuotient_30 : decode cX10_writeQuotient 30 = .ok (.invokevirtual 384, 3) := by decide +kernel
theorem dX10_writeQuotient_33 : decode cX10_writeQuotient 33 = .ok (.aload_n 0, 1) := by decide +kernel
theorem dX10_writeQuotient_34 : decode cX10_writeQuotient 34 = .ok (.getfield 50, 3) := by decide +kernel
theorem dX10_writeQuotient_37 : decode cX10_writeQuotient 37 = .ok (.bipush 46, 2) := by decide +kernel
theorem dX10_writeQuotient_39 : decode cX10_writeQuotient 39 = .ok (.invokevirtual 388, 3) := by decide +kernel
theorem dX10_writeQuotient_42 : decode cX10_writeQuotient 42 = .ok (.aload_n 0, 1) := by decide +kernel
theorem dX10_writeQuotient_43 : decode cX10_writeQuotient 43 = .ok (.getfield 50, 3) := by decide +kernel
theorem dX10_writeQuotient_46 : decode cX10_writeQuotient 46 = .ok (.iload_n 1, 1) := by decide +kernel
theorem dX10_writeQuotient_47 : decode cX10_writeQuotient 47 = .ok (.iload_n 2, 1) := by decide +kernel
theorem dX10_writeQuotient_48 : decode cX10_writeQuotient 48 = .ok (.irem, 1) := by decide +kernel
theorem dX10_writeQuotient_49 : decode cX10_writeQuotient 49 = .ok (.iload_n 2, 1) := by decide +kernel
theorem dX10_writeQuotient_50 : decode cX10_writeQuotient 50 = .ok (.aload_n 0, 1) := by decide +kernel
theorem dX10_writeQuotient_51 : decode cX10_writeQuotient 51 = .ok (.getfield 29, 3) := by decide +kernel
theorem dX10_writeQuotient_54 : decode cX10_writeQuotient 54 = .ok (.getfield 257, 3) := by decide +kernel
theorem dX10_writeQuotient_57 : decode cX10_writeQuotient 57 = .ok (.invokevirtual 394, 3) := by decide +kernel
theorem dX10_writeQuotient_60 : decode cX10_writeQuotient 60 = .ok (.istore_n 3, 1) := by decide +kernel
theorem dX10_writeQuotient_61 : decode cX10_writeQuotient 61 = .ok (.aload_n 0, 1) := by decide +kernel
theorem dX10_writeQuotient_62 : decode cX10_writeQuotient 62 = .ok (.getfield 50, 3) := by decide +kernel
theorem dX10_writeQuotient_65 : decode cX10_writeQuotient 65 = .ok (.bipush 40, 2) := by decide +kernel
theorem dX10_writeQuotient_67 : decode cX10_writeQuotient 67 = .ok (.invokevirtual 388, 3) := by decide +kernel
theorem dX10_writeQuotient_70 : decode cX10_writeQuotient 70 = .ok (.aload_n 0, 1) := by decide +kernel
theorem dX10_writeQuotient_71 : decode cX10_writeQuotient 71 = .ok (.getfield 50, 3) := by decide +kernel
theorem dX10_writeQuotient_74 : decode cX10_writeQuotient 74 = .ok (.iload_n 3, 1) := by decide +kernel
theorem dX10_writeQuotient_75 : decode cX10_writeQuotient 75 = .ok (.iload_n 2, 1) := by decide +kernel
theorem dX10_writeQuotient_76 : decode cX10_writeQuotient 76 = .ok (.aload_n 0, 1) := by decide +kernel
theorem dX10_writeQuotient_77 : decode cX10_writeQuotient 77 = .ok (.getfield 29, 3) := by decide +kernel
theorem dX10_writeQuotient_80 : decode cX10_writeQuotient 80 = .ok (.getfield 260, 3) := by decide +kernel
theorem dX10_writeQuotient_83 : decode cX10_writeQuotient 83 = .ok (.bipush 20, 2) := by decide +kernel
theorem dX10_writeQuotient_85 : decode cX10_writeQuotient 85 = .ok (.invokestatic 189, 3) := by decide +kernel
theorem dX10_writeQuotient_88 : decode cX10_writeQuotient 88 = .ok (.invokevirtual 394, 3) := by decide +kernel
theorem dX10_writeQuotient_91 : decode cX10_writeQuotient 91 = .ok (.pop, 1) := by decide +kernel
theorem dX10_writeQuotient_92 : decode cX10_writeQuotient 92 = .ok (.aload_n 0, 1) := by decide +kernel
theorem dX10_writeQuotient_93 : decode cX10_writeQuotient 93 = .ok (.getfield 50, 3) := by decide +kernel
theorem dX10_writeQuotient_96 : decode cX10_writeQuotient 96 = .ok (.bipush 41, 2) := by decide +kernel
theorem dX10_writeQuotient_98 : decode cX10_writeQuotient 98 = .ok (.invokevirtual 388, 3) := by decide +kernel
theorem dX10_writeQuotient_101 : decode cX10_writeQuotient 101 = .ok (.aload_n 0, 1) := by decide +kernel
theorem dX10_writeQuotient_102 : decode cX10_writeQuotient 102 = .ok (.getfield 50, 3) := by decide +kernel
theorem dX10_writeQuotient_105 : decode cX10_writeQuotient 105 = .ok (.getfield 383, 3) := by decide +kernel
theorem dX10_writeQuotient_108 : decode cX10_writeQuotient 108 = .ok (.ireturn, 1) := by decide +kernel
theorem dX10_outputAt_0 : decode cX10_outputAt 0 = .ok (.iload_n 1, 1) := by decide +kernel
theorem dX10_outputAt_1 : decode cX10_outputAt 1 = .ok (.ifCond .lt 14, 3) := by decide +kernel
theorem dX10_outputAt_4 : decode cX10_outputAt 4 = .ok (.iload_n 1, 1) := by decide +kernel
theorem dX10_outputAt_5 : decode cX10_outputAt 5 = .ok (.aload_n 0, 1) := by decide +kernel
theorem dX10_outputAt_6 : decode cX10_outputAt 6 = .ok (.getfield 50, 3) := by decide +kernel
theorem dX10_outputAt_9 : decode cX10_outputAt 9 = .ok (.getfield 383, 3) := by decide +kernel
theorem dX10_outputAt_12 : decode cX10_outputAt 12 = .ok (.if_icmp .lt 14, 3) := by decide +kernel
theorem dX10_outputAt_15 : decode cX10_outputAt 15 = .ok (.new 199, 3) := by decide +kernel
theorem dX10_outputAt_18 : decode cX10_outputAt 18 = .ok (.dup, 1) := by decide +kernel
theorem dX10_outputAt_19 : decode cX10_outputAt 19 = .ok (.ldc_w 398, 3) := by decide +kernel
theorem dX10_outputAt_22 : decode cX10_outputAt 22 = .ok (.invokespecial 203, 3) := by decide +kernel
theorem dX10_outputAt_25 : decode cX10_outputAt 25 = .ok (.athrow, 1) := by decide +kernel
theorem dX10_outputAt_26 : decode cX10_outputAt 26 = .ok (.aload_n 0, 1) := by decide +kernel
theorem dX10_outputAt_27 : decode cX10_outputAt 27 = .ok (.getfield 50, 3) := by decide +kernel
theorem dX10_outputAt_30 : decode cX10_outputAt 30 = .ok (.getfield 400, 3) := by decide +kernel
theorem dX10_outputAt_33 : decode cX10_outputAt 33 = .ok (.iload_n 1, 1) := by decide +kernel
theorem dX10_outputAt_34 : decode cX10_outputAt 34 = .ok (.caload, 1) := by decide +kernel
theorem dX10_outputAt_35 : decode cX10_outputAt 35 = .ok (.ireturn, 1) := by decide +kernel
theorem dX10_undo_0 : decode cX10_undo 0 = .ok (.aload_n 0, 1) := by decide +kernel
theorem dX10_undo_1 : decode cX10_undo 1 = .ok (.getfield 22, 3) := by decide +kernel
theorem dX10_undo_4 : decode cX10_undo 4 = .ok (.getfield 403, 3) := by decide +kernel
theorem dX10_undo_7 : decode cX10_undo 7 = .ok (.ifCond .ne 14, 3) := by decide +kernel
theorem dX10_undo_10 : decode cX10_undo 10 = .ok (.new 157, 3) := by decide +kernel
theorem dX10_undo_13 : decode cX10_undo 13 = .ok (.dup, 1) := by decide +kernel
theorem dX10_undo_14 : decode cX10_undo 14 = .ok (.ldc_w 406, 3) := by decide +kernel
theorem dX10_undo_17 : decode cX10_undo 17 = .ok (.invokespecial 161, 3) := by decide +kernel
theorem dX10_undo_20 : decode cX10_undo 20 = .ok (.athrow, 1) := by decide +kernel
theorem dX10_undo_21 : decode cX10_undo 21 = .ok (.aload_n 0, 1) := by decide +kernel
theorem dX10_undo_22 : decode cX10_undo 22 = .ok (.getfield 22, 3) := by decide +kernel
theorem dX10_undo_25 : decode cX10_undo 25 = .ok (.aload_n 0, 1) := by decide +kernel
theorem dX10_undo_26 : decode cX10_undo 26 = .ok (.getfield 10, 3) := by decide +kernel
theorem dX10_undo_29 : decode cX10_undo 29 = .ok (.invokevirtual 408, 3) := by decide +kernel
theorem dX10_undo_32 : decode cX10_undo 32 = .ok (.aload_n 0, 1) := by decide +kernel
theorem dX10_undo_33 : decode cX10_undo 33 = .ok (.getfield 22, 3) := by decide +kernel
theorem dX10_undo_36 : decode cX10_undo 36 = .ok (.getfield 403, 3) := by decide +kernel
theorem dX10_undo_39 : decode cX10_undo 39 = .ok (.ireturn, 1) := by decide +kernel
theorem dX10_save_0 : decode cX10_save 0 = .ok (.aload_n 0, 1) := by decide +kernel
theorem dX10_save_1 : decode cX10_save 1 = .ok (.getfield 16, 3) := by decide +kernel
theorem dX10_save_4 : decode cX10_save 4 = .ok (.aload_n 0, 1) := by decide +kernel
theorem dX10_save_5 : decode cX10_save 5 = .ok (.getfield 10, 3) := by decide +kernel
theorem dX10_save_8 : decode cX10_save 8 = .ok (.invokevirtual 411, 3) := by decide +kernel
theorem dX10_save_11 : decode cX10_save 11 = .ok (.aload_n 0, 1) := by decide +kernel
theorem dX10_save_12 : decode cX10_save 12 = .ok (.iconst 1, 1) := by decide +kernel
theorem dX10_save_13 : decode cX10_save 13 = .ok (.putfield 414, 3) := by decide +kernel
theorem dX10_save_16 : decode cX10_save 16 = .ok (.return_, 1) := by decide +kernel
theorem dX10_restore_0 : decode cX10_restore 0 = .ok (.aload_n 0, 1) := by decide +kernel
theorem dX10_restore_1 : decode cX10_restore 1 = .ok (.getfield 414, 3) := by decide +kernel
theorem dX10_restore_4 : decode cX10_restore 4 = .ok (.ifCond .ne 14, 3) := by decide +kernel
theorem dX10_restore_7 : decode cX10_restore 7 = .ok (.new 157, 3) := by decide +kernel
theorem dX10_restore_10 : decode cX10_restore 10 = .ok (.dup, 1) := by decide +kernel
theorem dX10_restore_11 : decode cX10_restore 11 = .ok (.ldc_w 418, 3) := by decide +kernel
theorem dX10_restore_14 : decode cX10_restore 14 = .ok (.invokespecial 161, 3) := by decide +kernel
theorem dX10_restore_17 : decode cX10_restore 17 = .ok (.athrow, 1) := by decide +kernel
theorem dX10_restore_18 : decode cX10_restore 18 = .ok (.aload_n 0, 1) := by decide +kernel
theorem dX10_restore_19 : decode cX10_restore 19 = .ok (.getfield 10, 3) := by decide +kernel
theorem dX10_restore_22 : decode cX10_restore 22 = .ok (.aload_n 0, 1) := by decide +kernel
theorem dX10_restore_23 : decode cX10_restore 23 = .ok (.getfield 16, 3) := by decide +kernel
theorem dX10_restore_26 : decode cX10_restore 26 = .ok (.invokevirtual 411, 3) := by decide +kernel
theorem dX10_restore_29 : decode cX10_restore 29 = .ok (.aload_n 0, 1) := by decide +kernel
theorem dX10_restore_30 : decode cX10_restore 30 = .ok (.getfield 22, 3) := by decide +kernel
theorem dX10_restore_33 : decode cX10_restore 33 = .ok (.iconst 0, 1) := by decide +kernel
theorem dX10_restore_34 : decode cX10_restore 34 = .ok (.putfield 403, 3) := by decide +kernel
theorem dX10_restore_37 : decode cX10_restore 37 = .ok (.return_, 1) := by decide +kernel
theorem dX10_requirePosition_0 : decode cX10_requirePosition 0 = .ok (.iconst 0, 1) := by decide +kernel
theorem dX10_requirePosition_1 : decode cX10_requirePosition 1 = .ok (.istore_n 2, 1) := by decide +kernel
theorem dX10_requirePosition_2 : decode cX10_requirePosition 2 = .ok (.iload_n 2, 1) := by decide +kernel
theorem dX10_requirePosition_3 : decode cX10_requirePosition 3 = .ok (.aload_n 0, 1) := by decide +kernel
theorem dX10_requirePosition_4 : decode cX10_requirePosition 4 = .ok (.getfield 10, 3) := by decide +kernel
theorem dX10_requirePosition_7 : decode cX10_requirePosition 7 = .ok (.getfield 178, 3) := by decide +kernel
theorem dX10_requirePosition_10 : decode cX10_requirePosition 10 = .ok (.if_icmp .ge 24, 3) := by decide +kernel
theorem dX10_requirePosition_13 : decode cX10_requirePosition 13 = .ok (.aload_n 0, 1) := by decide +kernel
theorem dX10_requirePosition_14 : decode cX10_requirePosition 14 = .ok (.getfield 10, 3) := by decide +kernel
theorem dX10_requirePosition_17 : decode cX10_requirePosition 17 = .ok (.getfield 204, 3) := by decide +kernel
theorem dX10_requirePosition_20 : decode cX10_requirePosition 20 = .ok (.iload_n 2, 1) := by decide +kernel
theorem dX10_requirePosition_21 : decode cX10_requirePosition 21 = .ok (.iaload, 1) := by decide +kernel
theorem dX10_requirePosition_22 : decode cX10_requirePosition 22 = .ok (.iload_n 1, 1) := by decide +kernel
theorem dX10_requirePosition_23 : decode cX10_requirePosition 23 = .ok (.if_icmp .ne 5, 3) := by decide +kernel
theorem dX10_requirePosition_26 : decode cX10_requirePosition 26 = .ok (.iload_n 2, 1) := by decide +kernel
theorem dX10_requirePosition_27 : decode cX10_requirePosition 27 = .ok (.ireturn, 1) := by decide +kernel
theorem dX10_requirePosition_28 : decode cX10_requirePosition 28 = .ok (.iinc 2 1, 3) := by decide +kernel
theorem dX10_requirePosition_31 : decode cX10_requirePosition 31 = .ok (.goto (-29), 3) := by decide +kernel
theorem dX10_requirePosition_34 : decode cX10_requirePosition 34 = .ok (.new 340, 3) := by decide +kernel
theorem dX10_requirePosition_37 : decode cX10_requirePosition 37 = .ok (.dup, 1) := by decide +kernel
theorem dX10_requirePosition_38 : decode cX10_requirePosition 38 = .ok (.ldc_w 420, 3) := by decide +kernel
theorem dX10_requirePosition_41 : decode cX10_requirePosition 41 = .ok (.invokespecial 380, 3) := by decide +kernel
theorem dX10_requirePosition_44 : decode cX10_requirePosition 44 = .ok (.athrow, 1) := by decide +kernel
theorem dX10_requireRoom_0 : decode cX10_requireRoom 0 = .ok (.aload_n 0, 1) := by decide +kernel
theorem dX10_requireRoom_1 : decode cX10_requireRoom 1 = .ok (.getfield 10, 3) := by decide +kernel
theorem dX10_requireRoom_4 : decode cX10_requireRoom 4 = .ok (.getfield 178, 3) := by decide +kernel
theorem dX10_requireRoom_7 : decode cX10_requireRoom 7 = .ok (.bipush 6, 2) := by decide +kernel
theorem dX10_requireRoom_9 : decode cX10_requireRoom 9 = .ok (.if_icmp .lt 14, 3) := by decide +kernel
theorem dX10_requireRoom_12 : decode cX10_requireRoom 12 = .ok (.new 157, 3) := by decide +kernel
theorem dX10_requireRoom_15 : decode cX10_requireRoom 15 = .ok (.dup, 1) := by decide +kernel
theorem dX10_requireRoom_16 : decode cX10_requireRoom 16 = .ok (.ldc_w 422, 3) := by decide +kernel
theorem dX10_requireRoom_19 : decode cX10_requireRoom 19 = .ok (.invokespecial 161, 3) := by decide +kernel
theorem dX10_requireRoom_22 : decode cX10_requireRoom 22 = .ok (.athrow, 1) := by decide +kernel
theorem dX10_requireRoom_23 : decode cX10_requireRoom 23 = .ok (.return_, 1) := by decide +kernel
theorem dX10_requireAmount_0 : decode cX10_requireAmount 0 = .ok (.iload_n 0, 1) := by decide +kernel
theorem dX10_requireAmount_1 : decode cX10_requireAmount 1 = .ok (.ifCond .lt 21, 3) := by decide +kernel
theorem dX10_requireAmount_4 : decode cX10_requireAmount 4 = .ok (.iload_n 0, 1) := by decide +kernel
theorem dX10_requireAmount_5 : decode cX10_requireAmount 5 = .ok (.ldc_w 424, 3) := by decide +kernel
theorem dX10_requireAmount_8 : decode cX10_requireAmount 8 = .ok (.if_icmp .gt 14, 3) := by decide +kernel
theorem dX10_requireAmount_11 : decode cX10_requireAmount 11 = .ok (.iload_n 1, 1) := by decide +kernel
theorem dX10_requireAmount_12 : decode cX10_requireAmount 12 = .ok (.ifCond .lt 10, 3) := by decide +kernel
theorem dX10_requireAmount_15 : decode cX10_requireAmount 15 = .ok (.iload_n 1, 1) := by decide +kernel
theorem dX10_requireAmount_16 : decode cX10_requireAmount 16 = .ok (.sipush 9999, 3) := by decide +kernel
theorem dX10_requireAmount_19 : decode cX10_requireAmount 19 = .ok (.if_icmp .le 14, 3) := by decide +kernel
theorem dX10_requireAmount_22 : decode cX10_requireAmount 22 = .ok (.new 152, 3) := by decide +kernel
theorem dX10_requireAmount_25 : decode cX10_requireAmount 25 = .ok (.dup, 1) := by decide +kernel
theorem dX10_requireAmount_26 : decode cX10_requireAmount 26 = .ok (.ldc_w 425, 3) := by decide +kernel
theorem dX10_requireAmount_29 : decode cX10_requireAmount 29 = .ok (.invokespecial 156, 3) := by decide +kernel
theorem dX10_requireAmount_32 : decode cX10_requireAmount 32 = .ok (.athrow, 1) := by decide +kernel
theorem dX10_requireAmount_33 : decode cX10_requireAmount 33 = .ok (.return_, 1) := by decide +kernel
theorem dX10_requireScale_0 : decode cX10_requireScale 0 = .ok (.iload_n 0, 1) := by decide +kernel
theorem dX10_requireScale_1 : decode cX10_requireScale 1 = .ok (.ifCond .lt 8, 3) := by decide +kernel
theorem dX10_requireScale_4 : decode cX10_requireScale 4 = .ok (.iload_n 0, 1) := by decide +kernel
theorem dX10_requireScale_5 : decode cX10_requireScale 5 = .ok (.iconst 4, 1) := by decide +kernel
theorem dX10_requireScale_6 : decode cX10_requireScale 6 = .ok (.if_icmp .le 14, 3) := by decide +kernel
theorem dX10_requireScale_9 : decode cX10_requireScale 9 = .ok (.new 152, 3) := by decide +kernel
theorem dX10_requireScale_12 : decode cX10_requireScale 12 = .ok (.dup, 1) := by decide +kernel
theorem dX10_requireScale_13 : decode cX10_requireScale 13 = .ok (.ldc_w 427, 3) := by decide +kernel
theorem dX10_requireScale_16 : decode cX10_requireScale 16 = .ok (.invokespecial 156, 3) := by decide +kernel
theorem dX10_requireScale_19 : decode cX10_requireScale 19 = .ok (.athrow, 1) := by decide +kernel
theorem dX10_requireScale_20 : decode cX10_requireScale 20 = .ok (.return_, 1) := by decide +kernel
theorem dX10_requireMode_0 : decode cX10_requireMode 0 = .ok (.ldc_w 429, 3) := by decide +kernel
theorem dX10_requireMode_3 : decode cX10_requireMode 3 = .ok (.iload_n 0, 1) := by decide +kernel
theorem dX10_requireMode_4 : decode cX10_requireMode 4 = .ok (.invokevirtual 431, 3) := by decide +kernel
theorem dX10_requireMode_7 : decode cX10_requireMode 7 = .ok (.ifCond .ge 14, 3) := by decide +kernel
theorem dX10_requireMode_10 : decode cX10_requireMode 10 = .ok (.new 152, 3) := by decide +kernel
theorem dX10_requireMode_13 : decode cX10_requireMode 13 = .ok (.dup, 1) := by decide +kernel
theorem dX10_requireMode_14 : decode cX10_requireMode 14 = .ok (.ldc_w 436, 3) := by decide +kernel
theorem dX10_requireMode_17 : decode cX10_requireMode 17 = .ok (.invokespecial 156, 3) := by decide +kernel
theorem dX10_requireMode_20 : decode cX10_requireMode 20 = .ok (.athrow, 1) := by decide +kernel
theorem dX10_requireMode_21 : decode cX10_requireMode 21 = .ok (.return_, 1) := by decide +kernel
theorem dX10_requireQuotient_0 : decode cX10_requireQuotient 0 = .ok (.iload_n 0, 1) := by decide +kernel
theorem dX10_requireQuotient_1 : decode cX10_requireQuotient 1 = .ok (.ifCond .lt 22, 3) := by decide +kernel
theorem dX10_requireQuotient_4 : decode cX10_requireQuotient 4 = .ok (.iload_n 0, 1) := by decide +kernel
theorem dX10_requireQuotient_5 : decode cX10_requireQuotient 5 = .ok (.sipush 9999, 3) := by decide +kernel
theorem dX10_requireQuotient_8 : decode cX10_requireQuotient 8 = .ok (.if_icmp .gt 15, 3) := by decide +kernel
theorem dX10_requireQuotient_11 : decode cX10_requireQuotient 11 = .ok (.iload_n 1, 1) := by decide +kernel
theorem dX10_requireQuotient_12 : decode cX10_requireQuotient 12 = .ok (.iconst 1, 1) := by decide +kernel
theorem dX10_requireQuotient_13 : decode cX10_requireQuotient 13 = .ok (.if_icmp .lt 10, 3) := by decide +kernel
theorem dX10_requireQuotient_16 : decode cX10_requireQuotient 16 = .ok (.iload_n 1, 1) := by decide +kernel
theorem dX10_requireQuotient_17 : decode cX10_requireQuotient 17 = .ok (.sipush 999, 3) := by decide +kernel
theorem dX10_requireQuotient_20 : decode cX10_requireQuotient 20 = .ok (.if_icmp .le 14, 3) := by decide +kernel
theorem dX10_requireQuotient_23 : decode cX10_requireQuotient 23 = .ok (.new 152, 3) := by decide +kernel
theorem dX10_requireQuotient_26 : decode cX10_requireQuotient 26 = .ok (.dup, 1) := by decide +kernel
theorem dX10_requireQuotient_27 : decode cX10_requireQuotient 27 = .ok (.ldc_w 438, 3) := by decide +kernel
theorem dX10_requireQuotient_30 : decode cX10_requireQuotient 30 = .ok (.invokespecial 156, 3) := by decide +kernel
theorem dX10_requireQuotient_33 : decode cX10_requireQuotient 33 = .ok (.athrow, 1) := by decide +kernel
theorem dX10_requireQuotient_34 : decode cX10_requireQuotient 34 = .ok (.return_, 1) := by decide +kernel
theorem dX10_unitsOf_0 : decode cX10_unitsOf 0 = .ok (.iload_n 0, 1) := by decide +kernel
theorem dX10_unitsOf_1 : decode cX10_unitsOf 1 = .ok (.i2l, 1) := by decide +kernel
theorem dX10_unitsOf_2 : decode cX10_unitsOf 2 = .ok (.ldc2_w 389, 3) := by decide +kernel
theorem dX10_unitsOf_5 : decode cX10_unitsOf 5 = .ok (.lmul, 1) := by decide +kernel
theorem dX10_unitsOf_6 : decode cX10_unitsOf 6 = .ok (.iload_n 1, 1) := by decide +kernel
theorem dX10_unitsOf_7 : decode cX10_unitsOf 7 = .ok (.i2l, 1) := by decide +kernel
theorem dX10_unitsOf_8 : decode cX10_unitsOf 8 = .ok (.ladd, 1) := by decide +kernel
theorem dX10_unitsOf_9 : decode cX10_unitsOf 9 = .ok (.lreturn, 1) := by decide +kernel
theorem dX10_digitAt_0 : decode cX10_digitAt 0 = .ok (.lload_n 0, 1) := by decide +kernel
theorem dX10_digitAt_1 : decode cX10_digitAt 1 = .ok (.lstore_n 3, 1) := by decide +kernel
theorem dX10_digitAt_2 : decode cX10_digitAt 2 = .ok (.iconst 0, 1) := by decide +kernel
theorem dX10_digitAt_3 : decode cX10_digitAt 3 = .ok (.istore 5, 2) := by decide +kernel
theorem dX10_digitAt_5 : decode cX10_digitAt 5 = .ok (.iload 5, 2) := by decide +kernel
theorem dX10_digitAt_7 : decode cX10_digitAt 7 = .ok (.iload_n 2, 1) := by decide +kernel
theorem dX10_digitAt_8 : decode cX10_digitAt 8 = .ok (.if_icmp .ge 15, 3) := by decide +kernel
theorem dX10_digitAt_11 : decode cX10_digitAt 11 = .ok (.lload_n 3, 1) := by decide +kernel
theorem dX10_digitAt_12 : decode cX10_digitAt 12 = .ok (.ldc2_w 440, 3) := by decide +kernel
theorem dX10_digitAt_15 : decode cX10_digitAt 15 = .ok (.ldiv, 1) := by decide +kernel
theorem dX10_digitAt_16 : decode cX10_digitAt 16 = .ok (.lstore_n 3, 1) := by decide +kernel
theorem dX10_digitAt_17 : decode cX10_digitAt 17 = .ok (.iinc 5 1, 3) := by decide +kernel
theorem dX10_digitAt_20 : decode cX10_digitAt 20 = .ok (.goto (-15), 3) := by decide +kernel
theorem dX10_digitAt_23 : decode cX10_digitAt 23 = .ok (.lload_n 3, 1) := by decide +kernel
theorem dX10_digitAt_24 : decode cX10_digitAt 24 = .ok (.ldc2_w 440, 3) := by decide +kernel
theorem dX10_digitAt_27 : decode cX10_digitAt 27 = .ok (.lrem, 1) := by decide +kernel
theorem dX10_digitAt_28 : decode cX10_digitAt 28 = .ok (.l2i, 1) := by decide +kernel
theorem dX10_digitAt_29 : decode cX10_digitAt 29 = .ok (.ireturn, 1) := by decide +kernel
theorem dX10_sumOfDigits_0 : decode cX10_sumOfDigits 0 = .ok (.iconst 0, 1) := by decide +kernel
theorem dX10_sumOfDigits_1 : decode cX10_sumOfDigits 1 = .ok (.istore_n 2, 1) := by decide +kernel
theorem dX10_sumOfDigits_2 : decode cX10_sumOfDigits 2 = .ok (.iconst 0, 1) := by decide +kernel
theorem dX10_sumOfDigits_3 : decode cX10_sumOfDigits 3 = .ok (.istore_n 3, 1) := by decide +kernel
theorem dX10_sumOfDigits_4 : decode cX10_sumOfDigits 4 = .ok (.iload_n 3, 1) := by decide +kernel
theorem dX10_sumOfDigits_5 : decode cX10_sumOfDigits 5 = .ok (.bipush 10, 2) := by decide +kernel
theorem dX10_sumOfDigits_7 : decode cX10_sumOfDigits 7 = .ok (.if_icmp .gt 17, 3) := by decide +kernel
theorem dX10_sumOfDigits_10 : decode cX10_sumOfDigits 10 = .ok (.iload_n 2, 1) := by decide +kernel
theorem dX10_sumOfDigits_11 : decode cX10_sumOfDigits 11 = .ok (.lload_n 0, 1) := by decide +kernel
theorem dX10_sumOfDigits_12 : decode cX10_sumOfDigits 12 = .ok (.iload_n 3, 1) := by decide +kernel
theorem dX10_sumOfDigits_13 : decode cX10_sumOfDigits 13 = .ok (.invokestatic 209, 3) := by decide +kernel
theorem dX10_sumOfDigits_16 : decode cX10_sumOfDigits 16 = .ok (.iadd, 1) := by decide +kernel
theorem dX10_sumOfDigits_17 : decode cX10_sumOfDigits 17 = .ok (.istore_n 2, 1) := by decide +kernel
theorem dX10_sumOfDigits_18 : decode cX10_sumOfDigits 18 = .ok (.iinc 3 1, 3) := by decide +kernel
theorem dX10_sumOfDigits_21 : decode cX10_sumOfDigits 21 = .ok (.goto (-17), 3) := by decide +kernel
theorem dX10_sumOfDigits_24 : decode cX10_sumOfDigits 24 = .ok (.iload_n 2, 1) := by decide +kernel
theorem dX10_sumOfDigits_25 : decode cX10_sumOfDigits 25 = .ok (.ireturn, 1) := by decide +kernel
theorem dX10_carryingPlaces_0 : decode cX10_carryingPlaces 0 = .ok (.iconst 0, 1) := by decide +kernel
theorem dX10_carryingPlaces_1 : decode cX10_carryingPlaces 1 = .ok (.istore 4, 2) := by decide +kernel
theorem dX10_carryingPlaces_3 : decode cX10_carryingPlaces 3 = .ok (.iconst 0, 1) := by decide +kernel
theorem dX10_carryingPlaces_4 : decode cX10_carryingPlaces 4 = .ok (.istore 5, 2) := by decide +kernel
theorem dX10_carryingPlaces_6 : decode cX10_carryingPlaces 6 = .ok (.iconst 0, 1) := by decide +kernel
theorem dX10_carryingPlaces_7 : decode cX10_carryingPlaces 7 = .ok (.istore 6, 2) := by decide +kernel
theorem dX10_carryingPlaces_9 : decode cX10_carryingPlaces 9 = .ok (.iload 6, 2) := by decide +kernel
theorem dX10_carryingPlaces_11 : decode cX10_carryingPlaces 11 = .ok (.bipush 10, 2) := by decide +kernel
theorem dX10_carryingPlaces_13 : decode cX10_carryingPlaces 13 = .ok (.if_icmp .ge 47, 3) := by decide +kernel
theorem dX10_carryingPlaces_16 : decode cX10_carryingPlaces 16 = .ok (.lload_n 0, 1) := by decide +kernel
theorem dX10_carryingPlaces_17 : decode cX10_carryingPlaces 17 = .ok (.iload 6, 2) := by decide +kernel
theorem dX10_carryingPlaces_19 : decode cX10_carryingPlaces 19 = .ok (.invokestatic 209, 3) := by decide +kernel
theorem dX10_carryingPlaces_22 : decode cX10_carryingPlaces 22 = .ok (.lload_n 2, 1) := by decide +kernel
theorem dX10_carryingPlaces_23 : decode cX10_carryingPlaces 23 = .ok (.iload 6, 2) := by decide +kernel
theorem dX10_carryingPlaces_25 : decode cX10_carryingPlaces 25 = .ok (.invokestatic 209, 3) := by decide +kernel
theorem dX10_carryingPlaces_28 : decode cX10_carryingPlaces 28 = .ok (.iadd, 1) := by decide +kernel
theorem dX10_carryingPlaces_29 : decode cX10_carryingPlaces 29 = .ok (.iload 5, 2) := by decide +kernel
theorem dX10_carryingPlaces_31 : decode cX10_carryingPlaces 31 = .ok (.iadd, 1) := by decide +kernel
theorem dX10_carryingPlaces_32 : decode cX10_carryingPlaces 32 = .ok (.bipush 9, 2) := by decide +kernel
theorem dX10_carryingPlaces_34 : decode cX10_carryingPlaces 34 = .ok (.if_icmp .le 7, 3) := by decide +kernel
theorem dX10_carryingPlaces_37 : decode cX10_carryingPlaces 37 = .ok (.iconst 1, 1) := by decide +kernel
theorem dX10_carryingPlaces_38 : decode cX10_carryingPlaces 38 = .ok (.goto 4, 3) := by decide +kernel
theorem dX10_carryingPlaces_41 : decode cX10_carryingPlaces 41 = .ok (.iconst 0, 1) := by decide +kernel
theorem dX10_carryingPlaces_42 : decode cX10_carryingPlaces 42 = .ok (.istore 5, 2) := by decide +kernel
theorem dX10_carryingPlaces_44 : decode cX10_carryingPlaces 44 = .ok (.iload 4, 2) := by decide +kernel
theorem dX10_carryingPlaces_46 : decode cX10_carryingPlaces 46 = .ok (.iload 5, 2) := by decide +kernel
theorem dX10_carryingPlaces_48 : decode cX10_carryingPlaces 48 = .ok (.iload 6, 2) := by decide +kernel
theorem dX10_carryingPlaces_50 : decode cX10_carryingPlaces 50 = .ok (.ishl, 1) := by decide +kernel
theorem dX10_carryingPlaces_51 : decode cX10_carryingPlaces 51 = .ok (.ior, 1) := by decide +kernel
theorem dX10_carryingPlaces_52 : decode cX10_carryingPlaces 52 = .ok (.istore 4, 2) := by decide +kernel
theorem dX10_carryingPlaces_54 : decode cX10_carryingPlaces 54 = .ok (.iinc 6 1, 3) := by decide +kernel
theorem dX10_carryingPlaces_57 : decode cX10_carryingPlaces 57 = .ok (.goto (-48), 3) := by decide +kernel
theorem dX10_carryingPlaces_60 : decode cX10_carryingPlaces 60 = .ok (.iload 4, 2) := by decide +kernel
theorem dX10_carryingPlaces_62 : decode cX10_carryingPlaces 62 = .ok (.ireturn, 1) := by decide +kernel
theorem dX10_carriesByDigitSums_0 : decode cX10_carriesByDigitSums 0 = .ok (.lload_n 0, 1) := by decide +kernel
theorem dX10_carriesByDigitSums_1 : decode cX10_carriesByDigitSums 1 = .ok (.invokestatic 213, 3) := by decide +kernel
theorem dX10_carriesByDigitSums_4 : decode cX10_carriesByDigitSums 4 = .ok (.lload_n 2, 1) := by decide +kernel
theorem dX10_carriesByDigitSums_5 : decode cX10_carriesByDigitSums 5 = .ok (.invokestatic 213, 3) := by decide +kernel
theorem dX10_carriesByDigitSums_8 : decode cX10_carriesByDigitSums 8 = .ok (.iadd, 1) := by decide +kernel
theorem dX10_carriesByDigitSums_9 : decode cX10_carriesByDigitSums 9 = .ok (.lload_n 0, 1) := by decide +kernel
theorem dX10_carriesByDigitSums_10 : decode cX10_carriesByDigitSums 10 = .ok (.lload_n 2, 1) := by decide +kernel
theorem dX10_carriesByDigitSums_11 : decode cX10_carriesByDigitSums 11 = .ok (.ladd, 1) := by decide +kernel
theorem dX10_carriesByDigitSums_12 : decode cX10_carriesByDigitSums 12 = .ok (.invokestatic 213, 3) := by decide +kernel
theorem dX10_carriesByDigitSums_15 : decode cX10_carriesByDigitSums 15 = .ok (.isub, 1) := by decide +kernel
theorem dX10_carriesByDigitSums_16 : decode cX10_carriesByDigitSums 16 = .ok (.bipush 9, 2) := by decide +kernel
theorem dX10_carriesByDigitSums_18 : decode cX10_carriesByDigitSums 18 = .ok (.idiv, 1) := by decide +kernel
theorem dX10_carriesByDigitSums_19 : decode cX10_carriesByDigitSums 19 = .ok (.ireturn, 1) := by decide +kernel
theorem dX11_init_0 : decode cX11_init 0 = .ok (.aload_n 0, 1) := by decide +kernel
theorem dX11_init_1 : decode cX11_init 1 = .ok (.invokespecial 1, 3) := by decide +kernel
theorem dX11_init_4 : decode cX11_init 4 = .ok (.aload_n 0, 1) := by decide +kernel
theorem dX11_init_5 : decode cX11_init 5 = .ok (.bipush 28, 2) := by decide +kernel
theorem dX11_init_7 : decode cX11_init 7 = .ok (.newarray .long, 2) := by decide +kernel
theorem dX11_init_9 : decode cX11_init 9 = .ok (.putfield 9, 3) := by decide +kernel
theorem dX11_init_12 : decode cX11_init 12 = .ok (.aload_n 0, 1) := by decide +kernel
theorem dX11_init_13 : decode cX11_init 13 = .ok (.bipush 28, 2) := by decide +kernel
theorem dX11_init_15 : decode cX11_init 15 = .ok (.newarray .long, 2) := by decide +kernel
theorem dX11_init_17 : decode cX11_init 17 = .ok (.putfield 13, 3) := by decide +kernel
theorem dX11_init_20 : decode cX11_init 20 = .ok (.aload_n 0, 1) := by decide +kernel
theorem dX11_init_21 : decode cX11_init 21 = .ok (.bipush 28, 2) := by decide +kernel
theorem dX11_init_23 : decode cX11_init 23 = .ok (.newarray .long, 2) := by decide +kernel
theorem dX11_init_25 : decode cX11_init 25 = .ok (.putfield 16, 3) := by decide +kernel
theorem dX11_init_28 : decode cX11_init 28 = .ok (.aload_n 0, 1) := by decide +kernel
theorem dX11_init_29 : decode cX11_init 29 = .ok (.sipush 224, 3) := by decide +kernel
theorem dX11_init_32 : decode cX11_init 32 = .ok (.newarray .long, 2) := by decide +kernel
theorem dX11_init_34 : decode cX11_init 34 = .ok (.putfield 19, 3) := by decide +kernel
theorem dX11_init_37 : decode cX11_init 37 = .ok (.aload_n 0, 1) := by decide +kernel
theorem dX11_init_38 : decode cX11_init 38 = .ok (.iconst (-1), 1) := by decide +kernel
theorem dX11_init_39 : decode cX11_init 39 = .ok (.putfield 22, 3) := by decide +kernel
theorem dX11_init_42 : decode cX11_init 42 = .ok (.aload_n 0, 1) := by decide +kernel
theorem dX11_init_43 : decode cX11_init 43 = .ok (.iconst (-1), 1) := by decide +kernel
theorem dX11_init_44 : decode cX11_init 44 = .ok (.putfield 26, 3) := by decide +kernel
theorem dX11_init_47 : decode cX11_init 47 = .ok (.aload_n 0, 1) := by decide +kernel
theorem dX11_init_48 : decode cX11_init 48 = .ok (.bipush 60, 2) := by decide +kernel
theorem dX11_init_50 : decode cX11_init 50 = .ok (.newarray .int, 2) := by decide +kernel
theorem dX11_init_52 : decode cX11_init 52 = .ok (.putfield 29, 3) := by decide +kernel
theorem dX11_init_55 : decode cX11_init 55 = .ok (.aload_n 0, 1) := by decide +kernel
theorem dX11_init_56 : decode cX11_init 56 = .ok (.bipush 6, 2) := by decide +kernel
theorem dX11_init_58 : decode cX11_init 58 = .ok (.newarray .boolean, 2) := by decide +kernel
theorem dX11_init_60 : decode cX11_init 60 = .ok (.putfield 33, 3) := by decide +kernel
theorem dX11_init_63 : decode cX11_init 63 = .ok (.aload_n 0, 1) := by decide +kernel
theorem dX11_init_64 : decode cX11_init 64 = .ok (.bipush 10, 2) := by decide +kernel
theorem dX11_init_66 : decode cX11_init 66 = .ok (.newarray .boolean, 2) := by decide +kernel
theorem dX11_init_68 : decode cX11_init 68 = .ok (.putfield 37, 3) := by decide +kernel
theorem dX11_init_71 : decode cX11_init 71 = .ok (.aload_n 0, 1) := by decide +kernel
theorem dX11_init_72 : decode cX11_init 72 = .ok (.sipush 999, 3) := by decide +kernel
theorem dX11_init_75 : decode cX11_init 75 = .ok (.newarray .int, 2) := by decide +kernel
theorem dX11_init_77 : decode cX11_init 77 = .ok (.putfield 40, 3) := by decide +kernel
theorem dX11_init_80 : decode cX11_init 80 = .ok (.aload_n 0, 1) := by decide +kernel
theorem dX11_init_81 : decode cX11_init 81 = .ok (.bipush 45, 2) := by decide +kernel
theorem dX11_init_83 : decode cX11_init 83 = .ok (.newarray .char, 2) := by decide +kernel
theorem dX11_init_85 : decode cX11_init 85 = .ok (.dup, 1) := by decide +kernel
theorem dX11_init_86 : decode cX11_init 86 = .ok (.iconst 0, 1) := by decide +kernel
theorem dX11_init_87 : decode cX11_init 87 = .ok (.bipush 97, 2) := by decide +kernel
theorem dX11_init_89 : decode cX11_init 89 = .ok (.castore, 1) := by decide +kernel
theorem dX11_init_90 : decode cX11_init 90 = .ok (.dup, 1) := by decide +kernel
theorem dX11_init_91 : decode cX11_init 91 = .ok (.iconst 1, 1) := by decide +kernel
theorem dX11_init_92 : decode cX11_init 92 = .ok (.bipush 100, 2) := by decide +kernel
theorem dX11_init_94 : decode cX11_init 94 = .ok (.castore, 1) := by decide +kernel
theorem dX11_init_95 : decode cX11_init 95 = .ok (.dup, 1) := by decide +kernel
theorem dX11_init_96 : decode cX11_init 96 = .ok (.iconst 2, 1) := by decide +kernel
theorem dX11_init_97 : decode cX11_init 97 = .ok (.bipush 100, 2) := by decide +kernel
theorem dX11_init_99 : decode cX11_init 99 = .ok (.castore, 1) := by decide +kernel
theorem dX11_init_100 : decode cX11_init 100 = .ok (.dup, 1) := by decide +kernel
theorem dX11_init_101 : decode cX11_init 101 = .ok (.iconst 3, 1) := by decide +kernel
theorem dX11_init_102 : decode cX11_init 102 = .ok (.bipush 32, 2) := by decide +kernel
theorem dX11_init_104 : decode cX11_init 104 = .ok (.castore, 1) := by decide +kernel
theorem dX11_init_105 : decode cX11_init 105 = .ok (.dup, 1) := by decide +kernel
theorem dX11_init_106 : decode cX11_init 106 = .ok (.iconst 4, 1) := by decide +kernel
theorem dX11_init_107 : decode cX11_init 107 = .ok (.bipush 111, 2) := by decide +kernel
theorem dX11_init_109 : decode cX11_init 109 = .ok (.castore, 1) := by decide +kernel
theorem dX11_init_110 : decode cX11_init 110 = .ok (.dup, 1) := by decide +kernel
theorem dX11_init_111 : decode cX11_init 111 = .ok (.iconst 5, 1) := by decide +kernel
theorem dX11_init_112 : decode cX11_init 112 = .ok (.bipush 118, 2) := by decide +kernel
theorem dX11_init_114 : decode cX11_init 114 = .ok (.castore, 1) := by decide +kernel
theorem dX11_init_115 : decode cX11_init 115 = .ok (.dup, 1) := by decide +kernel
theorem dX11_init_116 : decode cX11_init 116 = .ok (.bipush 6, 2) := by decide +kernel
theorem dX11_init_118 : decode cX11_init 118 = .ok (.bipush 101, 2) := by decide +kernel
theorem dX11_init_120 : decode cX11_init 120 = .ok (.castore, 1) := by decide +kernel
theorem dX11_init_121 : decode cX11_init 121 = .ok (.dup, 1) := by decide +kernel
theorem dX11_init_122 : decode cX11_init 122 = .ok (.bipush 7, 2) := by decide +kernel
theorem dX11_init_124 : decode cX11_init 124 = .ok (.bipush 114, 2) := by decide +kernel
theorem dX11_init_126 : decode cX11_init 126 = .ok (.castore, 1) := by decide +kernel
theorem dX11_init_127 : decode cX11_init 127 = .ok (.dup, 1) := by decide +kernel
theorem dX11_init_128 : decode cX11_init 128 = .ok (.bipush 8, 2) := by decide +kernel
theorem dX11_init_130 : decode cX11_init 130 = .ok (.bipush 32, 2) := by decide +kernel
theorem dX11_init_132 : decode cX11_init 132 = .ok (.castore, 1) := by decide +kernel
theorem dX11_init_133 : decode cX11_init 133 = .ok (.dup, 1) := by decide +kernel
theorem dX11_init_134 : decode cX11_init 134 = .ok (.bipush 9, 2) := by decide +kernel
theorem dX11_init_136 : decode cX11_init 136 = .ok (.bipush 102, 2) := by decide +kernel
theorem dX11_init_138 : decode cX11_init 138 = .ok (.castore, 1) := by decide +kernel
theorem dX11_init_139 : decode cX11_init 139 = .ok (.dup, 1) := by decide +kernel
theorem dX11_init_140 : decode cX11_init 140 = .ok (.bipush 10, 2) := by decide +kernel
theorem dX11_init_142 : decode cX11_init 142 = .ok (.bipush 114, 2) := by decide +kernel
theorem dX11_init_144 : decode cX11_init 144 = .ok (.castore, 1) := by decide +kernel
theorem dX11_init_145 : decode cX11_init 145 = .ok (.dup, 1) := by decide +kernel
theorem dX11_init_146 : decode cX11_init 146 = .ok (.bipush 11, 2) := by decide +kernel
theorem dX11_init_148 : decode cX11_init 148 = .ok (.bipush 101, 2) := by decide +kernel
theorem dX11_init_150 : decode cX11_init 150 = .ok (.castore, 1) := by decide +kernel
theorem dX11_init_151 : decode cX11_init 151 = .ok (.dup, 1) := by decide +kernel
theorem dX11_init_152 : decode cX11_init 152 = .ok (.bipush 12, 2) := by decide +kernel
theorem dX11_init_154 : decode cX11_init 154 = .ok (.bipush 101, 2) := by decide +kernel
theorem dX11_init_156 : decode cX11_init 156 = .ok (.castore, 1) := by decide +kernel
theorem dX11_init_157 : decode cX11_init 157 = .ok (.dup, 1) := by decide +kernel
theorem dX11_init_158 : decode cX11_init 158 = .ok (.bipush 13, 2) := by decide +kernel
theorem dX11_init_160 : decode cX11_init 160 = .ok (.bipush 32, 2) := by decide +kernel
theorem dX11_init_162 : decode cX11_init 162 = .ok (.castore, 1) := by decide +kernel
theorem dX11_init_163 : decode cX11_init 163 = .ok (.dup, 1) := by decide +kernel
theorem dX11_init_164 : decode cX11_init 164 = .ok (.bipush 14, 2) := by decide +kernel
theorem dX11_init_166 : decode cX11_init 166 = .ok (.bipush 102, 2) := by decide +kernel
theorem dX11_init_168 : decode cX11_init 168 = .ok (.castore, 1) := by decide +kernel
theorem dX11_init_169 : decode cX11_init 169 = .ok (.dup, 1) := by decide +kernel
theorem dX11_init_170 : decode cX11_init 170 = .ok (.bipush 15, 2) := by decide +kernel
theorem dX11_init_172 : decode cX11_init 172 = .ok (.bipush 101, 2) := by decide +kernel
theorem dX11_init_174 : decode cX11_init 174 = .ok (.castore, 1) := by decide +kernel
theorem dX11_init_175 : decode cX11_init 175 = .ok (.dup, 1) := by decide +kernel
theorem dX11_init_176 : decode cX11_init 176 = .ok (.bipush 16, 2) := by decide +kernel
theorem dX11_init_178 : decode cX11_init 178 = .ok (.bipush 101, 2) := by decide +kernel
theorem dX11_init_180 : decode cX11_init 180 = .ok (.castore, 1) := by decide +kernel
theorem dX11_init_181 : decode cX11_init 181 = .ok (.dup, 1) := by decide +kernel
theorem dX11_init_182 : decode cX11_init 182 = .ok (.bipush 17, 2) := by decide +kernel
theorem dX11_init_184 : decode cX11_init 184 = .ok (.bipush 100, 2) := by decide +kernel
theorem dX11_init_186 : decode cX11_init 186 = .ok (.castore, 1) := by decide +kernel
theorem dX11_init_187 : decode cX11_init 187 = .ok (.dup, 1) := by decide +kernel
theorem dX11_init_188 : decode cX11_init 188 = .ok (.bipush 18, 2) := by decide +kernel
theorem dX11_init_190 : decode cX11_init 190 = .ok (.bipush 32, 2) := by decide +kernel
theorem dX11_init_192 : decode cX11_init 192 = .ok (.castore, 1) := by decide +kernel
theorem dX11_init_193 : decode cX11_init 193 = .ok (.dup, 1) := by decide +kernel
theorem dX11_init_194 : decode cX11_init 194 = .ok (.bipush 19, 2) := by decide +kernel
theorem dX11_init_196 : decode cX11_init 196 = .ok (.bipush 116, 2) := by decide +kernel
theorem dX11_init_198 : decode cX11_init 198 = .ok (.castore, 1) := by decide +kernel
theorem dX11_init_199 : decode cX11_init 199 = .ok (.dup, 1) := by decide +kernel
theorem dX11_init_200 : decode cX11_init 200 = .ok (.bipush 20, 2) := by decide +kernel
theorem dX11_init_202 : decode cX11_init 202 = .ok (.bipush 114, 2) := by decide +kernel
theorem dX11_init_204 : decode cX11_init 204 = .ok (.castore, 1) := by decide +kernel
theorem dX11_init_205 : decode cX11_init 205 = .ok (.dup, 1) := by decide +kernel
theorem dX11_init_206 : decode cX11_init 206 = .ok (.bipush 21, 2) := by decide +kernel
theorem dX11_init_208 : decode cX11_init 208 = .ok (.bipush 97, 2) := by decide +kernel
theorem dX11_init_210 : decode cX11_init 210 = .ok (.castore, 1) := by decide +kernel
theorem dX11_init_211 : decode cX11_init 211 = .ok (.dup, 1) := by decide +kernel
theorem dX11_init_212 : decode cX11_init 212 = .ok (.bipush 22, 2) := by decide +kernel
theorem dX11_init_214 : decode cX11_init 214 = .ok (.bipush 100, 2) := by decide +kernel
theorem dX11_init_216 : decode cX11_init 216 = .ok (.castore, 1) := by decide +kernel
theorem dX11_init_217 : decode cX11_init 217 = .ok (.dup, 1) := by decide +kernel
theorem dX11_init_218 : decode cX11_init 218 = .ok (.bipush 23, 2) := by decide +kernel
theorem dX11_init_220 : decode cX11_init 220 = .ok (.bipush 101, 2) := by decide +kernel
theorem dX11_init_222 : decode cX11_init 222 = .ok (.castore, 1) := by decide +kernel
theorem dX11_init_223 : decode cX11_init 223 = .ok (.dup, 1) := by decide +kernel
theorem dX11_init_224 : decode cX11_init 224 = .ok (.bipush 24, 2) := by decide +kernel
theorem dX11_init_226 : decode cX11_init 226 = .ok (.bipush 32, 2) := by decide +kernel
theorem dX11_init_228 : decode cX11_init 228 = .ok (.castore, 1) := by decide +kernel
theorem dX11_init_229 : decode cX11_init 229 = .ok (.dup, 1) := by decide +kernel
theorem dX11_init_230 : decode cX11_init 230 = .ok (.bipush 25, 2) := by decide +kernel
theorem dX11_init_232 : decode cX11_init 232 = .ok (.bipush 115, 2) := by decide +kernel
theorem dX11_init_234 : decode cX11_init 234 = .ok (.castore, 1) := by decide +kernel
theorem dX11_init_235 : decode cX11_init 235 = .ok (.dup, 1) := by decide +kernel
theorem dX11_init_236 : decode cX11_init 236 = .ok (.bipush 26, 2) := by decide +kernel
theorem dX11_init_238 : decode cX11_init 238 = .ok (.bipush 99, 2) := by decide +kernel
theorem dX11_init_240 : decode cX11_init 240 = .ok (.castore, 1) := by decide +kernel
theorem dX11_init_241 : decode cX11_init 241 = .ok (.dup, 1) := by decide +kernel
theorem dX11_init_242 : decode cX11_init 242 = .ok (.bipush 27, 2) := by decide +kernel
theorem dX11_init_244 : decode cX11_init 244 = .ok (.bipush 97, 2) := by decide +kernel
theorem dX11_init_246 : decode cX11_init 246 = .ok (.castore, 1) := by decide +kernel
theorem dX11_init_247 : decode cX11_init 247 = .ok (.dup, 1) := by decide +kernel
theorem dX11_init_248 : decode cX11_init 248 = .ok (.bipush 28, 2) := by decide +kernel
theorem dX11_init_250 : decode cX11_init 250 = .ok (.bipush 108, 2) := by decide +kernel
theorem dX11_init_252 : decode cX11_init 252 = .ok (.castore, 1) := by decide +kernel
theorem dX11_init_253 : decode cX11_init 253 = .ok (.dup, 1) := by decide +kernel
theorem dX11_init_254 : decode cX11_init 254 = .ok (.bipush 29, 2) := by decide +kernel
theorem dX11_init_256 : decode cX11_init 256 = .ok (.bipush 101, 2) := by decide +kernel
theorem dX11_init_258 : decode cX11_init 258 = .ok (.castore, 1) := by decide +kernel
theorem dX11_init_259 : decode cX11_init 259 = .ok (.dup, 1) := by decide +kernel
theorem dX11_init_260 : decode cX11_init 260 = .ok (.bipush 30, 2) := by decide +kernel
theorem dX11_init_262 : decode cX11_init 262 = .ok (.bipush 32, 2) := by decide +kernel
theorem dX11_init_264 : decode cX11_init 264 = .ok (.castore, 1) := by decide +kernel
theorem dX11_init_265 : decode cX11_init 265 = .ok (.dup, 1) := by decide +kernel
theorem dX11_init_266 : decode cX11_init 266 = .ok (.bipush 31, 2) := by decide +kernel
theorem dX11_init_268 : decode cX11_init 268 = .ok (.bipush 109, 2) := by decide +kernel
theorem dX11_init_270 : decode cX11_init 270 = .ok (.castore, 1) := by decide +kernel
theorem dX11_init_271 : decode cX11_init 271 = .ok (.dup, 1) := by decide +kernel
theorem dX11_init_272 : decode cX11_init 272 = .ok (.bipush 32, 2) := by decide +kernel
theorem dX11_init_274 : decode cX11_init 274 = .ok (.bipush 111, 2) := by decide +kernel
theorem dX11_init_276 : decode cX11_init 276 = .ok (.castore, 1) := by decide +kernel
theorem dX11_init_277 : decode cX11_init 277 = .ok (.dup, 1) := by decide +kernel
theorem dX11_init_278 : decode cX11_init 278 = .ok (.bipush 33, 2) := by decide +kernel
theorem dX11_init_280 : decode cX11_init 280 = .ok (.bipush 100, 2) := by decide +kernel
theorem dX11_init_282 : decode cX11_init 282 = .ok (.castore, 1) := by decide +kernel
theorem dX11_init_283 : decode cX11_init 283 = .ok (.dup, 1) := by decide +kernel
theorem dX11_init_284 : decode cX11_init 284 = .ok (.bipush 34, 2) := by decide +kernel
theorem dX11_init_286 : decode cX11_init 286 = .ok (.bipush 101, 2) := by decide +kernel
theorem dX11_init_288 : decode cX11_init 288 = .ok (.castore, 1) := by decide +kernel
theorem dX11_init_289 : decode cX11_init 289 = .ok (.dup, 1) := by decide +kernel
theorem dX11_init_290 : decode cX11_init 290 = .ok (.bipush 35, 2) := by decide +kernel
theorem dX11_init_292 : decode cX11_init 292 = .ok (.bipush 32, 2) := by decide +kernel
theorem dX11_init_294 : decode cX11_init 294 = .ok (.castore, 1) := by decide +kernel
theorem dX11_init_295 : decode cX11_init 295 = .ok (.dup, 1) := by decide +kernel
theorem dX11_init_296 : decode cX11_init 296 = .ok (.bipush 36, 2) := by decide +kernel
theorem dX11_init_298 : decode cX11_init 298 = .ok (.bipush 116, 2) := by decide +kernel
theorem dX11_init_300 : decode cX11_init 300 = .ok (.castore, 1) := by decide +kernel
theorem dX11_init_301 : decode cX11_init 301 = .ok (.dup, 1) := by decide +kernel
theorem dX11_init_302 : decode cX11_init 302 = .ok (.bipush 37, 2) := by decide +kernel
theorem dX11_init_304 : decode cX11_init 304 = .ok (.bipush 111, 2) := by decide +kernel
theorem dX11_init_306 : decode cX11_init 306 = .ok (.castore, 1) := by decide +kernel
theorem dX11_init_307 : decode cX11_init 307 = .ok (.dup, 1) := by decide +kernel
theorem dX11_init_308 : decode cX11_init 308 = .ok (.bipush 38, 2) := by decide +kernel
theorem dX11_init_310 : decode cX11_init 310 = .ok (.bipush 103, 2) := by decide +kernel
theorem dX11_init_312 : decode cX11_init 312 = .ok (.castore, 1) := by decide +kernel
theorem dX11_init_313 : decode cX11_init 313 = .ok (.dup, 1) := by decide +kernel
theorem dX11_init_314 : decode cX11_init 314 = .ok (.bipush 39, 2) := by decide +kernel
theorem dX11_init_316 : decode cX11_init 316 = .ok (.bipush 101, 2) := by decide +kernel
theorem dX11_init_318 : decode cX11_init 318 = .ok (.castore, 1) := by decide +kernel
theorem dX11_init_319 : decode cX11_init 319 = .ok (.dup, 1) := by decide +kernel
theorem dX11_init_320 : decode cX11_init 320 = .ok (.bipush 40, 2) := by decide +kernel
theorem dX11_init_322 : decode cX11_init 322 = .ok (.bipush 116, 2) := by decide +kernel
theorem dX11_init_324 : decode cX11_init 324 = .ok (.castore, 1) := by decide +kernel
theorem dX11_init_325 : decode cX11_init 325 = .ok (.dup, 1) := by decide +kernel
theorem dX11_init_326 : decode cX11_init 326 = .ok (.bipush 41, 2) := by decide +kernel
theorem dX11_init_328 : decode cX11_init 328 = .ok (.bipush 104, 2) := by decide +kernel
theorem dX11_init_330 : decode cX11_init 330 = .ok (.castore, 1) := by decide +kernel
theorem dX11_init_331 : decode cX11_init 331 = .ok (.dup, 1) := by decide +kernel
theorem dX11_init_332 : decode cX11_init 332 = .ok (.bipush 42, 2) := by decide +kernel
theorem dX11_init_334 : decode cX11_init 334 = .ok (.bipush 101, 2) := by decide +kernel
theorem dX11_init_336 : decode cX11_init 336 = .ok (.castore, 1) := by decide +kernel
theorem dX11_init_337 : decode cX11_init 337 = .ok (.dup, 1) := by decide +kernel
theorem dX11_init_338 : decode cX11_init 338 = .ok (.bipush 43, 2) := by decide +kernel
theorem dX11_init_340 : decode cX11_init 340 = .ok (.bipush 114, 2) := by decide +kernel
theorem dX11_init_342 : decode cX11_init 342 = .ok (.castore, 1) := by decide +kernel
theorem dX11_init_343 : decode cX11_init 343 = .ok (.dup, 1) := by decide +kernel
theorem dX11_init_344 : decode cX11_init 344 = .ok (.bipush 44, 2) := by decide +kernel
theorem dX11_init_346 : decode cX11_init 346 = .ok (.bipush 32, 2) := by decide +kernel
theorem dX11_init_348 : decode cX11_init 348 = .ok (.castore, 1) := by decide +kernel
theorem dX11_init_349 : decode cX11_init 349 = .ok (.putfield 43, 3) := by decide +kernel
theorem dX11_init_352 : decode cX11_init 352 = .ok (.aload_n 0, 1) := by decide +kernel
theorem dX11_init_353 : decode cX11_init 353 = .ok (.bipush 9, 2) := by decide +kernel
theorem dX11_init_355 : decode cX11_init 355 = .ok (.newarray .int, 2) := by decide +kernel
theorem dX11_init_357 : decode cX11_init 357 = .ok (.dup, 1) := by decide +kernel
theorem dX11_init_358 : decode cX11_init 358 = .ok (.iconst 0, 1) := by decide +kernel
theorem dX11_init_359 : decode cX11_init 359 = .ok (.iconst 0, 1) := by decide +kernel
theorem dX11_init_360 : decode cX11_init 360 = .ok (.iastore, 1) := by decide +kernel
theorem dX11_init_361 : decode cX11_init 361 = .ok (.dup, 1) := by decide +kernel
theorem dX11_init_362 : decode cX11_init 362 = .ok (.iconst 1, 1) := by decide +kernel
theorem dX11_init_363 : decode cX11_init 363 = .ok (.iconst 4, 1) := by decide +kernel
theorem dX11_init_364 : decode cX11_init 364 = .ok (.iastore, 1) := by decide +kernel
theorem dX11_init_365 : decode cX11_init 365 = .ok (.dup, 1) := by decide +kernel
theorem dX11_init_366 : decode cX11_init 366 = .ok (.iconst 2, 1) := by decide +kernel
theorem dX11_init_367 : decode cX11_init 367 = .ok (.bipush 9, 2) := by decide +kernel
theorem dX11_init_369 : decode cX11_init 369 = .ok (.iastore, 1) := by decide +kernel
theorem dX11_init_370 : decode cX11_init 370 = .ok (.dup, 1) := by decide +kernel
theorem dX11_init_371 : decode cX11_init 371 = .ok (.iconst 3, 1) := by decide +kernel
theorem dX11_init_372 : decode cX11_init 372 = .ok (.bipush 14, 2) := by decide +kernel
theorem dX11_init_374 : decode cX11_init 374 = .ok (.iastore, 1) := by decide +kernel
theorem dX11_init_375 : decode cX11_init 375 = .ok (.dup, 1) := by decide +kernel
theorem dX11_init_376 : decode cX11_init 376 = .ok (.iconst 4, 1) := by decide +kernel
theorem dX11_init_377 : decode cX11_init 377 = .ok (.bipush 19, 2) := by decide +kernel
theorem dX11_init_379 : decode cX11_init 379 = .ok (.iastore, 1) := by decide +kernel
theorem dX11_init_380 : decode cX11_init 380 = .ok (.dup, 1) := by decide +kernel
theorem dX11_init_381 : decode cX11_init 381 = .ok (.iconst 5, 1) := by decide +kernel
theorem dX11_init_382 : decode cX11_init 382 = .ok (.bipush 25, 2) := by decide +kernel
theorem dX11_init_384 : decode cX11_init 384 = .ok (.iastore, 1) := by decide +kernel
theorem dX11_init_385 : decode cX11_init 385 = .ok (.dup, 1) := by decide +kernel
theorem dX11_init_386 : decode cX11_init 386 = .ok (.bipush 6, 2) := by decide +kernel
theorem dX11_init_388 : decode cX11_init 388 = .ok (.bipush 31, 2) := by decide +kernel
theorem dX11_init_390 : decode cX11_init 390 = .ok (.iastore, 1) := by decide +kernel
theorem dX11_init_391 : decode cX11_init 391 = .ok (.dup, 1) := by decide +kernel
theorem dX11_init_392 : decode cX11_init 392 = .ok (.bipush 7, 2) := by decide +kernel
theorem dX11_init_394 : decode cX11_init 394 = .ok (.bipush 36, 2) := by decide +kernel
theorem dX11_init_396 : decode cX11_init 396 = .ok (.iastore, 1) := by decide +kernel
theorem dX11_init_397 : decode cX11_init 397 = .ok (.dup, 1) := by decide +kernel
theorem dX11_init_398 : decode cX11_init 398 = .ok (.bipush 8, 2) := by decide +kernel
theorem dX11_init_400 : decode cX11_init 400 = .ok (.bipush 45, 2) := by decide +kernel
theorem dX11_init_402 : decode cX11_init 402 = .ok (.iastore, 1) := by decide +kernel
theorem dX11_init_403 : decode cX11_init 403 = .ok (.putfield 47, 3) := by decide +kernel
theorem dX11_init_406 : decode cX11_init 406 = .ok (.aload_n 0, 1) := by decide +kernel
theorem dX11_init_407 : decode cX11_init 407 = .ok (.sipush 305, 3) := by decide +kernel
theorem dX11_init_410 : decode cX11_init 410 = .ok (.newarray .int, 2) := by decide +kernel
theorem dX11_init_412 : decode cX11_init 412 = .ok (.putfield 50, 3) := by decide +kernel
theorem dX11_init_415 : decode cX11_init 415 = .ok (.aload_n 0, 1) := by decide +kernel
theorem dX11_init_416 : decode cX11_init 416 = .ok (.bipush 80, 2) := by decide +kernel
theorem dX11_init_418 : decode cX11_init 418 = .ok (.newarray .int, 2) := by decide +kernel
theorem dX11_init_420 : decode cX11_init 420 = .ok (.putfield 53, 3) := by decide +kernel
theorem dX11_init_423 : decode cX11_init 423 = .ok (.return_, 1) := by decide +kernel
theorem dX11_thrown_0 : decode cX11_thrown 0 = .ok (.aload_n 0, 1) := by decide +kernel
theorem dX11_thrown_1 : decode cX11_thrown 1 = .ok (.getfield 56, 3) := by decide +kernel
theorem dX11_thrown_4 : decode cX11_thrown 4 = .ok (.ireturn, 1) := by decide +kernel
theorem dX11_throwing_0 : decode cX11_throwing 0 = .ok (.aload_n 0, 1) := by decide +kernel
theorem dX11_throwing_1 : decode cX11_throwing 1 = .ok (.iload_n 1, 1) := by decide +kernel
theorem dX11_throwing_2 : decode cX11_throwing 2 = .ok (.putfield 56, 3) := by decide +kernel
theorem dX11_throwing_5 : decode cX11_throwing 5 = .ok (.iconst (-1), 1) := by decide +kernel
theorem dX11_throwing_6 : decode cX11_throwing 6 = .ok (.ireturn, 1) := by decide +kernel
theorem dX11_in_0 : decode cX11_in 0 = .ok (.lload_n 0, 1) := by decide +kernel
theorem dX11_in_1 : decode cX11_in 1 = .ok (.lload_n 2, 1) := by decide +kernel
theorem dX11_in_2 : decode cX11_in 2 = .ok (.lcmp, 1) := by decide +kernel
theorem dX11_in_3 : decode cX11_in 3 = .ok (.ifCond .lt 14, 3) := by decide +kernel
theorem dX11_in_6 : decode cX11_in 6 = .ok (.lload_n 0, 1) := by decide +kernel
theorem dX11_in_7 : decode cX11_in 7 = .ok (.lload 4, 2) := by decide +kernel
theorem dX11_in_9 : decode cX11_in 9 = .ok (.lcmp, 1) := by decide +kernel
theorem dX11_in_10 : decode cX11_in 10 = .ok (.ifCond .gt 7, 3) := by decide +kernel
theorem dX11_in_13 : decode cX11_in 13 = .ok (.iconst 1, 1) := by decide +kernel
theorem dX11_in_14 : decode cX11_in 14 = .ok (.goto 4, 3) := by decide +kernel
theorem dX11_in_17 : decode cX11_in 17 = .ok (.iconst 0, 1) := by decide +kernel
theorem dX11_in_18 : decode cX11_in 18 = .ok (.ireturn, 1) := by decide +kernel
theorem dX11_starts_0 : decode cX11_starts 0 = .ok (.aload_n 0, 1) := by decide +kernel
theorem dX11_starts_1 : decode cX11_starts 1 = .ok (.iconst 0, 1) := by decide +kernel
theorem dX11_starts_2 : decode cX11_starts 2 = .ok (.putfield 56, 3) := by decide +kernel
theorem dX11_starts_5 : decode cX11_starts 5 = .ok (.iconst 0, 1) := by decide +kernel
theorem dX11_starts_6 : decode cX11_starts 6 = .ok (.istore_n 1, 1) := by decide +kernel
theorem dX11_starts_7 : decode cX11_starts 7 = .ok (.iload_n 1, 1) := by decide +kernel
theorem dX11_starts_8 : decode cX11_starts 8 = .ok (.bipush 28, 2) := by decide +kernel
theorem dX11_starts_10 : decode cX11_starts 10 = .ok (.if_icmp .ge 21, 3) := by decide +kernel
theorem dX11_starts_13 : decode cX11_starts 13 = .ok (.aload_n 0, 1) := by decide +kernel
theorem dX11_starts_14 : decode cX11_starts 14 = .ok (.getfield 13, 3) := by decide +kernel
theorem dX11_starts_17 : decode cX11_starts 17 = .ok (.iload_n 1, 1) := by decide +kernel
theorem dX11_starts_18 : decode cX11_starts 18 = .ok (.aload_n 0, 1) := by decide +kernel
theorem dX11_starts_19 : decode cX11_starts 19 = .ok (.getfield 9, 3) := by decide +kernel
theorem dX11_starts_22 : decode cX11_starts 22 = .ok (.iload_n 1, 1) := by decide +kernel
theorem dX11_starts_23 : decode cX11_starts 23 = .ok (.laload, 1) := by decide +kernel
theorem dX11_starts_24 : decode cX11_starts 24 = .ok (.lastore, 1) := by decide +kernel
theorem dX11_starts_25 : decode cX11_starts 25 = .ok (.iinc 1 1, 3) := by decide +kernel
theorem dX11_starts_28 : decode cX11_starts 28 = .ok (.goto (-21), 3) := by decide +kernel
theorem dX11_starts_31 : decode cX11_starts 31 = .ok (.return_, 1) := by decide +kernel
theorem dX11_ends_0 : decode cX11_ends 0 = .ok (.aload_n 0, 1) := by decide +kernel
theorem dX11_ends_1 : decode cX11_ends 1 = .ok (.getfield 56, 3) := by decide +kernel
theorem dX11_ends_4 : decode cX11_ends 4 = .ok (.ifCond .le 4, 3) := by decide +kernel
theorem dX11_ends_7 : decode cX11_ends 7 = .ok (.return_, 1) := by decide +kernel
theorem dX11_ends_8 : decode cX11_ends 8 = .ok (.aload_n 0, 1) := by decide +kernel
theorem dX11_ends_9 : decode cX11_ends 9 = .ok (.getfield 59, 3) := by decide +kernel
theorem dX11_ends_12 : decode cX11_ends 12 = .ok (.bipush 8, 2) := by decide +kernel
theorem dX11_ends_14 : decode cX11_ends 14 = .ok (.if_icmp .ne 43, 3) := by decide +kernel
theorem dX11_ends_17 : decode cX11_ends 17 = .ok (.iconst 0, 1) := by decide +kernel
theorem dX11_ends_18 : decode cX11_ends 18 = .ok (.istore_n 1, 1) := by decide +kernel
theorem dX11_ends_19 : decode cX11_ends 19 = .ok (.iload_n 1, 1) := by decide +kernel
theorem dX11_ends_20 : decode cX11_ends 20 = .ok (.sipush 196, 3) := by decide +kernel
theorem dX11_ends_23 : decode cX11_ends 23 = .ok (.if_icmp .ge 24, 3) := by decide +kernel
theorem dX11_ends_26 : decode cX11_ends 26 = .ok (.aload_n 0, 1) := by decide +kernel
theorem dX11_ends_27 : decode cX11_ends 27 = .ok (.getfield 19, 3) := by decide +kernel
theorem dX11_ends_30 : decode cX11_ends 30 = .ok (.iload_n 1, 1) := by decide +kernel
theorem dX11_ends_31 : decode cX11_ends 31 = .ok (.aload_n 0, 1) := by decide +kernel
theorem dX11_ends_32 : decode cX11_ends 32 = .ok (.getfield 19, 3) := by decide +kernel
theorem dX11_ends_35 : decode cX11_ends 35 = .ok (.iload_n 1, 1) := by decide +kernel
theorem dX11_ends_36 : decode cX11_ends 36 = .ok (.bipush 28, 2) := by decide +kernel
theorem dX11_ends_38 : decode cX11_ends 38 = .ok (.iadd, 1) := by decide +kernel
theorem dX11_ends_39 : decode cX11_ends 39 = .ok (.laload, 1) := by decide +kernel
theorem dX11_ends_40 : decode cX11_ends 40 = .ok (.lastore, 1) := by decide +kernel
theorem dX11_ends_41 : decode cX11_ends 41 = .ok (.iinc 1 1, 3) := by decide +kernel
theorem dX11_ends_44 : decode cX11_ends 44 = .ok (.goto (-25), 3) := by decide +kernel
theorem dX11_ends_47 : decode cX11_ends 47 = .ok (.aload_n 0, 1) := by decide +kernel
theorem dX11_ends_48 : decode cX11_ends 48 = .ok (.dup, 1) := by decide +kernel
theorem dX11_ends_49 : decode cX11_ends 49 = .ok (.getfield 59, 3) := by decide +kernel
theorem dX11_ends_52 : decode cX11_ends 52 = .ok (.iconst 1, 1) := by decide +kernel
theorem dX11_ends_53 : decode cX11_ends 53 = .ok (.isub, 1) := by decide +kernel
theorem dX11_ends_54 : decode cX11_ends 54 = .ok (.putfield 59, 3) := by decide +kernel
theorem dX11_ends_57 : decode cX11_ends 57 = .ok (.iconst 0, 1) := by decide +kernel
theorem dX11_ends_58 : decode cX11_ends 58 = .ok (.istore_n 1, 1) := by decide +kernel
theorem dX11_ends_59 : decode cX11_ends 59 = .ok (.iload_n 1, 1) := by decide +kernel
theorem dX11_ends_60 : decode cX11_ends 60 = .ok (.bipush 28, 2) := by decide +kernel
theorem dX11_ends_62 : decode cX11_ends 62 = .ok (.if_icmp .ge 29, 3) := by decide +kernel
theorem dX11_ends_65 : decode cX11_ends 65 = .ok (.aload_n 0, 1) := by decide +kernel
theorem dX11_ends_66 : decode cX11_ends 66 = .ok (.getfield 19, 3) := by decide +kernel
theorem dX11_ends_69 : decode cX11_ends 69 = .ok (.bipush 28, 2) := by decide +kernel
theorem dX11_ends_71 : decode cX11_ends 71 = .ok (.aload_n 0, 1) := by decide +kernel
theorem dX11_ends_72 : decode cX11_ends 72 = .ok (.getfield 59, 3) := by decide +kernel
theorem dX11_ends_75 : decode cX11_ends 75 = .ok (.imul, 1) := by decide +kernel
theorem dX11_ends_76 : decode cX11_ends 76 = .ok (.iload_n 1, 1) := by decide +kernel
theorem dX11_ends_77 : decode cX11_ends 77 = .ok (.iadd, 1) := by decide +kernel
theorem dX11_ends_78 : decode cX11_ends 78 = .ok (.aload_n 0, 1) := by decide +kernel
theorem dX11_ends_79 : decode cX11_ends 79 = .ok (.getfield 13, 3) := by decide +kernel
theorem dX11_ends_82 : decode cX11_ends 82 = .ok (.iload_n 1, 1) := by decide +kernel
theorem dX11_ends_83 : decode cX11_ends 83 = .ok (.laload, 1) := by decide +kernel
theorem dX11_ends_84 : decode cX11_ends 84 = .ok (.lastore, 1) := by decide +kernel
theorem dX11_ends_85 : decode cX11_ends 85 = .ok (.iinc 1 1, 3) := by decide +kernel
theorem dX11_ends_88 : decode cX11_ends 88 = .ok (.goto (-29), 3) := by decide +kernel
theorem dX11_ends_91 : decode cX11_ends 91 = .ok (.aload_n 0, 1) := by decide +kernel
theorem dX11_ends_92 : decode cX11_ends 92 = .ok (.dup, 1) := by decide +kernel
theorem dX11_ends_93 : decode cX11_ends 93 = .ok (.getfield 59, 3) := by decide +kernel
theorem dX11_ends_96 : decode cX11_ends 96 = .ok (.iconst 1, 1) := by decide +kernel
theorem dX11_ends_97 : decode cX11_ends 97 = .ok (.iadd, 1) := by decide +kernel
theorem dX11_ends_98 : decode cX11_ends 98 = .ok (.putfield 59, 3) := by decide +kernel
theorem dX11_ends_101 : decode cX11_ends 101 = .ok (.return_, 1) := by decide +kernel
theorem dX11_at_0 : decode cX11_at 0 = .ok (.iconst 4, 1) := by decide +kernel
theorem dX11_at_1 : decode cX11_at 1 = .ok (.iconst 4, 1) := by decide +kernel
theorem dX11_at_2 : decode cX11_at 2 = .ok (.iload_n 0, 1) := by decide +kernel
theorem dX11_at_3 : decode cX11_at 3 = .ok (.imul, 1) := by decide +kernel
theorem dX11_at_4 : decode cX11_at 4 = .ok (.iadd, 1) := by decide +kernel
theorem dX11_at_5 : decode cX11_at 5 = .ok (.ireturn, 1) := by decide +kernel
theorem dX11_many_0 : decode cX11_many 0 = .ok (.aload_n 0, 1) := by decide +kernel
theorem dX11_many_1 : decode cX11_many 1 = .ok (.getfield 9, 3) := by decide +kernel
theorem dX11_many_4 : decode cX11_many 4 = .ok (.iconst 0, 1) := by decide +kernel
theorem dX11_many_5 : decode cX11_many 5 = .ok (.laload, 1) := by decide +kernel
theorem dX11_many_6 : decode cX11_many 6 = .ok (.l2i, 1) := by decide +kernel
theorem dX11_many_7 : decode cX11_many 7 = .ok (.ireturn, 1) := by decide +kernel
theorem dX11_find_0 : decode cX11_find 0 = .ok (.iconst 0, 1) := by decide +kernel
theorem dX11_find_1 : decode cX11_find 1 = .ok (.istore_n 2, 1) := by decide +kernel
theorem dX11_find_2 : decode cX11_find 2 = .ok (.iload_n 2, 1) := by decide +kernel
theorem dX11_find_3 : decode cX11_find 3 = .ok (.aload_n 0, 1) := by decide +kernel
theorem dX11_find_4 : decode cX11_find 4 = .ok (.invokevirtual 62, 3) := by decide +kernel
theorem dX11_find_7 : decode cX11_find 7 = .ok (.if_icmp .ge 26, 3) := by decide +kernel
theorem dX11_find_10 : decode cX11_find 10 = .ok (.aload_n 0, 1) := by decide +kernel
theorem dX11_find_11 : decode cX11_find 11 = .ok (.getfield 9, 3) := by decide +kernel
theorem dX11_find_14 : decode cX11_find 14 = .ok (.iload_n 2, 1) := by decide +kernel
theorem dX11_find_15 : decode cX11_find 15 = .ok (.invokestatic 66, 3) := by decide +kernel
theorem dX11_find_18 : decode cX11_find 18 = .ok (.laload, 1) := by decide +kernel
theorem dX11_find_19 : decode cX11_find 19 = .ok (.iload_n 1, 1) := by decide +kernel
theorem dX11_find_20 : decode cX11_find 20 = .ok (.i2l, 1) := by decide +kernel
theorem dX11_find_21 : decode cX11_find 21 = .ok (.lcmp, 1) := by decide +kernel
theorem dX11_find_22 : decode cX11_find 22 = .ok (.ifCond .ne 5, 3) := by decide +kernel
theorem dX11_find_25 : decode cX11_find 25 = .ok (.iload_n 2, 1) := by decide +kernel
theorem dX11_find_26 : decode cX11_find 26 = .ok (.ireturn, 1) := by decide +kernel
theorem dX11_find_27 : decode cX11_find 27 = .ok (.iinc 2 1, 3) := by decide +kernel
theorem dX11_find_30 : decode cX11_find 30 = .ok (.goto (-28), 3) := by decide +kernel
theorem dX11_find_33 : decode cX11_find 33 = .ok (.iconst (-1), 1) := by decide +kernel
theorem dX11_find_34 : decode cX11_find 34 = .ok (.ireturn, 1) := by decide +kernel
theorem dX11_isMode_0 : decode cX11_isMode 0 = .ok (.iload_n 0, 1) := by decide +kernel
theorem dX11_isMode_1 : decode cX11_isMode 1 = .ok (.bipush 100, 2) := by decide +kernel
theorem dX11_isMode_3 : decode cX11_isMode 3 = .ok (.if_icmp .eq 27, 3) := by decide +kernel
theorem dX11_isMode_6 : decode cX11_isMode 6 = .ok (.iload_n 0, 1) := by decide +kernel
theorem dX11_isMode_7 : decode cX11_isMode 7 = .ok (.bipush 117, 2) := by decide +kernel
theorem dX11_isMode_9 : decode cX11_isMode 9 = .ok (.if_icmp .eq 21, 3) := by decide +kernel
theorem dX11_isMode_12 : decode cX11_isMode 12 = .ok (.iload_n 0, 1) := by decide +kernel
theorem dX11_isMode_13 : decode cX11_isMode 13 = .ok (.bipush 104, 2) := by decide +kernel
theorem dX11_isMode_15 : decode cX11_isMode 15 = .ok (.if_icmp .eq 15, 3) := by decide +kernel
theorem dX11_isMode_18 : decode cX11_isMode 18 = .ok (.iload_n 0, 1) := by decide +kernel
theorem dX11_isMode_19 : decode cX11_isMode 19 = .ok (.bipush 108, 2) := by decide +kernel
theorem dX11_isMode_21 : decode cX11_isMode 21 = .ok (.if_icmp .eq 9, 3) := by decide +kernel
theorem dX11_isMode_24 : decode cX11_isMode 24 = .ok (.iload_n 0, 1) := by decide +kernel
theorem dX11_isMode_25 : decode cX11_isMode 25 = .ok (.bipush 101, 2) := by decide +kernel
theorem dX11_isMode_27 : decode cX11_isMode 27 = .ok (.if_icmp .ne 7, 3) := by decide +kernel
theorem dX11_isMode_30 : decode cX11_isMode 30 = .ok (.iconst 1, 1) := by decide +kernel
theorem dX11_isMode_31 : decode cX11_isMode 31 = .ok (.goto 4, 3) := by decide +kernel
theorem dX11_isMode_34 : decode cX11_isMode 34 = .ok (.iconst 0, 1) := by decide +kernel
theorem dX11_isMode_35 : decode cX11_isMode 35 = .ok (.ireturn, 1) := by decide +kernel
theorem dX11_isScale_0 : decode cX11_isScale 0 = .ok (.iload_n 0, 1) := by decide +kernel
theorem dX11_isScale_1 : decode cX11_isScale 1 = .ok (.i2l, 1) := by decide +kernel
theorem dX11_isScale_2 : decode cX11_isScale 2 = .ok (.lconst 0, 1) := by decide +kernel
theorem dX11_isScale_3 : decode cX11_isScale 3 = .ok (.ldc2_w 70, 3) := by decide +kernel
theorem dX11_isScale_6 : decode cX11_isScale 6 = .ok (.invokestatic 72, 3) := by decide +kernel
theorem dX11_isScale_9 : decode cX11_isScale 9 = .ok (.ireturn, 1) := by decide +kernel
theorem dX11_isAmount_0 : decode cX11_isAmount 0 = .ok (.iload_n 0, 1) := by decide +kernel
theorem dX11_isAmount_1 : decode cX11_isAmount 1 = .ok (.i2l, 1) := by decide +kernel
theorem dX11_isAmount_2 : decode cX11_isAmount 2 = .ok (.lconst 0, 1) := by decide +kernel
theorem dX11_isAmount_3 : decode cX11_isAmount 3 = .ok (.ldc2_w 76, 3) := by decide +kernel
theorem dX11_isAmount_6 : decode cX11_isAmount 6 = .ok (.invokestatic 72, 3) := by decide +kernel
theorem dX11_isAmount_9 : decode cX11_isAmount 9 = .ok (.ifCond .eq 19, 3) := by decide +kernel
theorem dX11_isAmount_12 : decode cX11_isAmount 12 = .ok (.iload_n 1, 1) := by decide +kernel
theorem dX11_isAmount_13 : decode cX11_isAmount 13 = .ok (.i2l, 1) := by decide +kernel
theorem dX11_isAmount_14 : decode cX11_isAmount 14 = .ok (.lconst 0, 1) := by decide +kernel
theorem dX11_isAmount_15 : decode cX11_isAmount 15 = .ok (.ldc2_w 78, 3) := by decide +kernel
theorem dX11_isAmount_18 : decode cX11_isAmount 18 = .ok (.invokestatic 72, 3) := by decide +kernel
theorem dX11_isAmount_21 : decode cX11_isAmount 21 = .ok (.ifCond .eq 7, 3) := by decide +kernel
theorem dX11_isAmount_24 : decode cX11_isAmount 24 = .ok (.iconst 1, 1) := by decide +kernel
theorem dX11_isAmount_25 : decode cX11_isAmount 25 = .ok (.goto 4, 3) := by decide +kernel
theorem dX11_isAmount_28 : decode cX11_isAmount 28 = .ok (.iconst 0, 1) := by decide +kernel
theorem dX11_isAmount_29 : decode cX11_isAmount 29 = .ok (.ireturn, 1) := by decide +kernel
theorem dX11_units_0 : decode cX11_units 0 = .ok (.ldc2_w 80, 3) := by decide +kernel
theorem dX11_units_3 : decode cX11_units 3 = .ok (.iload_n 0, 1) := by decide +kernel
theorem dX11_units_4 : decode cX11_units 4 = .ok (.i2l, 1) := by decide +kernel
theorem dX11_units_5 : decode cX11_units 5 = .ok (.lmul, 1) := by decide +kernel
theorem dX11_units_6 : decode cX11_units 6 = .ok (.iload_n 1, 1) := by decide +kernel
theorem dX11_units_7 : decode cX11_units 7 = .ok (.i2l, 1) := by decide +kernel
theorem dX11_units_8 : decode cX11_units 8 = .ok (.ladd, 1) := by decide +kernel
theorem dX11_units_9 : decode cX11_units 9 = .ok (.lreturn, 1) := by decide +kernel
theorem dX11_step_0 : decode cX11_step 0 = .ok (.ldc2_w 80, 3) := by decide +kernel
theorem dX11_step_3 : decode cX11_step 3 = .ok (.lstore_n 1, 1) := by decide +kernel
theorem dX11_step_4 : decode cX11_step 4 = .ok (.iconst 0, 1) := by decide +kernel
theorem dX11_step_5 : decode cX11_step 5 = .ok (.istore_n 3, 1) := by decide +kernel
theorem dX11_step_6 : decode cX11_step 6 = .ok (.iload_n 3, 1) := by decide +kernel
theorem dX11_step_7 : decode cX11_step 7 = .ok (.iload_n 0, 1) := by decide +kernel
theorem dX11_step_8 : decode cX11_step 8 = .ok (.if_icmp .ge 15, 3) := by decide +kernel
theorem dX11_step_11 : decode cX11_step 11 = .ok (.lload_n 1, 1) := by decide +kernel
theorem dX11_step_12 : decode cX11_step 12 = .ok (.ldc2_w 82, 3) := by decide +kernel
theorem dX11_step_15 : decode cX11_step 15 = .ok (.ldiv, 1) := by decide +kernel
theorem dX11_step_16 : decode cX11_step 16 = .ok (.lstore_n 1, 1) := by decide +kernel
theorem dX11_step_17 : decode cX11_step 17 = .ok (.iinc 3 1, 3) := by decide +kernel
theorem dX11_step_20 : decode cX11_step 20 = .ok (.goto (-14), 3) := by decide +kernel
theorem dX11_step_23 : decode cX11_step 23 = .ok (.lload_n 1, 1) := by decide +kernel
theorem dX11_step_24 : decode cX11_step 24 = .ok (.lreturn, 1) := by decide +kernel
theorem dX11_times_0 : decode cX11_times 0 = .ok (.lload_n 0, 1) := by decide +kernel
theorem dX11_times_1 : decode cX11_times 1 = .ok (.lload_n 2, 1) := by decide +kernel
theorem dX11_times_2 : decode cX11_times 2 = .ok (.ldiv, 1) := by decide +kernel
theorem dX11_times_3 : decode cX11_times 3 = .ok (.lstore 5, 2) := by decide +kernel
theorem dX11_times_5 : decode cX11_times 5 = .ok (.lload_n 0, 1) := by decide +kernel
theorem dX11_times_6 : decode cX11_times 6 = .ok (.lload_n 2, 1) := by decide +kernel
theorem dX11_times_7 : decode cX11_times 7 = .ok (.lrem, 1) := by decide +kernel
theorem dX11_times_8 : decode cX11_times 8 = .ok (.lstore 7, 2) := by decide +kernel
theorem dX11_times_10 : decode cX11_times 10 = .ok (.iload 4, 2) := by decide +kernel
theorem dX11_times_12 : decode cX11_times 12 = .ok (.bipush 117, 2) := by decide +kernel
theorem dX11_times_14 : decode cX11_times 14 = .ok (.if_icmp .eq 39, 3) := by decide +kernel
theorem dX11_times_17 : decode cX11_times 17 = .ok (.iload 4, 2) := by decide +kernel
theorem dX11_times_19 : decode cX11_times 19 = .ok (.bipush 104, 2) := by decide +kernel
theorem dX11_times_21 : decode cX11_times 21 = .ok (.if_icmp .ne 14, 3) := by decide +kernel
theorem dX11_times_24 : decode cX11_times 24 = .ok (.ldc2_w 84, 3) := by decide +kernel
theorem dX11_times_27 : decode cX11_times 27 = .ok (.lload 7, 2) := by decide +kernel
theorem dX11_times_29 : decode cX11_times 29 = .ok (.lmul, 1) := by decide +kernel
theorem dX11_times_30 : decode cX11_times 30 = .ok (.lload_n 2, 1) := by decide +kernel
theorem dX11_times_31 : decode cX11_times 31 = .ok (.lcmp, 1) := by decide +kernel
theorem dX11_times_32 : decode cX11_times 32 = .ok (.ifCond .ge 21, 3) := by decide +kernel
theorem dX11_times_35 : decode cX11_times 35 = .ok (.iload 4, 2) := by decide +kernel
theorem dX11_times_37 : decode cX11_times 37 = .ok (.bipush 108, 2) := by decide +kernel
theorem dX11_times_39 : decode cX11_times 39 = .ok (.if_icmp .ne 18, 3) := by decide +kernel
theorem dX11_times_42 : decode cX11_times 42 = .ok (.ldc2_w 84, 3) := by decide +kernel
theorem dX11_times_45 : decode cX11_times 45 = .ok (.lload 7, 2) := by decide +kernel
theorem dX11_times_47 : decode cX11_times 47 = .ok (.lmul, 1) := by decide +kernel
theorem dX11_times_48 : decode cX11_times 48 = .ok (.lload_n 2, 1) := by decide +kernel
theorem dX11_times_49 : decode cX11_times 49 = .ok (.lcmp, 1) := by decide +kernel
theorem dX11_times_50 : decode cX11_times 50 = .ok (.ifCond .le 7, 3) := by decide +kernel
theorem dX11_times_53 : decode cX11_times 53 = .ok (.iconst 1, 1) := by decide +kernel
theorem dX11_times_54 : decode cX11_times 54 = .ok (.goto 4, 3) := by decide +kernel
theorem dX11_times_57 : decode cX11_times 57 = .ok (.iconst 0, 1) := by decide +kernel
theorem dX11_times_58 : decode cX11_times 58 = .ok (.istore 9, 2) := by decide +kernel
theorem dX11_times_60 : decode cX11_times 60 = .ok (.iload 9, 2) := by decide +kernel
theorem dX11_times_62 : decode cX11_times 62 = .ok (.ifCond .ne 43, 3) := by decide +kernel
theorem dX11_times_65 : decode cX11_times 65 = .ok (.iload 4, 2) := by decide +kernel
theorem dX11_times_67 : decode cX11_times 67 = .ok (.bipush 101, 2) := by decide +kernel
theorem dX11_times_69 : decode cX11_times 69 = .ok (.if_icmp .ne 40, 3) := by decide +kernel
theorem dX11_times_72 : decode cX11_times 72 = .ok (.ldc2_w 84, 3) := by decide +kernel
theorem dX11_times_75 : decode cX11_times 75 = .ok (.lload 7, 2) := by decide +kernel
theorem dX11_times_77 : decode cX11_times 77 = .ok (.lmul, 1) := by decide +kernel
theorem dX11_times_78 : decode cX11_times 78 = .ok (.lload_n 2, 1) := by decide +kernel
theorem dX11_times_79 : decode cX11_times 79 = .ok (.lcmp, 1) := by decide +kernel
theorem dX11_times_80 : decode cX11_times 80 = .ok (.ifCond .gt 25, 3) := by decide +kernel
theorem dX11_times_83 : decode cX11_times 83 = .ok (.ldc2_w 84, 3) := by decide +kernel
theorem dX11_times_86 : decode cX11_times 86 = .ok (.lload 7, 2) := by decide +kernel
theorem dX11_times_88 : decode cX11_times 88 = .ok (.lmul, 1) := by decide +kernel
theorem dX11_times_89 : decode cX11_times 89 = .ok (.lload_n 2, 1) := by decide +kernel
theorem dX11_times_90 : decode cX11_times 90 = .ok (.lcmp, 1) := by decide +kernel
theorem dX11_times_91 : decode cX11_times 91 = .ok (.ifCond .ne 18, 3) := by decide +kernel
theorem dX11_times_94 : decode cX11_times 94 = .ok (.lload 5, 2) := by decide +kernel
theorem dX11_times_96 : decode cX11_times 96 = .ok (.ldc2_w 84, 3) := by decide +kernel
theorem dX11_times_99 : decode cX11_times 99 = .ok (.lrem, 1) := by decide +kernel
theorem dX11_times_100 : decode cX11_times 100 = .ok (.lconst 1, 1) := by decide +kernel
theorem dX11_times_101 : decode cX11_times 101 = .ok (.lcmp, 1) := by decide +kernel
theorem dX11_times_102 : decode cX11_times 102 = .ok (.ifCond .ne 7, 3) := by decide +kernel
theorem dX11_times_105 : decode cX11_times 105 = .ok (.iconst 1, 1) := by decide +kernel
theorem dX11_times_106 : decode cX11_times 106 = .ok (.goto 4, 3) := by decide +kernel
theorem dX11_times_109 : decode cX11_times 109 = .ok (.iconst 0, 1) := by decide +kernel
theorem dX11_times_110 : decode cX11_times 110 = .ok (.istore 9, 2) := by decide +kernel
theorem dX11_times_112 : decode cX11_times 112 = .ok (.lload 7, 2) := by decide +kernel
theorem dX11_times_114 : decode cX11_times 114 = .ok (.lconst 0, 1) := by decide +kernel
theorem dX11_times_115 : decode cX11_times 115 = .ok (.lcmp, 1) := by decide +kernel
theorem dX11_times_116 : decode cX11_times 116 = .ok (.ifCond .le 15, 3) := by decide +kernel
theorem dX11_times_119 : decode cX11_times 119 = .ok (.iload 9, 2) := by decide +kernel
theorem dX11_times_121 : decode cX11_times 121 = .ok (.ifCond .eq 10, 3) := by decide +kernel
theorem dX11_times_124 : decode cX11_times 124 = .ok (.lload 5, 2) := by decide +kernel
theorem dX11_times_126 : decode cX11_times 126 = .ok (.lconst 1, 1) := by decide +kernel
theorem dX11_times_127 : decode cX11_times 127 = .ok (.ladd, 1) := by decide +kernel
theorem dX11_times_128 : decode cX11_times 128 = .ok (.goto 5, 3) := by decide +kernel
theorem dX11_times_131 : decode cX11_times 131 = .ok (.lload 5, 2) := by decide +kernel
theorem dX11_times_133 : decode cX11_times 133 = .ok (.lreturn, 1) := by decide +kernel
theorem dX11_round_0 : decode cX11_round 0 = .ok (.iload_n 2, 1) := by decide +kernel
theorem dX11_round_1 : decode cX11_round 1 = .ok (.invokestatic 86, 3) := by decide +kernel
theorem dX11_round_4 : decode cX11_round 4 = .ok (.lload_n 0, 1) := by decide +kernel
theorem dX11_round_5 : decode cX11_round 5 = .ok (.iload_n 2, 1) := by decide +kernel
theorem dX11_round_6 : decode cX11_round 6 = .ok (.invokestatic 86, 3) := by decide +kernel
theorem dX11_round_9 : decode cX11_round 9 = .ok (.iload_n 3, 1) := by decide +kernel
theorem dX11_round_10 : decode cX11_round 10 = .ok (.invokestatic 90, 3) := by decide +kernel
theorem dX11_round_13 : decode cX11_round 13 = .ok (.lmul, 1) := by decide +kernel
theorem dX11_round_14 : decode cX11_round 14 = .ok (.lreturn, 1) := by decide +kernel
theorem dX11_becomes_0 : decode cX11_becomes 0 = .ok (.lload_n 2, 1) := by decide +kernel
theorem dX11_becomes_1 : decode cX11_becomes 1 = .ok (.aload_n 0, 1) := by decide +kernel
theorem dX11_becomes_2 : decode cX11_becomes 2 = .ok (.getfield 9, 3) := by decide +kernel
theorem dX11_becomes_5 : decode cX11_becomes 5 = .ok (.iload_n 1, 1) := by decide +kernel
theorem dX11_becomes_6 : decode cX11_becomes 6 = .ok (.invokestatic 66, 3) := by decide +kernel
theorem dX11_becomes_9 : decode cX11_becomes 9 = .ok (.iconst 2, 1) := by decide +kernel
theorem dX11_becomes_10 : decode cX11_becomes 10 = .ok (.iadd, 1) := by decide +kernel
theorem dX11_becomes_11 : decode cX11_becomes 11 = .ok (.laload, 1) := by decide +kernel
theorem dX11_becomes_12 : decode cX11_becomes 12 = .ok (.l2i, 1) := by decide +kernel
theorem dX11_becomes_13 : decode cX11_becomes 13 = .ok (.aload_n 0, 1) := by decide +kernel
theorem dX11_becomes_14 : decode cX11_becomes 14 = .ok (.getfield 9, 3) := by decide +kernel
theorem dX11_becomes_17 : decode cX11_becomes 17 = .ok (.iload_n 1, 1) := by decide +kernel
theorem dX11_becomes_18 : decode cX11_becomes 18 = .ok (.invokestatic 66, 3) := by decide +kernel
theorem dX11_becomes_21 : decode cX11_becomes 21 = .ok (.iconst 3, 1) := by decide +kernel
theorem dX11_becomes_22 : decode cX11_becomes 22 = .ok (.iadd, 1) := by decide +kernel
theorem dX11_becomes_23 : decode cX11_becomes 23 = .ok (.laload, 1) := by decide +kernel
theorem dX11_becomes_24 : decode cX11_becomes 24 = .ok (.l2i, 1) := by decide +kernel
theorem dX11_becomes_25 : decode cX11_becomes 25 = .ok (.invokestatic 94, 3) := by decide +kernel
theorem dX11_becomes_28 : decode cX11_becomes 28 = .ok (.lstore 4, 2) := by decide +kernel
theorem dX11_becomes_30 : decode cX11_becomes 30 = .ok (.aload_n 0, 1) := by decide +kernel
theorem dX11_becomes_31 : decode cX11_becomes 31 = .ok (.getfield 9, 3) := by decide +kernel
theorem dX11_becomes_34 : decode cX11_becomes 34 = .ok (.iconst 3, 1) := by decide +kernel
theorem dX11_becomes_35 : decode cX11_becomes 35 = .ok (.dup2, 1) := by decide +kernel
theorem dX11_becomes_36 : decode cX11_becomes 36 = .ok (.laload, 1) := by decide +kernel
theorem dX11_becomes_37 : decode cX11_becomes 37 = .ok (.lload 4, 2) := by decide +kernel
theorem dX11_becomes_39 : decode cX11_becomes 39 = .ok (.lload_n 2, 1) := by decide +kernel
theorem dX11_becomes_40 : decode cX11_becomes 40 = .ok (.lsub, 1) := by decide +kernel
theorem dX11_becomes_41 : decode cX11_becomes 41 = .ok (.ladd, 1) := by decide +kernel
theorem dX11_becomes_42 : decode cX11_becomes 42 = .ok (.lastore, 1) := by decide +kernel
theorem dX11_becomes_43 : decode cX11_becomes 43 = .ok (.aload_n 0, 1) := by decide +kernel
theorem dX11_becomes_44 : decode cX11_becomes 44 = .ok (.getfield 9, 3) := by decide +kernel
theorem dX11_becomes_47 : decode cX11_becomes 47 = .ok (.iconst 2, 1) := by decide +kernel
theorem dX11_becomes_48 : decode cX11_becomes 48 = .ok (.dup2, 1) := by decide +kernel
theorem dX11_becomes_49 : decode cX11_becomes 49 = .ok (.laload, 1) := by decide +kernel
theorem dX11_becomes_50 : decode cX11_becomes 50 = .ok (.lload 4, 2) := by decide +kernel
theorem dX11_becomes_52 : decode cX11_becomes 52 = .ok (.ldc2_w 98, 3) := by decide +kernel
theorem dX11_becomes_55 : decode cX11_becomes 55 = .ok (.lcmp, 1) := by decide +kernel
theorem dX11_becomes_56 : decode cX11_becomes 56 = .ok (.ifCond .lt 7, 3) := by decide +kernel
theorem dX11_becomes_59 : decode cX11_becomes 59 = .ok (.lconst 1, 1) := by decide +kernel
theorem dX11_becomes_60 : decode cX11_becomes 60 = .ok (.goto 4, 3) := by decide +kernel
theorem dX11_becomes_63 : decode cX11_becomes 63 = .ok (.lconst 0, 1) := by decide +kernel
theorem dX11_becomes_64 : decode cX11_becomes 64 = .ok (.ladd, 1) := by decide +kernel
theorem dX11_becomes_65 : decode cX11_becomes 65 = .ok (.lastore, 1) := by decide +kernel
theorem dX11_becomes_66 : decode cX11_becomes 66 = .ok (.aload_n 0, 1) := by decide +kernel
theorem dX11_becomes_67 : decode cX11_becomes 67 = .ok (.getfield 9, 3) := by decide +kernel
theorem dX11_becomes_70 : decode cX11_becomes 70 = .ok (.iload_n 1, 1) := by decide +kernel
theorem dX11_becomes_71 : decode cX11_becomes 71 = .ok (.invokestatic 66, 3) := by decide +kernel
theorem dX11_becomes_74 : decode cX11_becomes 74 = .ok (.iconst 1, 1) := by decide +kernel
theorem dX11_becomes_75 : decode cX11_becomes 75 = .ok (.iadd, 1) := by decide +kernel
theorem dX11_becomes_76 : decode cX11_becomes 76 = .ok (.lload 4, 2) := by decide +kernel
theorem dX11_becomes_78 : decode cX11_becomes 78 = .ok (.ldc2_w 98, 3) := by decide +kernel
theorem dX11_becomes_81 : decode cX11_becomes 81 = .ok (.lcmp, 1) := by decide +kernel
theorem dX11_becomes_82 : decode cX11_becomes 82 = .ok (.ifCond .lt 12, 3) := by decide +kernel
theorem dX11_becomes_85 : decode cX11_becomes 85 = .ok (.lload 4, 2) := by decide +kernel
theorem dX11_becomes_87 : decode cX11_becomes 87 = .ok (.ldc2_w 98, 3) := by decide +kernel
theorem dX11_becomes_90 : decode cX11_becomes 90 = .ok (.lsub, 1) := by decide +kernel
theorem dX11_becomes_91 : decode cX11_becomes 91 = .ok (.goto 5, 3) := by decide +kernel
theorem dX11_becomes_94 : decode cX11_becomes 94 = .ok (.lload 4, 2) := by decide +kernel
theorem dX11_becomes_96 : decode cX11_becomes 96 = .ok (.lastore, 1) := by decide +kernel
theorem dX11_becomes_97 : decode cX11_becomes 97 = .ok (.return_, 1) := by decide +kernel
theorem dX11_sum_0 : decode cX11_sum 0 = .ok (.lconst 0, 1) := by decide +kernel
theorem dX11_sum_1 : decode cX11_sum 1 = .ok (.lstore_n 1, 1) := by decide +kernel
theorem dX11_sum_2 : decode cX11_sum 2 = .ok (.iconst 0, 1) := by decide +kernel
theorem dX11_sum_3 : decode cX11_sum 3 = .ok (.istore_n 3, 1) := by decide +kernel
theorem dX11_sum_4 : decode cX11_sum 4 = .ok (.iload_n 3, 1) := by decide +kernel
theorem dX11_sum_5 : decode cX11_sum 5 = .ok (.aload_n 0, 1) := by decide +kernel
theorem dX11_sum_6 : decode cX11_sum 6 = .ok (.invokevirtual 62, 3) := by decide +kernel
theorem dX11_sum_9 : decode cX11_sum 9 = .ok (.if_icmp .ge 23, 3) := by decide +kernel
theorem dX11_sum_12 : decode cX11_sum 12 = .ok (.lload_n 1, 1) := by decide +kernel
theorem dX11_sum_13 : decode cX11_sum 13 = .ok (.aload_n 0, 1) := by decide +kernel
theorem dX11_sum_14 : decode cX11_sum 14 = .ok (.getfield 9, 3) := by decide +kernel
theorem dX11_sum_17 : decode cX11_sum 17 = .ok (.iload_n 3, 1) := by decide +kernel
theorem dX11_sum_18 : decode cX11_sum 18 = .ok (.invokestatic 66, 3) := by decide +kernel
theorem dX11_sum_21 : decode cX11_sum 21 = .ok (.iconst 1, 1) := by decide +kernel
theorem dX11_sum_22 : decode cX11_sum 22 = .ok (.iadd, 1) := by decide +kernel
theorem dX11_sum_23 : decode cX11_sum 23 = .ok (.laload, 1) := by decide +kernel
theorem dX11_sum_24 : decode cX11_sum 24 = .ok (.ladd, 1) := by decide +kernel
theorem dX11_sum_25 : decode cX11_sum 25 = .ok (.lstore_n 1, 1) := by decide +kernel
theorem dX11_sum_26 : decode cX11_sum 26 = .ok (.iinc 3 1, 3) := by decide +kernel
theorem dX11_sum_29 : decode cX11_sum 29 = .ok (.goto (-25), 3) := by decide +kernel
theorem dX11_sum_32 : decode cX11_sum 32 = .ok (.lload_n 1, 1) := by decide +kernel
theorem dX11_sum_33 : decode cX11_sum 33 = .ok (.lreturn, 1) := by decide +kernel
theorem dX11_rest_0 : decode cX11_rest 0 = .ok (.aload_n 0, 1) := by decide +kernel
theorem dX11_rest_1 : decode cX11_rest 1 = .ok (.getfield 9, 3) := by decide +kernel
theorem dX11_rest_4 : decode cX11_rest 4 = .ok (.iload_n 1, 1) := by decide +kernel
theorem dX11_rest_5 : decode cX11_rest 5 = .ok (.invokestatic 66, 3) := by decide +kernel
theorem dX11_rest_8 : decode cX11_rest 8 = .ok (.iconst 1, 1) := by decide +kernel
theorem dX11_rest_9 : decode cX11_rest 9 = .ok (.iadd, 1) := by decide +kernel
theorem dX11_rest_10 : decode cX11_rest 10 = .ok (.laload, 1) := by decide +kernel
theorem dX11_rest_11 : decode cX11_rest 11 = .ok (.iload_n 2, 1) := by decide +kernel
theorem dX11_rest_12 : decode cX11_rest 12 = .ok (.invokestatic 86, 3) := by decide +kernel
theorem dX11_rest_15 : decode cX11_rest 15 = .ok (.lrem, 1) := by decide +kernel
theorem dX11_rest_16 : decode cX11_rest 16 = .ok (.lreturn, 1) := by decide +kernel
theorem dX11_chooses_0 : decode cX11_chooses 0 = .ok (.lconst 0, 1) := by decide +kernel
theorem dX11_chooses_1 : decode cX11_chooses 1 = .ok (.lstore_n 2, 1) := by decide +kernel
theorem dX11_chooses_2 : decode cX11_chooses 2 = .ok (.iconst 0, 1) := by decide +kernel
theorem dX11_chooses_3 : decode cX11_chooses 3 = .ok (.istore 4, 2) := by decide +kernel
theorem dX11_chooses_5 : decode cX11_chooses 5 = .ok (.iload 4, 2) := by decide +kernel
theorem dX11_chooses_7 : decode cX11_chooses 7 = .ok (.aload_n 0, 1) := by decide +kernel
theorem dX11_chooses_8 : decode cX11_chooses 8 = .ok (.invokevirtual 62, 3) := by decide +kernel
theorem dX11_chooses_11 : decode cX11_chooses 11 = .ok (.if_icmp .ge 40, 3) := by decide +kernel
theorem dX11_chooses_14 : decode cX11_chooses 14 = .ok (.aload_n 0, 1) := by decide +kernel
theorem dX11_chooses_15 : decode cX11_chooses 15 = .ok (.getfield 33, 3) := by decide +kernel
theorem dX11_chooses_18 : decode cX11_chooses 18 = .ok (.iload 4, 2) := by decide +kernel
theorem dX11_chooses_20 : decode cX11_chooses 20 = .ok (.iconst 0, 1) := by decide +kernel
theorem dX11_chooses_21 : decode cX11_chooses 21 = .ok (.bastore, 1) := by decide +kernel
theorem dX11_chooses_22 : decode cX11_chooses 22 = .ok (.lload_n 2, 1) := by decide +kernel
theorem dX11_chooses_23 : decode cX11_chooses 23 = .ok (.aload_n 0, 1) := by decide +kernel
theorem dX11_chooses_24 : decode cX11_chooses 24 = .ok (.getfield 9, 3) := by decide +kernel
theorem dX11_chooses_27 : decode cX11_chooses 27 = .ok (.iload 4, 2) := by decide +kernel
theorem dX11_chooses_29 : decode cX11_chooses 29 = .ok (.invokestatic 66, 3) := by decide +kernel
theorem dX11_chooses_32 : decode cX11_chooses 32 = .ok (.iconst 1, 1) := by decide +kernel
theorem dX11_chooses_33 : decode cX11_chooses 33 = .ok (.iadd, 1) := by decide +kernel
theorem dX11_chooses_34 : decode cX11_chooses 34 = .ok (.laload, 1) := by decide +kernel
theorem dX11_chooses_35 : decode cX11_chooses 35 = .ok (.aload_n 0, 1) := by decide +kernel
theorem dX11_chooses_36 : decode cX11_chooses 36 = .ok (.iload 4, 2) := by decide +kernel
theorem dX11_chooses_38 : decode cX11_chooses 38 = .ok (.iload_n 1, 1) := by decide +kernel
theorem dX11_chooses_39 : decode cX11_chooses 39 = .ok (.invokevirtual 100, 3) := by decide +kernel
theorem dX11_chooses_42 : decode cX11_chooses 42 = .ok (.lsub, 1) := by decide +kernel
theorem dX11_chooses_43 : decode cX11_chooses 43 = .ok (.ladd, 1) := by decide +kernel
theorem dX11_chooses_44 : decode cX11_chooses 44 = .ok (.lstore_n 2, 1) := by decide +kernel
theorem dX11_chooses_45 : decode cX11_chooses 45 = .ok (.iinc 4 1, 3) := by decide +kernel
theorem dX11_chooses_48 : decode cX11_chooses 48 = .ok (.goto (-43), 3) := by decide +kernel
theorem dX11_chooses_51 : decode cX11_chooses 51 = .ok (.aload_n 0, 1) := by decide +kernel
theorem dX11_chooses_52 : decode cX11_chooses 52 = .ok (.invokevirtual 104, 3) := by decide +kernel
theorem dX11_chooses_55 : decode cX11_chooses 55 = .ok (.iload_n 1, 1) := by decide +kernel
theorem dX11_chooses_56 : decode cX11_chooses 56 = .ok (.bipush 104, 2) := by decide +kernel
theorem dX11_chooses_58 : decode cX11_chooses 58 = .ok (.invokestatic 94, 3) := by decide +kernel
theorem dX11_chooses_61 : decode cX11_chooses 61 = .ok (.lload_n 2, 1) := by decide +kernel
theorem dX11_chooses_62 : decode cX11_chooses 62 = .ok (.lsub, 1) := by decide +kernel
theorem dX11_chooses_63 : decode cX11_chooses 63 = .ok (.iload_n 1, 1) := by decide +kernel
theorem dX11_chooses_64 : decode cX11_chooses 64 = .ok (.invokestatic 86, 3) := by decide +kernel
theorem dX11_chooses_67 : decode cX11_chooses 67 = .ok (.ldiv, 1) := by decide +kernel
theorem dX11_chooses_68 : decode cX11_chooses 68 = .ok (.l2i, 1) := by decide +kernel
theorem dX11_chooses_69 : decode cX11_chooses 69 = .ok (.istore 4, 2) := by decide +kernel
theorem dX11_chooses_71 : decode cX11_chooses 71 = .ok (.iconst 0, 1) := by decide +kernel
theorem dX11_chooses_72 : decode cX11_chooses 72 = .ok (.istore 5, 2) := by decide +kernel
theorem dX11_chooses_74 : decode cX11_chooses 74 = .ok (.iload 5, 2) := by decide +kernel
theorem dX11_chooses_76 : decode cX11_chooses 76 = .ok (.iload 4, 2) := by decide +kernel
theorem dX11_chooses_78 : decode cX11_chooses 78 = .ok (.if_icmp .ge 81, 3) := by decide +kernel
theorem dX11_chooses_81 : decode cX11_chooses 81 = .ok (.iconst (-1), 1) := by decide +kernel
theorem dX11_chooses_82 : decode cX11_chooses 82 = .ok (.istore 6, 2) := by decide +kernel
theorem dX11_chooses_84 : decode cX11_chooses 84 = .ok (.iconst 0, 1) := by decide +kernel
theorem dX11_chooses_85 : decode cX11_chooses 85 = .ok (.istore 7, 2) := by decide +kernel
theorem dX11_chooses_87 : decode cX11_chooses 87 = .ok (.iload 7, 2) := by decide +kernel
theorem dX11_chooses_89 : decode cX11_chooses 89 = .ok (.aload_n 0, 1) := by decide +kernel
theorem dX11_chooses_90 : decode cX11_chooses 90 = .ok (.invokevirtual 62, 3) := by decide +kernel
theorem dX11_chooses_93 : decode cX11_chooses 93 = .ok (.if_icmp .ge 52, 3) := by decide +kernel
theorem dX11_chooses_96 : decode cX11_chooses 96 = .ok (.aload_n 0, 1) := by decide +kernel
theorem dX11_chooses_97 : decode cX11_chooses 97 = .ok (.getfield 33, 3) := by decide +kernel
theorem dX11_chooses_100 : decode cX11_chooses 100 = .ok (.iload 7, 2) := by decide +kernel
theorem dX11_chooses_102 : decode cX11_chooses 102 = .ok (.baload, 1) := by decide +kernel
theorem dX11_chooses_103 : decode cX11_chooses 103 = .ok (.ifCond .ne 32, 3) := by decide +kernel
theorem dX11_chooses_106 : decode cX11_chooses 106 = .ok (.iload 6, 2) := by decide +kernel
theorem dX11_chooses_108 : decode cX11_chooses 108 = .ok (.iconst (-1), 1) := by decide +kernel
theorem dX11_chooses_109 : decode cX11_chooses 109 = .ok (.if_icmp .eq 21, 3) := by decide +kernel
theorem dX11_chooses_112 : decode cX11_chooses 112 = .ok (.aload_n 0, 1) := by decide +kernel
theorem dX11_chooses_113 : decode cX11_chooses 113 = .ok (.iload 7, 2) := by decide +kernel
theorem dX11_chooses_115 : decode cX11_chooses 115 = .ok (.iload_n 1, 1) := by decide +kernel
theorem dX11_chooses_116 : decode cX11_chooses 116 = .ok (.invokevirtual 100, 3) := by decide +kernel
theorem dX11_chooses_119 : decode cX11_chooses 119 = .ok (.aload_n 0, 1) := by decide +kernel
theorem dX11_chooses_120 : decode cX11_chooses 120 = .ok (.iload 6, 2) := by decide +kernel
theorem dX11_chooses_122 : decode cX11_chooses 122 = .ok (.iload_n 1, 1) := by decide +kernel
theorem dX11_chooses_123 : decode cX11_chooses 123 = .ok (.invokevirtual 100, 3) := by decide +kernel
theorem dX11_chooses_126 : decode cX11_chooses 126 = .ok (.lcmp, 1) := by decide +kernel
theorem dX11_chooses_127 : decode cX11_chooses 127 = .ok (.ifCond .le 8, 3) := by decide +kernel
theorem dX11_chooses_130 : decode cX11_chooses 130 = .ok (.iload 7, 2) := by decide +kernel
theorem dX11_chooses_132 : decode cX11_chooses 132 = .ok (.goto 5, 3) := by decide +kernel
theorem dX11_chooses_135 : decode cX11_chooses 135 = .ok (.iload 6, 2) := by decide +kernel
theorem dX11_chooses_137 : decode cX11_chooses 137 = .ok (.istore 6, 2) := by decide +kernel
theorem dX11_chooses_139 : decode cX11_chooses 139 = .ok (.iinc 7 1, 3) := by decide +kernel
theorem dX11_chooses_142 : decode cX11_chooses 142 = .ok (.goto (-55), 3) := by decide +kernel
theorem dX11_chooses_145 : decode cX11_chooses 145 = .ok (.aload_n 0, 1) := by decide +kernel
theorem dX11_chooses_146 : decode cX11_chooses 146 = .ok (.getfield 33, 3) := by decide +kernel
theorem dX11_chooses_149 : decode cX11_chooses 149 = .ok (.iload 6, 2) := by decide +kernel
theorem dX11_chooses_151 : decode cX11_chooses 151 = .ok (.iconst 1, 1) := by decide +kernel
theorem dX11_chooses_152 : decode cX11_chooses 152 = .ok (.bastore, 1) := by decide +kernel
theorem dX11_chooses_153 : decode cX11_chooses 153 = .ok (.iinc 5 1, 3) := by decide +kernel
theorem dX11_chooses_156 : decode cX11_chooses 156 = .ok (.goto (-82), 3) := by decide +kernel
theorem dX11_chooses_159 : decode cX11_chooses 159 = .ok (.iload 4, 2) := by decide +kernel
theorem dX11_chooses_161 : decode cX11_chooses 161 = .ok (.ireturn, 1) := by decide +kernel
theorem dX11_takesIn_0 : decode cX11_takesIn 0 = .ok (.aload_n 0, 1) := by decide +kernel
theorem dX11_takesIn_1 : decode cX11_takesIn 1 = .ok (.invokevirtual 62, 3) := by decide +kernel
theorem dX11_takesIn_4 : decode cX11_takesIn 4 = .ok (.invokestatic 66, 3) := by decide +kernel
theorem dX11_takesIn_7 : decode cX11_takesIn 7 = .ok (.istore 5, 2) := by decide +kernel
theorem dX11_takesIn_9 : decode cX11_takesIn 9 = .ok (.aload_n 0, 1) := by decide +kernel
theorem dX11_takesIn_10 : decode cX11_takesIn 10 = .ok (.getfield 9, 3) := by decide +kernel
theorem dX11_takesIn_13 : decode cX11_takesIn 13 = .ok (.iload 5, 2) := by decide +kernel
theorem dX11_takesIn_15 : decode cX11_takesIn 15 = .ok (.aload_n 0, 1) := by decide +kernel
theorem dX11_takesIn_16 : decode cX11_takesIn 16 = .ok (.getfield 9, 3) := by decide +kernel
theorem dX11_takesIn_19 : decode cX11_takesIn 19 = .ok (.iconst 1, 1) := by decide +kernel
theorem dX11_takesIn_20 : decode cX11_takesIn 20 = .ok (.laload, 1) := by decide +kernel
theorem dX11_takesIn_21 : decode cX11_takesIn 21 = .ok (.lastore, 1) := by decide +kernel
theorem dX11_takesIn_22 : decode cX11_takesIn 22 = .ok (.aload_n 0, 1) := by decide +kernel
theorem dX11_takesIn_23 : decode cX11_takesIn 23 = .ok (.getfield 9, 3) := by decide +kernel
theorem dX11_takesIn_26 : decode cX11_takesIn 26 = .ok (.iload 5, 2) := by decide +kernel
theorem dX11_takesIn_28 : decode cX11_takesIn 28 = .ok (.iconst 1, 1) := by decide +kernel
theorem dX11_takesIn_29 : decode cX11_takesIn 29 = .ok (.iadd, 1) := by decide +kernel
theorem dX11_takesIn_30 : decode cX11_takesIn 30 = .ok (.lload_n 1, 1) := by decide +kernel
theorem dX11_takesIn_31 : decode cX11_takesIn 31 = .ok (.lastore, 1) := by decide +kernel
theorem dX11_takesIn_32 : decode cX11_takesIn 32 = .ok (.aload_n 0, 1) := by decide +kernel
theorem dX11_takesIn_33 : decode cX11_takesIn 33 = .ok (.getfield 9, 3) := by decide +kernel
theorem dX11_takesIn_36 : decode cX11_takesIn 36 = .ok (.iload 5, 2) := by decide +kernel
theorem dX11_takesIn_38 : decode cX11_takesIn 38 = .ok (.iconst 2, 1) := by decide +kernel
theorem dX11_takesIn_39 : decode cX11_takesIn 39 = .ok (.iadd, 1) := by decide +kernel
theorem dX11_takesIn_40 : decode cX11_takesIn 40 = .ok (.iload_n 3, 1) := by decide +kernel
theorem dX11_takesIn_41 : decode cX11_takesIn 41 = .ok (.i2l, 1) := by decide +kernel
theorem dX11_takesIn_42 : decode cX11_takesIn 42 = .ok (.lastore, 1) := by decide +kernel
theorem dX11_takesIn_43 : decode cX11_takesIn 43 = .ok (.aload_n 0, 1) := by decide +kernel
theorem dX11_takesIn_44 : decode cX11_takesIn 44 = .ok (.getfield 9, 3) := by decide +kernel
theorem dX11_takesIn_47 : decode cX11_takesIn 47 = .ok (.iload 5, 2) := by decide +kernel
theorem dX11_takesIn_49 : decode cX11_takesIn 49 = .ok (.iconst 3, 1) := by decide +kernel
theorem dX11_takesIn_50 : decode cX11_takesIn 50 = .ok (.iadd, 1) := by decide +kernel
theorem dX11_takesIn_51 : decode cX11_takesIn 51 = .ok (.iload 4, 2) := by decide +kernel
theorem dX11_takesIn_53 : decode cX11_takesIn 53 = .ok (.i2l, 1) := by decide +kernel
theorem dX11_takesIn_54 : decode cX11_takesIn 54 = .ok (.lastore, 1) := by decide +kernel
theorem dX11_takesIn_55 : decode cX11_takesIn 55 = .ok (.aload_n 0, 1) := by decide +kernel
theorem dX11_takesIn_56 : decode cX11_takesIn 56 = .ok (.getfield 9, 3) := by decide +kernel
theorem dX11_takesIn_59 : decode cX11_takesIn 59 = .ok (.iconst 0, 1) := by decide +kernel
theorem dX11_takesIn_60 : decode cX11_takesIn 60 = .ok (.dup2, 1) := by decide +kernel
theorem dX11_takesIn_61 : decode cX11_takesIn 61 = .ok (.laload, 1) := by decide +kernel
theorem dX11_takesIn_62 : decode cX11_takesIn 62 = .ok (.lconst 1, 1) := by decide +kernel
theorem dX11_takesIn_63 : decode cX11_takesIn 63 = .ok (.ladd, 1) := by decide +kernel
theorem dX11_takesIn_64 : decode cX11_takesIn 64 = .ok (.lastore, 1) := by decide +kernel
theorem dX11_takesIn_65 : decode cX11_takesIn 65 = .ok (.aload_n 0, 1) := by decide +kernel
theorem dX11_takesIn_66 : decode cX11_takesIn 66 = .ok (.getfield 9, 3) := by decide +kernel
theorem dX11_takesIn_69 : decode cX11_takesIn 69 = .ok (.iconst 1, 1) := by decide +kernel
theorem dX11_takesIn_70 : decode cX11_takesIn 70 = .ok (.dup2, 1) := by decide +kernel
theorem dX11_takesIn_71 : decode cX11_takesIn 71 = .ok (.laload, 1) := by decide +kernel
theorem dX11_takesIn_72 : decode cX11_takesIn 72 = .ok (.lconst 1, 1) := by decide +kernel
theorem dX11_takesIn_73 : decode cX11_takesIn 73 = .ok (.ladd, 1) := by decide +kernel
theorem dX11_takesIn_74 : decode cX11_takesIn 74 = .ok (.lastore, 1) := by decide +kernel
theorem dX11_takesIn_75 : decode cX11_takesIn 75 = .ok (.aload_n 0, 1) := by decide +kernel
theorem dX11_takesIn_76 : decode cX11_takesIn 76 = .ok (.getfield 9, 3) := by decide +kernel
theorem dX11_takesIn_79 : decode cX11_takesIn 79 = .ok (.iload 5, 2) := by decide +kernel
theorem dX11_takesIn_81 : decode cX11_takesIn 81 = .ok (.laload, 1) := by decide +kernel
theorem dX11_takesIn_82 : decode cX11_takesIn 82 = .ok (.l2i, 1) := by decide +kernel
theorem dX11_takesIn_83 : decode cX11_takesIn 83 = .ok (.ireturn, 1) := by decide +kernel
theorem dX11_addIt_0 : decode cX11_addIt 0 = .ok (.iload_n 1, 1) := by decide +kernel
theorem dX11_addIt_1 : decode cX11_addIt 1 = .ok (.iload_n 2, 1) := by decide +kernel
theorem dX11_addIt_2 : decode cX11_addIt 2 = .ok (.invokestatic 108, 3) := by decide +kernel
theorem dX11_addIt_5 : decode cX11_addIt 5 = .ok (.ifCond .eq 18, 3) := by decide +kernel
theorem dX11_addIt_8 : decode cX11_addIt 8 = .ok (.iload_n 3, 1) := by decide +kernel
theorem dX11_addIt_9 : decode cX11_addIt 9 = .ok (.invokestatic 112, 3) := by decide +kernel
theorem dX11_addIt_12 : decode cX11_addIt 12 = .ok (.ifCond .eq 11, 3) := by decide +kernel
theorem dX11_addIt_15 : decode cX11_addIt 15 = .ok (.iload 4, 2) := by decide +kernel
theorem dX11_addIt_17 : decode cX11_addIt 17 = .ok (.invokestatic 116, 3) := by decide +kernel
theorem dX11_addIt_20 : decode cX11_addIt 20 = .ok (.ifCond .ne 9, 3) := by decide +kernel
theorem dX11_addIt_23 : decode cX11_addIt 23 = .ok (.aload_n 0, 1) := by decide +kernel
theorem dX11_addIt_24 : decode cX11_addIt 24 = .ok (.iconst 1, 1) := by decide +kernel
theorem dX11_addIt_25 : decode cX11_addIt 25 = .ok (.invokevirtual 119, 3) := by decide +kernel
theorem dX11_addIt_28 : decode cX11_addIt 28 = .ok (.ireturn, 1) := by decide +kernel
theorem dX11_addIt_29 : decode cX11_addIt 29 = .ok (.aload_n 0, 1) := by decide +kernel
theorem dX11_addIt_30 : decode cX11_addIt 30 = .ok (.invokevirtual 62, 3) := by decide +kernel
theorem dX11_addIt_33 : decode cX11_addIt 33 = .ok (.bipush 6, 2) := by decide +kernel
theorem dX11_addIt_35 : decode cX11_addIt 35 = .ok (.if_icmp .ne 9, 3) := by decide +kernel
theorem dX11_addIt_38 : decode cX11_addIt 38 = .ok (.aload_n 0, 1) := by decide +kernel
theorem dX11_addIt_39 : decode cX11_addIt 39 = .ok (.iconst 2, 1) := by decide +kernel
theorem dX11_addIt_40 : decode cX11_addIt 40 = .ok (.invokevirtual 119, 3) := by decide +kernel
theorem dX11_addIt_43 : decode cX11_addIt 43 = .ok (.ireturn, 1) := by decide +kernel
theorem dX11_addIt_44 : decode cX11_addIt 44 = .ok (.iload_n 1, 1) := by decide +kernel
theorem dX11_addIt_45 : decode cX11_addIt 45 = .ok (.iload_n 2, 1) := by decide +kernel
theorem dX11_addIt_46 : decode cX11_addIt 46 = .ok (.invokestatic 122, 3) := by decide +kernel
theorem dX11_addIt_49 : decode cX11_addIt 49 = .ok (.iload_n 3, 1) := by decide +kernel
theorem dX11_addIt_50 : decode cX11_addIt 50 = .ok (.invokestatic 86, 3) := by decide +kernel
theorem dX11_addIt_53 : decode cX11_addIt 53 = .ok (.lrem, 1) := by decide +kernel
theorem dX11_addIt_54 : decode cX11_addIt 54 = .ok (.lconst 0, 1) := by decide +kernel
theorem dX11_addIt_55 : decode cX11_addIt 55 = .ok (.lcmp, 1) := by decide +kernel
theorem dX11_addIt_56 : decode cX11_addIt 56 = .ok (.ifCond .le 9, 3) := by decide +kernel
theorem dX11_addIt_59 : decode cX11_addIt 59 = .ok (.aload_n 0, 1) := by decide +kernel
theorem dX11_addIt_60 : decode cX11_addIt 60 = .ok (.iconst 3, 1) := by decide +kernel
theorem dX11_addIt_61 : decode cX11_addIt 61 = .ok (.invokevirtual 119, 3) := by decide +kernel
theorem dX11_addIt_64 : decode cX11_addIt 64 = .ok (.ireturn, 1) := by decide +kernel
theorem dX11_addIt_65 : decode cX11_addIt 65 = .ok (.aload_n 0, 1) := by decide +kernel
theorem dX11_addIt_66 : decode cX11_addIt 66 = .ok (.iload_n 1, 1) := by decide +kernel
theorem dX11_addIt_67 : decode cX11_addIt 67 = .ok (.iload_n 2, 1) := by decide +kernel
theorem dX11_addIt_68 : decode cX11_addIt 68 = .ok (.invokestatic 122, 3) := by decide +kernel
theorem dX11_addIt_71 : decode cX11_addIt 71 = .ok (.iload_n 3, 1) := by decide +kernel
theorem dX11_addIt_72 : decode cX11_addIt 72 = .ok (.iload 4, 2) := by decide +kernel
theorem dX11_addIt_74 : decode cX11_addIt 74 = .ok (.invokevirtual 125, 3) := by decide +kernel
theorem dX11_addIt_77 : decode cX11_addIt 77 = .ok (.ireturn, 1) := by decide +kernel
theorem dX11_addNumber_0 : decode cX11_addNumber 0 = .ok (.aload_n 0, 1) := by decide +kernel
theorem dX11_addNumber_1 : decode cX11_addNumber 1 = .ok (.invokevirtual 129, 3) := by decide +kernel
theorem dX11_addNumber_4 : decode cX11_addNumber 4 = .ok (.aload_n 0, 1) := by decide +kernel
theorem dX11_addNumber_5 : decode cX11_addNumber 5 = .ok (.iload_n 1, 1) := by decide +kernel
theorem dX11_addNumber_6 : decode cX11_addNumber 6 = .ok (.iload_n 2, 1) := by decide +kernel
theorem dX11_addNumber_7 : decode cX11_addNumber 7 = .ok (.iload_n 3, 1) := by decide +kernel
theorem dX11_addNumber_8 : decode cX11_addNumber 8 = .ok (.iload 4, 2) := by decide +kernel
theorem dX11_addNumber_10 : decode cX11_addNumber 10 = .ok (.invokevirtual 132, 3) := by decide +kernel
theorem dX11_addNumber_13 : decode cX11_addNumber 13 = .ok (.istore 5, 2) := by decide +kernel
theorem dX11_addNumber_15 : decode cX11_addNumber 15 = .ok (.aload_n 0, 1) := by decide +kernel
theorem dX11_addNumber_16 : decode cX11_addNumber 16 = .ok (.invokevirtual 136, 3) := by decide +kernel
theorem dX11_addNumber_19 : decode cX11_addNumber 19 = .ok (.iload 5, 2) := by decide +kernel
theorem dX11_addNumber_21 : decode cX11_addNumber 21 = .ok (.ireturn, 1) := by decide +kernel
theorem dX11_overIt_0 : decode cX11_overIt 0 = .ok (.iload_n 1, 1) := by decide +kernel
theorem dX11_overIt_1 : decode cX11_overIt 1 = .ok (.i2l, 1) := by decide +kernel
theorem dX11_overIt_2 : decode cX11_overIt 2 = .ok (.lconst 0, 1) := by decide +kernel
theorem dX11_overIt_3 : decode cX11_overIt 3 = .ok (.ldc2_w 78, 3) := by decide +kernel
theorem dX11_overIt_6 : decode cX11_overIt 6 = .ok (.invokestatic 72, 3) := by decide +kernel
theorem dX11_overIt_9 : decode cX11_overIt 9 = .ok (.ifCond .eq 30, 3) := by decide +kernel
theorem dX11_overIt_12 : decode cX11_overIt 12 = .ok (.iload_n 2, 1) := by decide +kernel
theorem dX11_overIt_13 : decode cX11_overIt 13 = .ok (.i2l, 1) := by decide +kernel
theorem dX11_overIt_14 : decode cX11_overIt 14 = .ok (.lconst 1, 1) := by decide +kernel
theorem dX11_overIt_15 : decode cX11_overIt 15 = .ok (.ldc2_w 139, 3) := by decide +kernel
theorem dX11_overIt_18 : decode cX11_overIt 18 = .ok (.invokestatic 72, 3) := by decide +kernel
theorem dX11_overIt_21 : decode cX11_overIt 21 = .ok (.ifCond .eq 18, 3) := by decide +kernel
theorem dX11_overIt_24 : decode cX11_overIt 24 = .ok (.iload_n 3, 1) := by decide +kernel
theorem dX11_overIt_25 : decode cX11_overIt 25 = .ok (.invokestatic 112, 3) := by decide +kernel
theorem dX11_overIt_28 : decode cX11_overIt 28 = .ok (.ifCond .eq 11, 3) := by decide +kernel
theorem dX11_overIt_31 : decode cX11_overIt 31 = .ok (.iload 4, 2) := by decide +kernel
theorem dX11_overIt_33 : decode cX11_overIt 33 = .ok (.invokestatic 116, 3) := by decide +kernel
theorem dX11_overIt_36 : decode cX11_overIt 36 = .ok (.ifCond .ne 9, 3) := by decide +kernel
theorem dX11_overIt_39 : decode cX11_overIt 39 = .ok (.aload_n 0, 1) := by decide +kernel
theorem dX11_overIt_40 : decode cX11_overIt 40 = .ok (.iconst 1, 1) := by decide +kernel
theorem dX11_overIt_41 : decode cX11_overIt 41 = .ok (.invokevirtual 119, 3) := by decide +kernel
theorem dX11_overIt_44 : decode cX11_overIt 44 = .ok (.ireturn, 1) := by decide +kernel
theorem dX11_overIt_45 : decode cX11_overIt 45 = .ok (.aload_n 0, 1) := by decide +kernel
theorem dX11_overIt_46 : decode cX11_overIt 46 = .ok (.invokevirtual 62, 3) := by decide +kernel
theorem dX11_overIt_49 : decode cX11_overIt 49 = .ok (.bipush 6, 2) := by decide +kernel
theorem dX11_overIt_51 : decode cX11_overIt 51 = .ok (.if_icmp .ne 9, 3) := by decide +kernel
theorem dX11_overIt_54 : decode cX11_overIt 54 = .ok (.aload_n 0, 1) := by decide +kernel
theorem dX11_overIt_55 : decode cX11_overIt 55 = .ok (.iconst 2, 1) := by decide +kernel
theorem dX11_overIt_56 : decode cX11_overIt 56 = .ok (.invokevirtual 119, 3) := by decide +kernel
theorem dX11_overIt_59 : decode cX11_overIt 59 = .ok (.ireturn, 1) := by decide +kernel
theorem dX11_overIt_60 : decode cX11_overIt 60 = .ok (.aload_n 0, 1) := by decide +kernel
theorem dX11_overIt_61 : decode cX11_overIt 61 = .ok (.iload_n 3, 1) := by decide +kernel
theorem dX11_overIt_62 : decode cX11_overIt 62 = .ok (.invokestatic 86, 3) := by decide +kernel
theorem dX11_overIt_65 : decode cX11_overIt 65 = .ok (.ldc2_w 80, 3) := by decide +kernel
theorem dX11_overIt_68 : decode cX11_overIt 68 = .ok (.iload_n 1, 1) := by decide +kernel
theorem dX11_overIt_69 : decode cX11_overIt 69 = .ok (.i2l, 1) := by decide +kernel
theorem dX11_overIt_70 : decode cX11_overIt 70 = .ok (.lmul, 1) := by decide +kernel
theorem dX11_overIt_71 : decode cX11_overIt 71 = .ok (.iload_n 2, 1) := by decide +kernel
theorem dX11_overIt_72 : decode cX11_overIt 72 = .ok (.i2l, 1) := by decide +kernel
theorem dX11_overIt_73 : decode cX11_overIt 73 = .ok (.iload_n 3, 1) := by decide +kernel
theorem dX11_overIt_74 : decode cX11_overIt 74 = .ok (.invokestatic 86, 3) := by decide +kernel
theorem dX11_overIt_77 : decode cX11_overIt 77 = .ok (.lmul, 1) := by decide +kernel
theorem dX11_overIt_78 : decode cX11_overIt 78 = .ok (.iload 4, 2) := by decide +kernel
theorem dX11_overIt_80 : decode cX11_overIt 80 = .ok (.invokestatic 90, 3) := by decide +kernel
theorem dX11_overIt_83 : decode cX11_overIt 83 = .ok (.lmul, 1) := by decide +kernel
theorem dX11_overIt_84 : decode cX11_overIt 84 = .ok (.iload_n 3, 1) := by decide +kernel
theorem dX11_overIt_85 : decode cX11_overIt 85 = .ok (.iload 4, 2) := by decide +kernel
theorem dX11_overIt_87 : decode cX11_overIt 87 = .ok (.invokevirtual 125, 3) := by decide +kernel
theorem dX11_overIt_90 : decode cX11_overIt 90 = .ok (.ireturn, 1) := by decide +kernel
theorem dX11_addQuotient_0 : decode cX11_addQuotient 0 = .ok (.aload_n 0, 1) := by decide +kernel
theorem dX11_addQuotient_1 : decode cX11_addQuotient 1 = .ok (.invokevirtual 129, 3) := by decide +kernel
theorem dX11_addQuotient_4 : decode cX11_addQuotient 4 = .ok (.aload_n 0, 1) := by decide +kernel
theorem dX11_addQuotient_5 : decode cX11_addQuotient 5 = .ok (.iload_n 1, 1) := by decide +kernel
theorem dX11_addQuotient_6 : decode cX11_addQuotient 6 = .ok (.iload_n 2, 1) := by decide +kernel
theorem dX11_addQuotient_7 : decode cX11_addQuotient 7 = .ok (.iload_n 3, 1) := by decide +kernel
theorem dX11_addQuotient_8 : decode cX11_addQuotient 8 = .ok (.iload 4, 2) := by decide +kernel
theorem dX11_addQuotient_10 : decode cX11_addQuotient 10 = .ok (.invokevirtual 141, 3) := by decide +kernel
theorem dX11_addQuotient_13 : decode cX11_addQuotient 13 = .ok (.istore 5, 2) := by decide +kernel
theorem dX11_addQuotient_15 : decode cX11_addQuotient 15 = .ok (.aload_n 0, 1) := by decide +kernel
theorem dX11_addQuotient_16 : decode cX11_addQuotient 16 = .ok (.invokevirtual 136, 3) := by decide +kernel
theorem dX11_addQuotient_19 : decode cX11_addQuotient 19 = .ok (.iload 5, 2) := by decide +kernel
theorem dX11_addQuotient_21 : decode cX11_addQuotient 21 = .ok (.ireturn, 1) := by decide +kernel
theorem dX11_freeIt_0 : decode cX11_freeIt 0 = .ok (.aload_n 0, 1) := by decide +kernel
theorem dX11_freeIt_1 : decode cX11_freeIt 1 = .ok (.iload_n 1, 1) := by decide +kernel
theorem dX11_freeIt_2 : decode cX11_freeIt 2 = .ok (.invokevirtual 144, 3) := by decide +kernel
theorem dX11_freeIt_5 : decode cX11_freeIt 5 = .ok (.istore_n 2, 1) := by decide +kernel
theorem dX11_freeIt_6 : decode cX11_freeIt 6 = .ok (.iload_n 2, 1) := by decide +kernel
theorem dX11_freeIt_7 : decode cX11_freeIt 7 = .ok (.iconst (-1), 1) := by decide +kernel
theorem dX11_freeIt_8 : decode cX11_freeIt 8 = .ok (.if_icmp .ne 10, 3) := by decide +kernel
theorem dX11_freeIt_11 : decode cX11_freeIt 11 = .ok (.aload_n 0, 1) := by decide +kernel
theorem dX11_freeIt_12 : decode cX11_freeIt 12 = .ok (.iconst 1, 1) := by decide +kernel
theorem dX11_freeIt_13 : decode cX11_freeIt 13 = .ok (.invokevirtual 119, 3) := by decide +kernel
theorem dX11_freeIt_16 : decode cX11_freeIt 16 = .ok (.i2l, 1) := by decide +kernel
theorem dX11_freeIt_17 : decode cX11_freeIt 17 = .ok (.lreturn, 1) := by decide +kernel
theorem dX11_freeIt_18 : decode cX11_freeIt 18 = .ok (.aload_n 0, 1) := by decide +kernel
theorem dX11_freeIt_19 : decode cX11_freeIt 19 = .ok (.getfield 9, 3) := by decide +kernel
theorem dX11_freeIt_22 : decode cX11_freeIt 22 = .ok (.iload_n 2, 1) := by decide +kernel
theorem dX11_freeIt_23 : decode cX11_freeIt 23 = .ok (.invokestatic 66, 3) := by decide +kernel
theorem dX11_freeIt_26 : decode cX11_freeIt 26 = .ok (.iconst 1, 1) := by decide +kernel
theorem dX11_freeIt_27 : decode cX11_freeIt 27 = .ok (.iadd, 1) := by decide +kernel
theorem dX11_freeIt_28 : decode cX11_freeIt 28 = .ok (.laload, 1) := by decide +kernel
theorem dX11_freeIt_29 : decode cX11_freeIt 29 = .ok (.lstore_n 3, 1) := by decide +kernel
theorem dX11_freeIt_30 : decode cX11_freeIt 30 = .ok (.iload_n 2, 1) := by decide +kernel
theorem dX11_freeIt_31 : decode cX11_freeIt 31 = .ok (.invokestatic 66, 3) := by decide +kernel
theorem dX11_freeIt_34 : decode cX11_freeIt 34 = .ok (.istore 5, 2) := by decide +kernel
theorem dX11_freeIt_36 : decode cX11_freeIt 36 = .ok (.iload 5, 2) := by decide +kernel
theorem dX11_freeIt_38 : decode cX11_freeIt 38 = .ok (.bipush 24, 2) := by decide +kernel
theorem dX11_freeIt_40 : decode cX11_freeIt 40 = .ok (.if_icmp .ge 25, 3) := by decide +kernel
theorem dX11_freeIt_43 : decode cX11_freeIt 43 = .ok (.aload_n 0, 1) := by decide +kernel
theorem dX11_freeIt_44 : decode cX11_freeIt 44 = .ok (.getfield 9, 3) := by decide +kernel
theorem dX11_freeIt_47 : decode cX11_freeIt 47 = .ok (.iload 5, 2) := by decide +kernel
theorem dX11_freeIt_49 : decode cX11_freeIt 49 = .ok (.aload_n 0, 1) := by decide +kernel
theorem dX11_freeIt_50 : decode cX11_freeIt 50 = .ok (.getfield 9, 3) := by decide +kernel
theorem dX11_freeIt_53 : decode cX11_freeIt 53 = .ok (.iload 5, 2) := by decide +kernel
theorem dX11_freeIt_55 : decode cX11_freeIt 55 = .ok (.iconst 4, 1) := by decide +kernel
theorem dX11_freeIt_56 : decode cX11_freeIt 56 = .ok (.iadd, 1) := by decide +kernel
theorem dX11_freeIt_57 : decode cX11_freeIt 57 = .ok (.laload, 1) := by decide +kernel
theorem dX11_freeIt_58 : decode cX11_freeIt 58 = .ok (.lastore, 1) := by decide +kernel
theorem dX11_freeIt_59 : decode cX11_freeIt 59 = .ok (.iinc 5 1, 3) := by decide +kernel
theorem dX11_freeIt_62 : decode cX11_freeIt 62 = .ok (.goto (-26), 3) := by decide +kernel
theorem dX11_freeIt_65 : decode cX11_freeIt 65 = .ok (.bipush 24, 2) := by decide +kernel
theorem dX11_freeIt_67 : decode cX11_freeIt 67 = .ok (.istore 5, 2) := by decide +kernel
theorem dX11_freeIt_69 : decode cX11_freeIt 69 = .ok (.iload 5, 2) := by decide +kernel
theorem dX11_freeIt_71 : decode cX11_freeIt 71 = .ok (.bipush 28, 2) := by decide +kernel
theorem dX11_freeIt_73 : decode cX11_freeIt 73 = .ok (.if_icmp .ge 17, 3) := by decide +kernel
theorem dX11_freeIt_76 : decode cX11_freeIt 76 = .ok (.aload_n 0, 1) := by decide +kernel
theorem dX11_freeIt_77 : decode cX11_freeIt 77 = .ok (.getfield 9, 3) := by decide +kernel
theorem dX11_freeIt_80 : decode cX11_freeIt 80 = .ok (.iload 5, 2) := by decide +kernel
theorem dX11_freeIt_82 : decode cX11_freeIt 82 = .ok (.lconst 0, 1) := by decide +kernel
theorem dX11_freeIt_83 : decode cX11_freeIt 83 = .ok (.lastore, 1) := by decide +kernel
theorem dX11_freeIt_84 : decode cX11_freeIt 84 = .ok (.iinc 5 1, 3) := by decide +kernel
theorem dX11_freeIt_87 : decode cX11_freeIt 87 = .ok (.goto (-18), 3) := by decide +kernel
theorem dX11_freeIt_90 : decode cX11_freeIt 90 = .ok (.aload_n 0, 1) := by decide +kernel
theorem dX11_freeIt_91 : decode cX11_freeIt 91 = .ok (.getfield 9, 3) := by decide +kernel
theorem dX11_freeIt_94 : decode cX11_freeIt 94 = .ok (.iconst 0, 1) := by decide +kernel
theorem dX11_freeIt_95 : decode cX11_freeIt 95 = .ok (.dup2, 1) := by decide +kernel
theorem dX11_freeIt_96 : decode cX11_freeIt 96 = .ok (.laload, 1) := by decide +kernel
theorem dX11_freeIt_97 : decode cX11_freeIt 97 = .ok (.lconst 1, 1) := by decide +kernel
theorem dX11_freeIt_98 : decode cX11_freeIt 98 = .ok (.lsub, 1) := by decide +kernel
theorem dX11_freeIt_99 : decode cX11_freeIt 99 = .ok (.lastore, 1) := by decide +kernel
theorem dX11_freeIt_100 : decode cX11_freeIt 100 = .ok (.lload_n 3, 1) := by decide +kernel
theorem dX11_freeIt_101 : decode cX11_freeIt 101 = .ok (.lreturn, 1) := by decide +kernel
theorem dX11_remove_0 : decode cX11_remove 0 = .ok (.aload_n 0, 1) := by decide +kernel
theorem dX11_remove_1 : decode cX11_remove 1 = .ok (.invokevirtual 129, 3) := by decide +kernel
theorem dX11_remove_4 : decode cX11_remove 4 = .ok (.aload_n 0, 1) := by decide +kernel
theorem dX11_remove_5 : decode cX11_remove 5 = .ok (.iload_n 1, 1) := by decide +kernel
theorem dX11_remove_6 : decode cX11_remove 6 = .ok (.invokevirtual 147, 3) := by decide +kernel
theorem dX11_remove_9 : decode cX11_remove 9 = .ok (.lstore_n 2, 1) := by decide +kernel
theorem dX11_remove_10 : decode cX11_remove 10 = .ok (.aload_n 0, 1) := by decide +kernel
theorem dX11_remove_11 : decode cX11_remove 11 = .ok (.invokevirtual 136, 3) := by decide +kernel
theorem dX11_remove_14 : decode cX11_remove 14 = .ok (.lload_n 2, 1) := by decide +kernel
theorem dX11_remove_15 : decode cX11_remove 15 = .ok (.lreturn, 1) := by decide +kernel
theorem dX11_feedIt_0 : decode cX11_feedIt 0 = .ok (.aload_n 0, 1) := by decide +kernel
theorem dX11_feedIt_1 : decode cX11_feedIt 1 = .ok (.iload_n 1, 1) := by decide +kernel
theorem dX11_feedIt_2 : decode cX11_feedIt 2 = .ok (.invokevirtual 144, 3) := by decide +kernel
theorem dX11_feedIt_5 : decode cX11_feedIt 5 = .ok (.istore 4, 2) := by decide +kernel
theorem dX11_feedIt_7 : decode cX11_feedIt 7 = .ok (.iload 4, 2) := by decide +kernel
theorem dX11_feedIt_9 : decode cX11_feedIt 9 = .ok (.iconst (-1), 1) := by decide +kernel
theorem dX11_feedIt_10 : decode cX11_feedIt 10 = .ok (.if_icmp .ne 10, 3) := by decide +kernel
theorem dX11_feedIt_13 : decode cX11_feedIt 13 = .ok (.aload_n 0, 1) := by decide +kernel
theorem dX11_feedIt_14 : decode cX11_feedIt 14 = .ok (.iconst 1, 1) := by decide +kernel
theorem dX11_feedIt_15 : decode cX11_feedIt 15 = .ok (.invokevirtual 119, 3) := by decide +kernel
theorem dX11_feedIt_18 : decode cX11_feedIt 18 = .ok (.i2l, 1) := by decide +kernel
theorem dX11_feedIt_19 : decode cX11_feedIt 19 = .ok (.lreturn, 1) := by decide +kernel
theorem dX11_feedIt_20 : decode cX11_feedIt 20 = .ok (.iload_n 2, 1) := by decide +kernel
theorem dX11_feedIt_21 : decode cX11_feedIt 21 = .ok (.iload_n 3, 1) := by decide +kernel
theorem dX11_feedIt_22 : decode cX11_feedIt 22 = .ok (.invokestatic 108, 3) := by decide +kernel
theorem dX11_feedIt_25 : decode cX11_feedIt 25 = .ok (.ifCond .ne 10, 3) := by decide +kernel
theorem dX11_feedIt_28 : decode cX11_feedIt 28 = .ok (.aload_n 0, 1) := by decide +kernel
theorem dX11_feedIt_29 : decode cX11_feedIt 29 = .ok (.iconst 2, 1) := by decide +kernel
theorem dX11_feedIt_30 : decode cX11_feedIt 30 = .ok (.invokevirtual 119, 3) := by decide +kernel
theorem dX11_feedIt_33 : decode cX11_feedIt 33 = .ok (.i2l, 1) := by decide +kernel
theorem dX11_feedIt_34 : decode cX11_feedIt 34 = .ok (.lreturn, 1) := by decide +kernel
theorem dX11_feedIt_35 : decode cX11_feedIt 35 = .ok (.aload_n 0, 1) := by decide +kernel
theorem dX11_feedIt_36 : decode cX11_feedIt 36 = .ok (.iload 4, 2) := by decide +kernel
theorem dX11_feedIt_38 : decode cX11_feedIt 38 = .ok (.aload_n 0, 1) := by decide +kernel
theorem dX11_feedIt_39 : decode cX11_feedIt 39 = .ok (.getfield 9, 3) := by decide +kernel
theorem dX11_feedIt_42 : decode cX11_feedIt 42 = .ok (.iload 4, 2) := by decide +kernel
theorem dX11_feedIt_44 : decode cX11_feedIt 44 = .ok (.invokestatic 66, 3) := by decide +kernel
theorem dX11_feedIt_47 : decode cX11_feedIt 47 = .ok (.iconst 1, 1) := by decide +kernel
theorem dX11_feedIt_48 : decode cX11_feedIt 48 = .ok (.iadd, 1) := by decide +kernel
theorem dX11_feedIt_49 : decode cX11_feedIt 49 = .ok (.laload, 1) := by decide +kernel
theorem dX11_feedIt_50 : decode cX11_feedIt 50 = .ok (.iload_n 2, 1) := by decide +kernel
theorem dX11_feedIt_51 : decode cX11_feedIt 51 = .ok (.iload_n 3, 1) := by decide +kernel
theorem dX11_feedIt_52 : decode cX11_feedIt 52 = .ok (.invokestatic 122, 3) := by decide +kernel
theorem dX11_feedIt_55 : decode cX11_feedIt 55 = .ok (.ladd, 1) := by decide +kernel
theorem dX11_feedIt_56 : decode cX11_feedIt 56 = .ok (.invokevirtual 150, 3) := by decide +kernel
theorem dX11_feedIt_59 : decode cX11_feedIt 59 = .ok (.aload_n 0, 1) := by decide +kernel
theorem dX11_feedIt_60 : decode cX11_feedIt 60 = .ok (.getfield 9, 3) := by decide +kernel
theorem dX11_feedIt_63 : decode cX11_feedIt 63 = .ok (.iload 4, 2) := by decide +kernel
theorem dX11_feedIt_65 : decode cX11_feedIt 65 = .ok (.invokestatic 66, 3) := by decide +kernel
theorem dX11_feedIt_68 : decode cX11_feedIt 68 = .ok (.iconst 1, 1) := by decide +kernel
theorem dX11_feedIt_69 : decode cX11_feedIt 69 = .ok (.iadd, 1) := by decide +kernel
theorem dX11_feedIt_70 : decode cX11_feedIt 70 = .ok (.laload, 1) := by decide +kernel
theorem dX11_feedIt_71 : decode cX11_feedIt 71 = .ok (.lreturn, 1) := by decide +kernel
theorem dX11_feed_0 : decode cX11_feed 0 = .ok (.aload_n 0, 1) := by decide +kernel
theorem dX11_feed_1 : decode cX11_feed 1 = .ok (.invokevirtual 129, 3) := by decide +kernel
theorem dX11_feed_4 : decode cX11_feed 4 = .ok (.aload_n 0, 1) := by decide +kernel
theorem dX11_feed_5 : decode cX11_feed 5 = .ok (.iload_n 1, 1) := by decide +kernel
theorem dX11_feed_6 : decode cX11_feed 6 = .ok (.iload_n 2, 1) := by decide +kernel
theorem dX11_feed_7 : decode cX11_feed 7 = .ok (.iload_n 3, 1) := by decide +kernel
theorem dX11_feed_8 : decode cX11_feed 8 = .ok (.invokevirtual 154, 3) := by decide +kernel
theorem dX11_feed_11 : decode cX11_feed 11 = .ok (.lstore 4, 2) := by decide +kernel
theorem dX11_feed_13 : decode cX11_feed 13 = .ok (.aload_n 0, 1) := by decide +kernel
theorem dX11_feed_14 : decode cX11_feed 14 = .ok (.invokevirtual 136, 3) := by decide +kernel
theorem dX11_feed_17 : decode cX11_feed 17 = .ok (.lload 4, 2) := by decide +kernel
theorem dX11_feed_19 : decode cX11_feed 19 = .ok (.lreturn, 1) := by decide +kernel
theorem dX11_tradeIt_0 : decode cX11_tradeIt 0 = .ok (.aload_n 0, 1) := by decide +kernel
theorem dX11_tradeIt_1 : decode cX11_tradeIt 1 = .ok (.iload_n 1, 1) := by decide +kernel
theorem dX11_tradeIt_2 : decode cX11_tradeIt 2 = .ok (.invokevirtual 144, 3) := by decide +kernel
theorem dX11_tradeIt_5 : decode cX11_tradeIt 5 = .ok (.istore 5, 2) := by decide +kernel
theorem dX11_tradeIt_7 : decode cX11_tradeIt 7 = .ok (.aload_n 0, 1) := by decide +kernel
theorem dX11_tradeIt_8 : decode cX11_tradeIt 8 = .ok (.iload_n 2, 1) := by decide +kernel
theorem dX11_tradeIt_9 : decode cX11_tradeIt 9 = .ok (.invokevirtual 144, 3) := by decide +kernel
theorem dX11_tradeIt_12 : decode cX11_tradeIt 12 = .ok (.istore 6, 2) := by decide +kernel
theorem dX11_tradeIt_14 : decode cX11_tradeIt 14 = .ok (.iload 5, 2) := by decide +kernel
theorem dX11_tradeIt_16 : decode cX11_tradeIt 16 = .ok (.iconst (-1), 1) := by decide +kernel
theorem dX11_tradeIt_17 : decode cX11_tradeIt 17 = .ok (.if_icmp .eq 9, 3) := by decide +kernel
theorem dX11_tradeIt_20 : decode cX11_tradeIt 20 = .ok (.iload 6, 2) := by decide +kernel
theorem dX11_tradeIt_22 : decode cX11_tradeIt 22 = .ok (.iconst (-1), 1) := by decide +kernel
theorem dX11_tradeIt_23 : decode cX11_tradeIt 23 = .ok (.if_icmp .ne 10, 3) := by decide +kernel
theorem dX11_tradeIt_26 : decode cX11_tradeIt 26 = .ok (.aload_n 0, 1) := by decide +kernel
theorem dX11_tradeIt_27 : decode cX11_tradeIt 27 = .ok (.iconst 1, 1) := by decide +kernel
theorem dX11_tradeIt_28 : decode cX11_tradeIt 28 = .ok (.invokevirtual 119, 3) := by decide +kernel
theorem dX11_tradeIt_31 : decode cX11_tradeIt 31 = .ok (.i2l, 1) := by decide +kernel
theorem dX11_tradeIt_32 : decode cX11_tradeIt 32 = .ok (.lreturn, 1) := by decide +kernel
theorem dX11_tradeIt_33 : decode cX11_tradeIt 33 = .ok (.iload 5, 2) := by decide +kernel
theorem dX11_tradeIt_35 : decode cX11_tradeIt 35 = .ok (.iload 6, 2) := by decide +kernel
theorem dX11_tradeIt_37 : decode cX11_tradeIt 37 = .ok (.if_icmp .eq 12, 3) := by decide +kernel
theorem dX11_tradeIt_40 : decode cX11_tradeIt 40 = .ok (.iload_n 3, 1) := by decide +kernel
theorem dX11_tradeIt_41 : decode cX11_tradeIt 41 = .ok (.iload 4, 2) := by decide +kernel
theorem dX11_tradeIt_43 : decode cX11_tradeIt 43 = .ok (.invokestatic 108, 3) := by decide +kernel
theorem dX11_tradeIt_46 : decode cX11_tradeIt 46 = .ok (.ifCond .ne 10, 3) := by decide +kernel
theorem dX11_tradeIt_49 : decode cX11_tradeIt 49 = .ok (.aload_n 0, 1) := by decide +kernel
theorem dX11_tradeIt_50 : decode cX11_tradeIt 50 = .ok (.iconst 2, 1) := by decide +kernel
theorem dX11_tradeIt_51 : decode cX11_tradeIt 51 = .ok (.invokevirtual 119, 3) := by decide +kernel
theorem dX11_tradeIt_54 : decode cX11_tradeIt 54 = .ok (.i2l, 1) := by decide +kernel
theorem dX11_tradeIt_55 : decode cX11_tradeIt 55 = .ok (.lreturn, 1) := by decide +kernel
theorem dX11_tradeIt_56 : decode cX11_tradeIt 56 = .ok (.iload_n 3, 1) := by decide +kernel
theorem dX11_tradeIt_57 : decode cX11_tradeIt 57 = .ok (.iload 4, 2) := by decide +kernel
theorem dX11_tradeIt_59 : decode cX11_tradeIt 59 = .ok (.invokestatic 122, 3) := by decide +kernel
theorem dX11_tradeIt_62 : decode cX11_tradeIt 62 = .ok (.lstore 7, 2) := by decide +kernel
theorem dX11_tradeIt_64 : decode cX11_tradeIt 64 = .ok (.aload_n 0, 1) := by decide +kernel
theorem dX11_tradeIt_65 : decode cX11_tradeIt 65 = .ok (.getfield 9, 3) := by decide +kernel
theorem dX11_tradeIt_68 : decode cX11_tradeIt 68 = .ok (.iload 5, 2) := by decide +kernel
theorem dX11_tradeIt_70 : decode cX11_tradeIt 70 = .ok (.invokestatic 66, 3) := by decide +kernel
theorem dX11_tradeIt_73 : decode cX11_tradeIt 73 = .ok (.iconst 1, 1) := by decide +kernel
theorem dX11_tradeIt_74 : decode cX11_tradeIt 74 = .ok (.iadd, 1) := by decide +kernel
theorem dX11_tradeIt_75 : decode cX11_tradeIt 75 = .ok (.laload, 1) := by decide +kernel
theorem dX11_tradeIt_76 : decode cX11_tradeIt 76 = .ok (.lload 7, 2) := by decide +kernel
theorem dX11_tradeIt_78 : decode cX11_tradeIt 78 = .ok (.lcmp, 1) := by decide +kernel
theorem dX11_tradeIt_79 : decode cX11_tradeIt 79 = .ok (.ifCond .ge 10, 3) := by decide +kernel
theorem dX11_tradeIt_82 : decode cX11_tradeIt 82 = .ok (.aload_n 0, 1) := by decide +kernel
theorem dX11_tradeIt_83 : decode cX11_tradeIt 83 = .ok (.iconst 3, 1) := by decide +kernel
theorem dX11_tradeIt_84 : decode cX11_tradeIt 84 = .ok (.invokevirtual 119, 3) := by decide +kernel
theorem dX11_tradeIt_87 : decode cX11_tradeIt 87 = .ok (.i2l, 1) := by decide +kernel
theorem dX11_tradeIt_88 : decode cX11_tradeIt 88 = .ok (.lreturn, 1) := by decide +kernel
theorem dX11_tradeIt_89 : decode cX11_tradeIt 89 = .ok (.lload 7, 2) := by decide +kernel
theorem dX11_tradeIt_91 : decode cX11_tradeIt 91 = .ok (.aload_n 0, 1) := by decide +kernel
theorem dX11_tradeIt_92 : decode cX11_tradeIt 92 = .ok (.getfield 9, 3) := by decide +kernel
theorem dX11_tradeIt_95 : decode cX11_tradeIt 95 = .ok (.iload 5, 2) := by decide +kernel
theorem dX11_tradeIt_97 : decode cX11_tradeIt 97 = .ok (.invokestatic 66, 3) := by decide +kernel
theorem dX11_tradeIt_100 : decode cX11_tradeIt 100 = .ok (.iconst 2, 1) := by decide +kernel
theorem dX11_tradeIt_101 : decode cX11_tradeIt 101 = .ok (.iadd, 1) := by decide +kernel
theorem dX11_tradeIt_102 : decode cX11_tradeIt 102 = .ok (.laload, 1) := by decide +kernel
theorem dX11_tradeIt_103 : decode cX11_tradeIt 103 = .ok (.l2i, 1) := by decide +kernel
theorem dX11_tradeIt_104 : decode cX11_tradeIt 104 = .ok (.invokestatic 86, 3) := by decide +kernel
theorem dX11_tradeIt_107 : decode cX11_tradeIt 107 = .ok (.lrem, 1) := by decide +kernel
theorem dX11_tradeIt_108 : decode cX11_tradeIt 108 = .ok (.lconst 0, 1) := by decide +kernel
theorem dX11_tradeIt_109 : decode cX11_tradeIt 109 = .ok (.lcmp, 1) := by decide +kernel
theorem dX11_tradeIt_110 : decode cX11_tradeIt 110 = .ok (.ifCond .le 10, 3) := by decide +kernel
theorem dX11_tradeIt_113 : decode cX11_tradeIt 113 = .ok (.aload_n 0, 1) := by decide +kernel
theorem dX11_tradeIt_114 : decode cX11_tradeIt 114 = .ok (.iconst 4, 1) := by decide +kernel
theorem dX11_tradeIt_115 : decode cX11_tradeIt 115 = .ok (.invokevirtual 119, 3) := by decide +kernel
theorem dX11_tradeIt_118 : decode cX11_tradeIt 118 = .ok (.i2l, 1) := by decide +kernel
theorem dX11_tradeIt_119 : decode cX11_tradeIt 119 = .ok (.lreturn, 1) := by decide +kernel
theorem dX11_tradeIt_120 : decode cX11_tradeIt 120 = .ok (.aload_n 0, 1) := by decide +kernel
theorem dX11_tradeIt_121 : decode cX11_tradeIt 121 = .ok (.getfield 9, 3) := by decide +kernel
theorem dX11_tradeIt_124 : decode cX11_tradeIt 124 = .ok (.iload 5, 2) := by decide +kernel
theorem dX11_tradeIt_126 : decode cX11_tradeIt 126 = .ok (.invokestatic 66, 3) := by decide +kernel
theorem dX11_tradeIt_129 : decode cX11_tradeIt 129 = .ok (.iconst 1, 1) := by decide +kernel
theorem dX11_tradeIt_130 : decode cX11_tradeIt 130 = .ok (.iadd, 1) := by decide +kernel
theorem dX11_tradeIt_131 : decode cX11_tradeIt 131 = .ok (.dup2, 1) := by decide +kernel
theorem dX11_tradeIt_132 : decode cX11_tradeIt 132 = .ok (.laload, 1) := by decide +kernel
theorem dX11_tradeIt_133 : decode cX11_tradeIt 133 = .ok (.lload 7, 2) := by decide +kernel
theorem dX11_tradeIt_135 : decode cX11_tradeIt 135 = .ok (.lsub, 1) := by decide +kernel
theorem dX11_tradeIt_136 : decode cX11_tradeIt 136 = .ok (.lastore, 1) := by decide +kernel
theorem dX11_tradeIt_137 : decode cX11_tradeIt 137 = .ok (.aload_n 0, 1) := by decide +kernel
theorem dX11_tradeIt_138 : decode cX11_tradeIt 138 = .ok (.iload 6, 2) := by decide +kernel
theorem dX11_tradeIt_140 : decode cX11_tradeIt 140 = .ok (.aload_n 0, 1) := by decide +kernel
theorem dX11_tradeIt_141 : decode cX11_tradeIt 141 = .ok (.getfield 9, 3) := by decide +kernel
theorem dX11_tradeIt_144 : decode cX11_tradeIt 144 = .ok (.iload 6, 2) := by decide +kernel
theorem dX11_tradeIt_146 : decode cX11_tradeIt 146 = .ok (.invokestatic 66, 3) := by decide +kernel
theorem dX11_tradeIt_149 : decode cX11_tradeIt 149 = .ok (.iconst 1, 1) := by decide +kernel
theorem dX11_tradeIt_150 : decode cX11_tradeIt 150 = .ok (.iadd, 1) := by decide +kernel
theorem dX11_tradeIt_151 : decode cX11_tradeIt 151 = .ok (.laload, 1) := by decide +kernel
theorem dX11_tradeIt_152 : decode cX11_tradeIt 152 = .ok (.lload 7, 2) := by decide +kernel
theorem dX11_tradeIt_154 : decode cX11_tradeIt 154 = .ok (.ladd, 1) := by decide +kernel
theorem dX11_tradeIt_155 : decode cX11_tradeIt 155 = .ok (.invokevirtual 150, 3) := by decide +kernel
theorem dX11_tradeIt_158 : decode cX11_tradeIt 158 = .ok (.aload_n 0, 1) := by decide +kernel
theorem dX11_tradeIt_159 : decode cX11_tradeIt 159 = .ok (.getfield 9, 3) := by decide +kernel
theorem dX11_tradeIt_162 : decode cX11_tradeIt 162 = .ok (.iload 6, 2) := by decide +kernel
theorem dX11_tradeIt_164 : decode cX11_tradeIt 164 = .ok (.invokestatic 66, 3) := by decide +kernel
theorem dX11_tradeIt_167 : decode cX11_tradeIt 167 = .ok (.iconst 1, 1) := by decide +kernel
theorem dX11_tradeIt_168 : decode cX11_tradeIt 168 = .ok (.iadd, 1) := by decide +kernel
theorem dX11_tradeIt_169 : decode cX11_tradeIt 169 = .ok (.laload, 1) := by decide +kernel
theorem dX11_tradeIt_170 : decode cX11_tradeIt 170 = .ok (.lreturn, 1) := by decide +kernel
theorem dX11_trade_0 : decode cX11_trade 0 = .ok (.aload_n 0, 1) := by decide +kernel
theorem dX11_trade_1 : decode cX11_trade 1 = .ok (.invokevirtual 129, 3) := by decide +kernel
theorem dX11_trade_4 : decode cX11_trade 4 = .ok (.aload_n 0, 1) := by decide +kernel
theorem dX11_trade_5 : decode cX11_trade 5 = .ok (.iload_n 1, 1) := by decide +kernel
theorem dX11_trade_6 : decode cX11_trade 6 = .ok (.iload_n 2, 1) := by decide +kernel
theorem dX11_trade_7 : decode cX11_trade 7 = .ok (.iload_n 3, 1) := by decide +kernel
theorem dX11_trade_8 : decode cX11_trade 8 = .ok (.iload 4, 2) := by decide +kernel
theorem dX11_trade_10 : decode cX11_trade 10 = .ok (.invokevirtual 158, 3) := by decide +kernel
theorem dX11_trade_13 : decode cX11_trade 13 = .ok (.lstore 5, 2) := by decide +kernel
theorem dX11_trade_15 : decode cX11_trade 15 = .ok (.aload_n 0, 1) := by decide +kernel
theorem dX11_trade_16 : decode cX11_trade 16 = .ok (.invokevirtual 136, 3) := by decide +kernel
theorem dX11_trade_19 : decode cX11_trade 19 = .ok (.lload 5, 2) := by decide +kernel
theorem dX11_trade_21 : decode cX11_trade 21 = .ok (.lreturn, 1) := by decide +kernel
theorem dX11_scaleIt_0 : decode cX11_scaleIt 0 = .ok (.aload_n 0, 1) := by decide +kernel
theorem dX11_scaleIt_1 : decode cX11_scaleIt 1 = .ok (.iload_n 1, 1) := by decide +kernel
theorem dX11_scaleIt_2 : decode cX11_scaleIt 2 = .ok (.invokevirtual 144, 3) := by decide +kernel
theorem dX11_scaleIt_5 : decode cX11_scaleIt 5 = .ok (.istore_n 3, 1) := by decide +kernel
theorem dX11_scaleIt_6 : decode cX11_scaleIt 6 = .ok (.iload_n 3, 1) := by decide +kernel
theorem dX11_scaleIt_7 : decode cX11_scaleIt 7 = .ok (.iconst (-1), 1) := by decide +kernel
theorem dX11_scaleIt_8 : decode cX11_scaleIt 8 = .ok (.if_icmp .ne 9, 3) := by decide +kernel
theorem dX11_scaleIt_11 : decode cX11_scaleIt 11 = .ok (.aload_n 0, 1) := by decide +kernel
theorem dX11_scaleIt_12 : decode cX11_scaleIt 12 = .ok (.iconst 1, 1) := by decide +kernel
theorem dX11_scaleIt_13 : decode cX11_scaleIt 13 = .ok (.invokevirtual 119, 3) := by decide +kernel
theorem dX11_scaleIt_16 : decode cX11_scaleIt 16 = .ok (.ireturn, 1) := by decide +kernel
theorem dX11_scaleIt_17 : decode cX11_scaleIt 17 = .ok (.iload_n 2, 1) := by decide +kernel
theorem dX11_scaleIt_18 : decode cX11_scaleIt 18 = .ok (.invokestatic 112, 3) := by decide +kernel
theorem dX11_scaleIt_21 : decode cX11_scaleIt 21 = .ok (.ifCond .ne 9, 3) := by decide +kernel
theorem dX11_scaleIt_24 : decode cX11_scaleIt 24 = .ok (.aload_n 0, 1) := by decide +kernel
theorem dX11_scaleIt_25 : decode cX11_scaleIt 25 = .ok (.iconst 2, 1) := by decide +kernel
theorem dX11_scaleIt_26 : decode cX11_scaleIt 26 = .ok (.invokevirtual 119, 3) := by decide +kernel
theorem dX11_scaleIt_29 : decode cX11_scaleIt 29 = .ok (.ireturn, 1) := by decide +kernel
theorem dX11_scaleIt_30 : decode cX11_scaleIt 30 = .ok (.aload_n 0, 1) := by decide +kernel
theorem dX11_scaleIt_31 : decode cX11_scaleIt 31 = .ok (.getfield 9, 3) := by decide +kernel
theorem dX11_scaleIt_34 : decode cX11_scaleIt 34 = .ok (.iload_n 3, 1) := by decide +kernel
theorem dX11_scaleIt_35 : decode cX11_scaleIt 35 = .ok (.invokestatic 66, 3) := by decide +kernel
theorem dX11_scaleIt_38 : decode cX11_scaleIt 38 = .ok (.iconst 2, 1) := by decide +kernel
theorem dX11_scaleIt_39 : decode cX11_scaleIt 39 = .ok (.iadd, 1) := by decide +kernel
theorem dX11_scaleIt_40 : decode cX11_scaleIt 40 = .ok (.laload, 1) := by decide +kernel
theorem dX11_scaleIt_41 : decode cX11_scaleIt 41 = .ok (.l2i, 1) := by decide +kernel
theorem dX11_scaleIt_42 : decode cX11_scaleIt 42 = .ok (.istore 4, 2) := by decide +kernel
theorem dX11_scaleIt_44 : decode cX11_scaleIt 44 = .ok (.aload_n 0, 1) := by decide +kernel
theorem dX11_scaleIt_45 : decode cX11_scaleIt 45 = .ok (.getfield 9, 3) := by decide +kernel
theorem dX11_scaleIt_48 : decode cX11_scaleIt 48 = .ok (.iload_n 3, 1) := by decide +kernel
theorem dX11_scaleIt_49 : decode cX11_scaleIt 49 = .ok (.invokestatic 66, 3) := by decide +kernel
theorem dX11_scaleIt_52 : decode cX11_scaleIt 52 = .ok (.iconst 2, 1) := by decide +kernel
theorem dX11_scaleIt_53 : decode cX11_scaleIt 53 = .ok (.iadd, 1) := by decide +kernel
theorem dX11_scaleIt_54 : decode cX11_scaleIt 54 = .ok (.iload_n 2, 1) := by decide +kernel
theorem dX11_scaleIt_55 : decode cX11_scaleIt 55 = .ok (.i2l, 1) := by decide +kernel
theorem dX11_scaleIt_56 : decode cX11_scaleIt 56 = .ok (.lastore, 1) := by decide +kernel
theorem dX11_scaleIt_57 : decode cX11_scaleIt 57 = .ok (.aload_n 0, 1) := by decide +kernel
theorem dX11_scaleIt_58 : decode cX11_scaleIt 58 = .ok (.iload_n 3, 1) := by decide +kernel
theorem dX11_scaleIt_59 : decode cX11_scaleIt 59 = .ok (.aload_n 0, 1) := by decide +kernel
theorem dX11_scaleIt_60 : decode cX11_scaleIt 60 = .ok (.getfield 9, 3) := by decide +kernel
theorem dX11_scaleIt_63 : decode cX11_scaleIt 63 = .ok (.iload_n 3, 1) := by decide +kernel
theorem dX11_scaleIt_64 : decode cX11_scaleIt 64 = .ok (.invokestatic 66, 3) := by decide +kernel
theorem dX11_scaleIt_67 : decode cX11_scaleIt 67 = .ok (.iconst 1, 1) := by decide +kernel
theorem dX11_scaleIt_68 : decode cX11_scaleIt 68 = .ok (.iadd, 1) := by decide +kernel
theorem dX11_scaleIt_69 : decode cX11_scaleIt 69 = .ok (.laload, 1) := by decide +kernel
theorem dX11_scaleIt_70 : decode cX11_scaleIt 70 = .ok (.invokevirtual 150, 3) := by decide +kernel
theorem dX11_scaleIt_73 : decode cX11_scaleIt 73 = .ok (.iload 4, 2) := by decide +kernel
theorem dX11_scaleIt_75 : decode cX11_scaleIt 75 = .ok (.ireturn, 1) := by decide +kernel
theorem dX11_setScale_0 : decode cX11_setScale 0 = .ok (.aload_n 0, 1) := by decide +kernel
theorem dX11_setScale_1 : decode cX11_setScale 1 = .ok (.invokevirtual 129, 3) := by decide +kernel
theorem dX11_setScale_4 : decode cX11_setScale 4 = .ok (.aload_n 0, 1) := by decide +kernel
theorem dX11_setScale_5 : decode cX11_setScale 5 = .ok (.iload_n 1, 1) := by decide +kernel
theorem dX11_setScale_6 : decode cX11_setScale 6 = .ok (.iload_n 2, 1) := by decide +kernel
theorem dX11_setScale_7 : decode cX11_setScale 7 = .ok (.invokevirtual 162, 3) := by decide +kernel
theorem dX11_setScale_10 : decode cX11_setScale 10 = .ok (.istore_n 3, 1) := by decide +kernel
theorem dX11_setScale_11 : decode cX11_setScale 11 = .ok (.aload_n 0, 1) := by decide +kernel
theorem dX11_setScale_12 : decode cX11_setScale 12 = .ok (.invokevirtual 136, 3) := by decide +kernel
theorem dX11_setScale_15 : decode cX11_setScale 15 = .ok (.iload_n 3, 1) := by decide +kernel
theorem dX11_setScale_16 : decode cX11_setScale 16 = .ok (.ireturn, 1) := by decide +kernel
theorem dX11_modeIt_0 : decode cX11_modeIt 0 = .ok (.aload_n 0, 1) := by decide +kernel
theorem dX11_modeIt_1 : decode cX11_modeIt 1 = .ok (.iload_n 1, 1) := by decide +kernel
theorem dX11_modeIt_2 : decode cX11_modeIt 2 = .ok (.invokevirtual 144, 3) := by decide +kernel
theorem dX11_modeIt_5 : decode cX11_modeIt 5 = .ok (.istore_n 3, 1) := by decide +kernel
theorem dX11_modeIt_6 : decode cX11_modeIt 6 = .ok (.iload_n 3, 1) := by decide +kernel
theorem dX11_modeIt_7 : decode cX11_modeIt 7 = .ok (.iconst (-1), 1) := by decide +kernel
theorem dX11_modeIt_8 : decode cX11_modeIt 8 = .ok (.if_icmp .ne 9, 3) := by decide +kernel
theorem dX11_modeIt_11 : decode cX11_modeIt 11 = .ok (.aload_n 0, 1) := by decide +kernel
theorem dX11_modeIt_12 : decode cX11_modeIt 12 = .ok (.iconst 1, 1) := by decide +kernel
theorem dX11_modeIt_13 : decode cX11_modeIt 13 = .ok (.invokevirtual 119, 3) := by decide +kernel
theorem dX11_modeIt_16 : decode cX11_modeIt 16 = .ok (.ireturn, 1) := by decide +kernel
theorem dX11_modeIt_17 : decode cX11_modeIt 17 = .ok (.iload_n 2, 1) := by decide +kernel
theorem dX11_modeIt_18 : decode cX11_modeIt 18 = .ok (.invokestatic 116, 3) := by decide +kernel
theorem dX11_modeIt_21 : decode cX11_modeIt 21 = .ok (.ifCond .ne 9, 3) := by decide +kernel
theorem dX11_modeIt_24 : decode cX11_modeIt 24 = .ok (.aload_n 0, 1) := by decide +kernel
theorem dX11_modeIt_25 : decode cX11_modeIt 25 = .ok (.iconst 2, 1) := by decide +kernel
theorem dX11_modeIt_26 : decode cX11_modeIt 26 = .ok (.invokevirtual 119, 3) := by decide +kernel
theorem dX11_modeIt_29 : decode cX11_modeIt 29 = .ok (.ireturn, 1) := by decide +kernel
theorem dX11_modeIt_30 : decode cX11_modeIt 30 = .ok (.aload_n 0, 1) := by decide +kernel
theorem dX11_modeIt_31 : decode cX11_modeIt 31 = .ok (.getfield 9, 3) := by decide +kernel
theorem dX11_modeIt_34 : decode cX11_modeIt 34 = .ok (.iload_n 3, 1) := by decide +kernel
theorem dX11_modeIt_35 : decode cX11_modeIt 35 = .ok (.invokestatic 66, 3) := by decide +kernel
theorem dX11_modeIt_38 : decode cX11_modeIt 38 = .ok (.iconst 3, 1) := by decide +kernel
theorem dX11_modeIt_39 : decode cX11_modeIt 39 = .ok (.iadd, 1) := by decide +kernel
theorem dX11_modeIt_40 : decode cX11_modeIt 40 = .ok (.laload, 1) := by decide +kernel
theorem dX11_modeIt_41 : decode cX11_modeIt 41 = .ok (.l2i, 1) := by decide +kernel
theorem dX11_modeIt_42 : decode cX11_modeIt 42 = .ok (.istore 4, 2) := by decide +kernel
theorem dX11_modeIt_44 : decode cX11_modeIt 44 = .ok (.aload_n 0, 1) := by decide +kernel
theorem dX11_modeIt_45 : decode cX11_modeIt 45 = .ok (.getfield 9, 3) := by decide +kernel
theorem dX11_modeIt_48 : decode cX11_modeIt 48 = .ok (.iload_n 3, 1) := by decide +kernel
theorem dX11_modeIt_49 : decode cX11_modeIt 49 = .ok (.invokestatic 66, 3) := by decide +kernel
theorem dX11_modeIt_52 : decode cX11_modeIt 52 = .ok (.iconst 3, 1) := by decide +kernel
theorem dX11_modeIt_53 : decode cX11_modeIt 53 = .ok (.iadd, 1) := by decide +kernel
theorem dX11_modeIt_54 : decode cX11_modeIt 54 = .ok (.iload_n 2, 1) := by decide +kernel
theorem dX11_modeIt_55 : decode cX11_modeIt 55 = .ok (.i2l, 1) := by decide +kernel
theorem dX11_modeIt_56 : decode cX11_modeIt 56 = .ok (.lastore, 1) := by decide +kernel
theorem dX11_modeIt_57 : decode cX11_modeIt 57 = .ok (.iload 4, 2) := by decide +kernel
theorem dX11_modeIt_59 : decode cX11_modeIt 59 = .ok (.ireturn, 1) := by decide +kernel
theorem dX11_setMode_0 : decode cX11_setMode 0 = .ok (.aload_n 0, 1) := by decide +kernel
theorem dX11_setMode_1 : decode cX11_setMode 1 = .ok (.invokevirtual 129, 3) := by decide +kernel
theorem dX11_setMode_4 : decode cX11_setMode 4 = .ok (.aload_n 0, 1) := by decide +kernel
theorem dX11_setMode_5 : decode cX11_setMode 5 = .ok (.iload_n 1, 1) := by decide +kernel
theorem dX11_setMode_6 : decode cX11_setMode 6 = .ok (.iload_n 2, 1) := by decide +kernel
theorem dX11_setMode_7 : decode cX11_setMode 7 = .ok (.invokevirtual 166, 3) := by decide +kernel
theorem dX11_setMode_10 : decode cX11_setMode 10 = .ok (.istore_n 3, 1) := by decide +kernel
theorem dX11_setMode_11 : decode cX11_setMode 11 = .ok (.aload_n 0, 1) := by decide +kernel
theorem dX11_setMode_12 : decode cX11_setMode 12 = .ok (.invokevirtual 136, 3) := by decide +kernel
theorem dX11_setMode_15 : decode cX11_setMode 15 = .ok (.iload_n 3, 1) := by decide +kernel
theorem dX11_setMode_16 : decode cX11_setMode 16 = .ok (.i2c, 1) := by decide +kernel
theorem dX11_setMode_17 : decode cX11_setMode 17 = .ok (.ireturn, 1) := by decide +kernel
theorem dX11_togetherIt_0 : decode cX11_togetherIt 0 = .ok (.iload_n 1, 1) := by decide +kernel
theorem dX11_togetherIt_1 : decode cX11_togetherIt 1 = .ok (.invokestatic 112, 3) := by decide +kernel
theorem dX11_togetherIt_4 : decode cX11_togetherIt 4 = .ok (.ifCond .ne 9, 3) := by decide +kernel
theorem dX11_togetherIt_7 : decode cX11_togetherIt 7 = .ok (.aload_n 0, 1) := by decide +kernel
theorem dX11_togetherIt_8 : decode cX11_togetherIt 8 = .ok (.iconst 1, 1) := by decide +kernel
theorem dX11_togetherIt_9 : decode cX11_togetherIt 9 = .ok (.invokevirtual 119, 3) := by decide +kernel
theorem dX11_togetherIt_12 : decode cX11_togetherIt 12 = .ok (.ireturn, 1) := by decide +kernel
theorem dX11_togetherIt_13 : decode cX11_togetherIt 13 = .ok (.aload_n 0, 1) := by decide +kernel
theorem dX11_togetherIt_14 : decode cX11_togetherIt 14 = .ok (.iload_n 1, 1) := by decide +kernel
theorem dX11_togetherIt_15 : decode cX11_togetherIt 15 = .ok (.invokevirtual 169, 3) := by decide +kernel
theorem dX11_togetherIt_18 : decode cX11_togetherIt 18 = .ok (.istore_n 2, 1) := by decide +kernel
theorem dX11_togetherIt_19 : decode cX11_togetherIt 19 = .ok (.iconst 0, 1) := by decide +kernel
theorem dX11_togetherIt_20 : decode cX11_togetherIt 20 = .ok (.istore_n 3, 1) := by decide +kernel
theorem dX11_togetherIt_21 : decode cX11_togetherIt 21 = .ok (.iload_n 3, 1) := by decide +kernel
theorem dX11_togetherIt_22 : decode cX11_togetherIt 22 = .ok (.aload_n 0, 1) := by decide +kernel
theorem dX11_togetherIt_23 : decode cX11_togetherIt 23 = .ok (.invokevirtual 62, 3) := by decide +kernel
theorem dX11_togetherIt_26 : decode cX11_togetherIt 26 = .ok (.if_icmp .ge 151, 3) := by decide +kernel
theorem dX11_togetherIt_29 : decode cX11_togetherIt 29 = .ok (.aload_n 0, 1) := by decide +kernel
theorem dX11_togetherIt_30 : decode cX11_togetherIt 30 = .ok (.getfield 9, 3) := by decide +kernel
theorem dX11_togetherIt_33 : decode cX11_togetherIt 33 = .ok (.iload_n 3, 1) := by decide +kernel
theorem dX11_togetherIt_34 : decode cX11_togetherIt 34 = .ok (.invokestatic 66, 3) := by decide +kernel
theorem dX11_togetherIt_37 : decode cX11_togetherIt 37 = .ok (.iconst 1, 1) := by decide +kernel
theorem dX11_togetherIt_38 : decode cX11_togetherIt 38 = .ok (.iadd, 1) := by decide +kernel
theorem dX11_togetherIt_39 : decode cX11_togetherIt 39 = .ok (.laload, 1) := by decide +kernel
theorem dX11_togetherIt_40 : decode cX11_togetherIt 40 = .ok (.aload_n 0, 1) := by decide +kernel
theorem dX11_togetherIt_41 : decode cX11_togetherIt 41 = .ok (.iload_n 3, 1) := by decide +kernel
theorem dX11_togetherIt_42 : decode cX11_togetherIt 42 = .ok (.iload_n 1, 1) := by decide +kernel
theorem dX11_togetherIt_43 : decode cX11_togetherIt 43 = .ok (.invokevirtual 100, 3) := by decide +kernel
theorem dX11_togetherIt_46 : decode cX11_togetherIt 46 = .ok (.lsub, 1) := by decide +kernel
theorem dX11_togetherIt_47 : decode cX11_togetherIt 47 = .ok (.aload_n 0, 1) := by decide +kernel
theorem dX11_togetherIt_48 : decode cX11_togetherIt 48 = .ok (.getfield 33, 3) := by decide +kernel
theorem dX11_togetherIt_51 : decode cX11_togetherIt 51 = .ok (.iload_n 3, 1) := by decide +kernel
theorem dX11_togetherIt_52 : decode cX11_togetherIt 52 = .ok (.baload, 1) := by decide +kernel
theorem dX11_togetherIt_53 : decode cX11_togetherIt 53 = .ok (.ifCond .eq 10, 3) := by decide +kernel
theorem dX11_togetherIt_56 : decode cX11_togetherIt 56 = .ok (.iload_n 1, 1) := by decide +kernel
theorem dX11_togetherIt_57 : decode cX11_togetherIt 57 = .ok (.invokestatic 86, 3) := by decide +kernel
theorem dX11_togetherIt_60 : decode cX11_togetherIt 60 = .ok (.goto 4, 3) := by decide +kernel
theorem dX11_togetherIt_63 : decode cX11_togetherIt 63 = .ok (.lconst 0, 1) := by decide +kernel
theorem dX11_togetherIt_64 : decode cX11_togetherIt 64 = .ok (.ladd, 1) := by decide +kernel
theorem dX11_togetherIt_65 : decode cX11_togetherIt 65 = .ok (.lstore 4, 2) := by decide +kernel
theorem dX11_togetherIt_67 : decode cX11_togetherIt 67 = .ok (.aload_n 0, 1) := by decide +kernel
theorem dX11_togetherIt_68 : decode cX11_togetherIt 68 = .ok (.getfield 9, 3) := by decide +kernel
theorem dX11_togetherIt_71 : decode cX11_togetherIt 71 = .ok (.iconst 3, 1) := by decide +kernel
theorem dX11_togetherIt_72 : decode cX11_togetherIt 72 = .ok (.dup2, 1) := by decide +kernel
theorem dX11_togetherIt_73 : decode cX11_togetherIt 73 = .ok (.laload, 1) := by decide +kernel
theorem dX11_togetherIt_74 : decode cX11_togetherIt 74 = .ok (.lload 4, 2) := by decide +kernel
theorem dX11_togetherIt_76 : decode cX11_togetherIt 76 = .ok (.aload_n 0, 1) := by decide +kernel
theorem dX11_togetherIt_77 : decode cX11_togetherIt 77 = .ok (.getfield 9, 3) := by decide +kernel
theorem dX11_togetherIt_80 : decode cX11_togetherIt 80 = .ok (.iload_n 3, 1) := by decide +kernel
theorem dX11_togetherIt_81 : decode cX11_togetherIt 81 = .ok (.invokestatic 66, 3) := by decide +kernel
theorem dX11_togetherIt_84 : decode cX11_togetherIt 84 = .ok (.iconst 1, 1) := by decide +kernel
theorem dX11_togetherIt_85 : decode cX11_togetherIt 85 = .ok (.iadd, 1) := by decide +kernel
theorem dX11_togetherIt_86 : decode cX11_togetherIt 86 = .ok (.laload, 1) := by decide +kernel
theorem dX11_togetherIt_87 : decode cX11_togetherIt 87 = .ok (.lsub, 1) := by decide +kernel
theorem dX11_togetherIt_88 : decode cX11_togetherIt 88 = .ok (.ladd, 1) := by decide +kernel
theorem dX11_togetherIt_89 : decode cX11_togetherIt 89 = .ok (.lastore, 1) := by decide +kernel
theorem dX11_togetherIt_90 : decode cX11_togetherIt 90 = .ok (.aload_n 0, 1) := by decide +kernel
theorem dX11_togetherIt_91 : decode cX11_togetherIt 91 = .ok (.getfield 9, 3) := by decide +kernel
theorem dX11_togetherIt_94 : decode cX11_togetherIt 94 = .ok (.iconst 2, 1) := by decide +kernel
theorem dX11_togetherIt_95 : decode cX11_togetherIt 95 = .ok (.dup2, 1) := by decide +kernel
theorem dX11_togetherIt_96 : decode cX11_togetherIt 96 = .ok (.laload, 1) := by decide +kernel
theorem dX11_togetherIt_97 : decode cX11_togetherIt 97 = .ok (.lload 4, 2) := by decide +kernel
theorem dX11_togetherIt_99 : decode cX11_togetherIt 99 = .ok (.ldc2_w 98, 3) := by decide +kernel
theorem dX11_togetherIt_102 : decode cX11_togetherIt 102 = .ok (.lcmp, 1) := by decide +kernel
theorem dX11_togetherIt_103 : decode cX11_togetherIt 103 = .ok (.ifCond .lt 7, 3) := by decide +kernel
theorem dX11_togetherIt_106 : decode cX11_togetherIt 106 = .ok (.lconst 1, 1) := by decide +kernel
theorem dX11_togetherIt_107 : decode cX11_togetherIt 107 = .ok (.goto 4, 3) := by decide +kernel
theorem dX11_togetherIt_110 : decode cX11_togetherIt 110 = .ok (.lconst 0, 1) := by decide +kernel
theorem dX11_togetherIt_111 : decode cX11_togetherIt 111 = .ok (.ladd, 1) := by decide +kernel
theorem dX11_togetherIt_112 : decode cX11_togetherIt 112 = .ok (.lastore, 1) := by decide +kernel
theorem dX11_togetherIt_113 : decode cX11_togetherIt 113 = .ok (.aload_n 0, 1) := by decide +kernel
theorem dX11_togetherIt_114 : decode cX11_togetherIt 114 = .ok (.getfield 9, 3) := by decide +kernel
theorem dX11_togetherIt_117 : decode cX11_togetherIt 117 = .ok (.iload_n 3, 1) := by decide +kernel
theorem dX11_togetherIt_118 : decode cX11_togetherIt 118 = .ok (.invokestatic 66, 3) := by decide +kernel
theorem dX11_togetherIt_121 : decode cX11_togetherIt 121 = .ok (.iconst 1, 1) := by decide +kernel
theorem dX11_togetherIt_122 : decode cX11_togetherIt 122 = .ok (.iadd, 1) := by decide +kernel
theorem dX11_togetherIt_123 : decode cX11_togetherIt 123 = .ok (.lload 4, 2) := by decide +kernel
theorem dX11_togetherIt_125 : decode cX11_togetherIt 125 = .ok (.ldc2_w 98, 3) := by decide +kernel
theorem dX11_togetherIt_128 : decode cX11_togetherIt 128 = .ok (.lcmp, 1) := by decide +kernel
theorem dX11_togetherIt_129 : decode cX11_togetherIt 129 = .ok (.ifCond .lt 12, 3) := by decide +kernel
theorem dX11_togetherIt_132 : decode cX11_togetherIt 132 = .ok (.lload 4, 2) := by decide +kernel
theorem dX11_togetherIt_134 : decode cX11_togetherIt 134 = .ok (.ldc2_w 98, 3) := by decide +kernel
theorem dX11_togetherIt_137 : decode cX11_togetherIt 137 = .ok (.lsub, 1) := by decide +kernel
theorem dX11_togetherIt_138 : decode cX11_togetherIt 138 = .ok (.goto 5, 3) := by decide +kernel
theorem dX11_togetherIt_141 : decode cX11_togetherIt 141 = .ok (.lload 4, 2) := by decide +kernel
theorem dX11_togetherIt_143 : decode cX11_togetherIt 143 = .ok (.lastore, 1) := by decide +kernel
theorem dX11_togetherIt_144 : decode cX11_togetherIt 144 = .ok (.aload_n 0, 1) := by decide +kernel
theorem dX11_togetherIt_145 : decode cX11_togetherIt 145 = .ok (.getfield 9, 3) := by decide +kernel
theorem dX11_togetherIt_148 : decode cX11_togetherIt 148 = .ok (.iload_n 3, 1) := by decide +kernel
theorem dX11_togetherIt_149 : decode cX11_togetherIt 149 = .ok (.invokestatic 66, 3) := by decide +kernel
theorem dX11_togetherIt_152 : decode cX11_togetherIt 152 = .ok (.iconst 2, 1) := by decide +kernel
theorem dX11_togetherIt_153 : decode cX11_togetherIt 153 = .ok (.iadd, 1) := by decide +kernel
theorem dX11_togetherIt_154 : decode cX11_togetherIt 154 = .ok (.aload_n 0, 1) := by decide +kernel
theorem dX11_togetherIt_155 : decode cX11_togetherIt 155 = .ok (.getfield 9, 3) := by decide +kernel
theorem dX11_togetherIt_158 : decode cX11_togetherIt 158 = .ok (.iload_n 3, 1) := by decide +kernel
theorem dX11_togetherIt_159 : decode cX11_togetherIt 159 = .ok (.invokestatic 66, 3) := by decide +kernel
theorem dX11_togetherIt_162 : decode cX11_togetherIt 162 = .ok (.iconst 2, 1) := by decide +kernel
theorem dX11_togetherIt_163 : decode cX11_togetherIt 163 = .ok (.iadd, 1) := by decide +kernel
theorem dX11_togetherIt_164 : decode cX11_togetherIt 164 = .ok (.laload, 1) := by decide +kernel
theorem dX11_togetherIt_165 : decode cX11_togetherIt 165 = .ok (.iload_n 1, 1) := by decide +kernel
theorem dX11_togetherIt_166 : decode cX11_togetherIt 166 = .ok (.i2l, 1) := by decide +kernel
theorem dX11_togetherIt_167 : decode cX11_togetherIt 167 = .ok (.invokestatic 172, 3) := by decide +kernel
theorem dX11_togetherIt_170 : decode cX11_togetherIt 170 = .ok (.lastore, 1) := by decide +kernel
theorem dX11_togetherIt_171 : decode cX11_togetherIt 171 = .ok (.iinc 3 1, 3) := by decide +kernel
theorem dX11_togetherIt_174 : decode cX11_togetherIt 174 = .ok (.goto (-153), 3) := by decide +kernel
theorem dX11_togetherIt_177 : decode cX11_togetherIt 177 = .ok (.iload_n 2, 1) := by decide +kernel
theorem dX11_togetherIt_178 : decode cX11_togetherIt 178 = .ok (.ireturn, 1) := by decide +kernel
theorem dX11_roundTogether_0 : decode cX11_roundTogether 0 = .ok (.aload_n 0, 1) := by decide +kernel
theorem dX11_roundTogether_1 : decode cX11_roundTogether 1 = .ok (.invokevirtual 129, 3) := by decide +kernel
theorem dX11_roundTogether_4 : decode cX11_roundTogether 4 = .ok (.aload_n 0, 1) := by decide +kernel
theorem dX11_roundTogether_5 : decode cX11_roundTogether 5 = .ok (.iload_n 1, 1) := by decide +kernel
theorem dX11_roundTogether_6 : decode cX11_roundTogether 6 = .ok (.invokevirtual 178, 3) := by decide +kernel
theorem dX11_roundTogether_9 : decode cX11_roundTogether 9 = .ok (.istore_n 2, 1) := by decide +kernel
theorem dX11_roundTogether_10 : decode cX11_roundTogether 10 = .ok (.aload_n 0, 1) := by decide +kernel
theorem dX11_roundTogether_11 : decode cX11_roundTogether 11 = .ok (.invokevirtual 136, 3) := by decide +kernel
theorem dX11_roundTogether_14 : decode cX11_roundTogether 14 = .ok (.iload_n 2, 1) := by decide +kernel
theorem dX11_roundTogether_15 : decode cX11_roundTogether 15 = .ok (.ireturn, 1) := by decide +kernel
theorem dX11_count_0 : decode cX11_count 0 = .ok (.aload_n 0, 1) := by decide +kernel
theorem dX11_count_1 : decode cX11_count 1 = .ok (.iconst 0, 1) := by decide +kernel
theorem dX11_count_2 : decode cX11_count 2 = .ok (.putfield 56, 3) := by decide +kernel
theorem dX11_count_5 : decode cX11_count 5 = .ok (.aload_n 0, 1) := by decide +kernel
theorem dX11_count_6 : decode cX11_count 6 = .ok (.invokevirtual 62, 3) := by decide +kernel
theorem dX11_count_9 : decode cX11_count 9 = .ok (.ireturn, 1) := by decide +kernel
theorem dX11_numberAt_0 : decode cX11_numberAt 0 = .ok (.aload_n 0, 1) := by decide +kernel
theorem dX11_numberAt_1 : decode cX11_numberAt 1 = .ok (.iconst 0, 1) := by decide +kernel
theorem dX11_numberAt_2 : decode cX11_numberAt 2 = .ok (.putfield 56, 3) := by decide +kernel
theorem dX11_numberAt_5 : decode cX11_numberAt 5 = .ok (.iload_n 1, 1) := by decide +kernel
theorem dX11_numberAt_6 : decode cX11_numberAt 6 = .ok (.i2l, 1) := by decide +kernel
theorem dX11_numberAt_7 : decode cX11_numberAt 7 = .ok (.lconst 0, 1) := by decide +kernel
theorem dX11_numberAt_8 : decode cX11_numberAt 8 = .ok (.aload_n 0, 1) := by decide +kernel
theorem dX11_numberAt_9 : decode cX11_numberAt 9 = .ok (.invokevirtual 62, 3) := by decide +kernel
theorem dX11_numberAt_12 : decode cX11_numberAt 12 = .ok (.iconst 1, 1) := by decide +kernel
theorem dX11_numberAt_13 : decode cX11_numberAt 13 = .ok (.isub, 1) := by decide +kernel
theorem dX11_numberAt_14 : decode cX11_numberAt 14 = .ok (.i2l, 1) := by decide +kernel
