theorem dX0_init_0 : decode cX0_init 0 = .ok (.aload_n 0, 1) := by decide +kernel
theorem dX0_init_1 : decode cX0_init 1 = .ok (.invokespecial 3, 3) := by decide +kernel
theorem dX0_init_4 : decode cX0_init 4 = .ok (.aload_n 0, 1) := by decide +kernel
theorem dX0_init_5 : decode cX0_init 5 = .ok (.iload_n 1, 1) := by decide +kernel
theorem dX0_init_6 : decode cX0_init 6 = .ok (.putfield 9, 3) := by decide +kernel
theorem dX0_init_9 : decode cX0_init 9 = .ok (.aload_n 0, 1) := by decide +kernel
theorem dX0_init_10 : decode cX0_init 10 = .ok (.iload_n 2, 1) := by decide +kernel
theorem dX0_init_11 : decode cX0_init 11 = .ok (.putfield 15, 3) := by decide +kernel
theorem dX0_init_14 : decode cX0_init 14 = .ok (.aload_n 0, 1) := by decide +kernel
theorem dX0_init_15 : decode cX0_init 15 = .ok (.iload_n 3, 1) := by decide +kernel
theorem dX0_init_16 : decode cX0_init 16 = .ok (.putfield 18, 3) := by decide +kernel
theorem dX0_init_19 : decode cX0_init 19 = .ok (.aload_n 0, 1) := by decide +kernel
theorem dX0_init_20 : decode cX0_init 20 = .ok (.iload 4, 2) := by decide +kernel
theorem dX0_init_22 : decode cX0_init 22 = .ok (.putfield 22, 3) := by decide +kernel
theorem dX0_init_25 : decode cX0_init 25 = .ok (.aload_n 0, 1) := by decide +kernel
theorem dX0_init_26 : decode cX0_init 26 = .ok (.iload 5, 2) := by decide +kernel
theorem dX0_init_28 : decode cX0_init 28 = .ok (.putfield 25, 3) := by decide +kernel
theorem dX0_init_31 : decode cX0_init 31 = .ok (.return_, 1) := by decide +kernel
theorem dX0_roundSeconds_0 : decode cX0_roundSeconds 0 = .ok (.bipush 60, 2) := by decide +kernel
theorem dX0_roundSeconds_2 : decode cX0_roundSeconds 2 = .ok (.aload_n 0, 1) := by decide +kernel
theorem dX0_roundSeconds_3 : decode cX0_roundSeconds 3 = .ok (.getfield 15, 3) := by decide +kernel
theorem dX0_roundSeconds_6 : decode cX0_roundSeconds 6 = .ok (.imul, 1) := by decide +kernel
theorem dX0_roundSeconds_7 : decode cX0_roundSeconds 7 = .ok (.istore_n 2, 1) := by decide +kernel
theorem dX0_roundSeconds_8 : decode cX0_roundSeconds 8 = .ok (.iload_n 2, 1) := by decide +kernel
theorem dX0_roundSeconds_9 : decode cX0_roundSeconds 9 = .ok (.ifCond .gt 5, 3) := by decide +kernel
theorem dX0_roundSeconds_12 : decode cX0_roundSeconds 12 = .ok (.iconst 0, 1) := by decide +kernel
theorem dX0_roundSeconds_13 : decode cX0_roundSeconds 13 = .ok (.ireturn, 1) := by decide +kernel
theorem dX0_roundSeconds_14 : decode cX0_roundSeconds 14 = .ok (.aload_n 0, 1) := by decide +kernel
theorem dX0_roundSeconds_15 : decode cX0_roundSeconds 15 = .ok (.getfield 18, 3) := by decide +kernel
theorem dX0_roundSeconds_18 : decode cX0_roundSeconds 18 = .ok (.bipush 117, 2) := by decide +kernel
theorem dX0_roundSeconds_20 : decode cX0_roundSeconds 20 = .ok (.if_icmp .ne 16, 3) := by decide +kernel
theorem dX0_roundSeconds_23 : decode cX0_roundSeconds 23 = .ok (.iload_n 1, 1) := by decide +kernel
theorem dX0_roundSeconds_24 : decode cX0_roundSeconds 24 = .ok (.iload_n 2, 1) := by decide +kernel
theorem dX0_roundSeconds_25 : decode cX0_roundSeconds 25 = .ok (.iadd, 1) := by decide +kernel
theorem dX0_roundSeconds_26 : decode cX0_roundSeconds 26 = .ok (.iconst 1, 1) := by decide +kernel
theorem dX0_roundSeconds_27 : decode cX0_roundSeconds 27 = .ok (.isub, 1) := by decide +kernel
theorem dX0_roundSeconds_28 : decode cX0_roundSeconds 28 = .ok (.iload_n 2, 1) := by decide +kernel
theorem dX0_roundSeconds_29 : decode cX0_roundSeconds 29 = .ok (.idiv, 1) := by decide +kernel
theorem dX0_roundSeconds_30 : decode cX0_roundSeconds 30 = .ok (.aload_n 0, 1) := by decide +kernel
theorem dX0_roundSeconds_31 : decode cX0_roundSeconds 31 = .ok (.getfield 15, 3) := by decide +kernel
theorem dX0_roundSeconds_34 : decode cX0_roundSeconds 34 = .ok (.imul, 1) := by decide +kernel
theorem dX0_roundSeconds_35 : decode cX0_roundSeconds 35 = .ok (.ireturn, 1) := by decide +kernel
theorem dX0_roundSeconds_36 : decode cX0_roundSeconds 36 = .ok (.aload_n 0, 1) := by decide +kernel
theorem dX0_roundSeconds_37 : decode cX0_roundSeconds 37 = .ok (.getfield 18, 3) := by decide +kernel
theorem dX0_roundSeconds_40 : decode cX0_roundSeconds 40 = .ok (.bipush 110, 2) := by decide +kernel
theorem dX0_roundSeconds_42 : decode cX0_roundSeconds 42 = .ok (.if_icmp .ne 18, 3) := by decide +kernel
theorem dX0_roundSeconds_45 : decode cX0_roundSeconds 45 = .ok (.iconst 2, 1) := by decide +kernel
theorem dX0_roundSeconds_46 : decode cX0_roundSeconds 46 = .ok (.iload_n 1, 1) := by decide +kernel
theorem dX0_roundSeconds_47 : decode cX0_roundSeconds 47 = .ok (.imul, 1) := by decide +kernel
theorem dX0_roundSeconds_48 : decode cX0_roundSeconds 48 = .ok (.iload_n 2, 1) := by decide +kernel
theorem dX0_roundSeconds_49 : decode cX0_roundSeconds 49 = .ok (.iadd, 1) := by decide +kernel
theorem dX0_roundSeconds_50 : decode cX0_roundSeconds 50 = .ok (.iconst 2, 1) := by decide +kernel
theorem dX0_roundSeconds_51 : decode cX0_roundSeconds 51 = .ok (.iload_n 2, 1) := by decide +kernel
theorem dX0_roundSeconds_52 : decode cX0_roundSeconds 52 = .ok (.imul, 1) := by decide +kernel
theorem dX0_roundSeconds_53 : decode cX0_roundSeconds 53 = .ok (.idiv, 1) := by decide +kernel
theorem dX0_roundSeconds_54 : decode cX0_roundSeconds 54 = .ok (.aload_n 0, 1) := by decide +kernel
theorem dX0_roundSeconds_55 : decode cX0_roundSeconds 55 = .ok (.getfield 15, 3) := by decide +kernel
theorem dX0_roundSeconds_58 : decode cX0_roundSeconds 58 = .ok (.imul, 1) := by decide +kernel
theorem dX0_roundSeconds_59 : decode cX0_roundSeconds 59 = .ok (.ireturn, 1) := by decide +kernel
theorem dX0_roundSeconds_60 : decode cX0_roundSeconds 60 = .ok (.iload_n 1, 1) := by decide +kernel
theorem dX0_roundSeconds_61 : decode cX0_roundSeconds 61 = .ok (.iload_n 2, 1) := by decide +kernel
theorem dX0_roundSeconds_62 : decode cX0_roundSeconds 62 = .ok (.idiv, 1) := by decide +kernel
theorem dX0_roundSeconds_63 : decode cX0_roundSeconds 63 = .ok (.aload_n 0, 1) := by decide +kernel
theorem dX0_roundSeconds_64 : decode cX0_roundSeconds 64 = .ok (.getfield 15, 3) := by decide +kernel
theorem dX0_roundSeconds_67 : decode cX0_roundSeconds 67 = .ok (.imul, 1) := by decide +kernel
theorem dX0_roundSeconds_68 : decode cX0_roundSeconds 68 = .ok (.ireturn, 1) := by decide +kernel
theorem dX1_init_0 : decode cX1_init 0 = .ok (.aload_n 0, 1) := by decide +kernel
theorem dX1_init_1 : decode cX1_init 1 = .ok (.invokespecial 1, 3) := by decide +kernel
theorem dX1_init_4 : decode cX1_init 4 = .ok (.aload_n 0, 1) := by decide +kernel
theorem dX1_init_5 : decode cX1_init 5 = .ok (.aload_n 1, 1) := by decide +kernel
theorem dX1_init_6 : decode cX1_init 6 = .ok (.putfield 7, 3) := by decide +kernel
theorem dX1_init_9 : decode cX1_init 9 = .ok (.aload_n 0, 1) := by decide +kernel
theorem dX1_init_10 : decode cX1_init 10 = .ok (.iload_n 2, 1) := by decide +kernel
theorem dX1_init_11 : decode cX1_init 11 = .ok (.putfield 13, 3) := by decide +kernel
theorem dX1_init_14 : decode cX1_init 14 = .ok (.return_, 1) := by decide +kernel
theorem dX1_waitsFor_0 : decode cX1_waitsFor 0 = .ok (.aload_n 0, 1) := by decide +kernel
theorem dX1_waitsFor_1 : decode cX1_waitsFor 1 = .ok (.getfield 17, 3) := by decide +kernel
theorem dX1_waitsFor_4 : decode cX1_waitsFor 4 = .ok (.ifCond .ne 18, 3) := by decide +kernel
theorem dX1_waitsFor_7 : decode cX1_waitsFor 7 = .ok (.aload_n 0, 1) := by decide +kernel
theorem dX1_waitsFor_8 : decode cX1_waitsFor 8 = .ok (.getfield 7, 3) := by decide +kernel
theorem dX1_waitsFor_11 : decode cX1_waitsFor 11 = .ok (.getfield 21, 3) := by decide +kernel
theorem dX1_waitsFor_14 : decode cX1_waitsFor 14 = .ok (.aload_n 1, 1) := by decide +kernel
theorem dX1_waitsFor_15 : decode cX1_waitsFor 15 = .ok (.if_acmp .ne 7, 3) := by decide +kernel
theorem dX1_waitsFor_18 : decode cX1_waitsFor 18 = .ok (.iconst 1, 1) := by decide +kernel
theorem dX1_waitsFor_19 : decode cX1_waitsFor 19 = .ok (.goto 4, 3) := by decide +kernel
theorem dX1_waitsFor_22 : decode cX1_waitsFor 22 = .ok (.iconst 0, 1) := by decide +kernel
theorem dX1_waitsFor_23 : decode cX1_waitsFor 23 = .ok (.ireturn, 1) := by decide +kernel
theorem dX2_init_0 : decode cX2_init 0 = .ok (.aload_n 0, 1) := by decide +kernel
theorem dX2_init_1 : decode cX2_init 1 = .ok (.invokespecial 3, 3) := by decide +kernel
theorem dX2_init_4 : decode cX2_init 4 = .ok (.aload_n 0, 1) := by decide +kernel
theorem dX2_init_5 : decode cX2_init 5 = .ok (.iload_n 1, 1) := by decide +kernel
theorem dX2_init_6 : decode cX2_init 6 = .ok (.putfield 9, 3) := by decide +kernel
theorem dX2_init_9 : decode cX2_init 9 = .ok (.aload_n 0, 1) := by decide +kernel
theorem dX2_init_10 : decode cX2_init 10 = .ok (.aload_n 2, 1) := by decide +kernel
theorem dX2_init_11 : decode cX2_init 11 = .ok (.putfield 15, 3) := by decide +kernel
theorem dX2_init_14 : decode cX2_init 14 = .ok (.aload_n 0, 1) := by decide +kernel
theorem dX2_init_15 : decode cX2_init 15 = .ok (.iload_n 3, 1) := by decide +kernel
theorem dX2_init_16 : decode cX2_init 16 = .ok (.putfield 19, 3) := by decide +kernel
theorem dX2_init_19 : decode cX2_init 19 = .ok (.aload_n 0, 1) := by decide +kernel
theorem dX2_init_20 : decode cX2_init 20 = .ok (.iload 4, 2) := by decide +kernel
theorem dX2_init_22 : decode cX2_init 22 = .ok (.putfield 22, 3) := by decide +kernel
theorem dX2_init_25 : decode cX2_init 25 = .ok (.aload_n 0, 1) := by decide +kernel
theorem dX2_init_26 : decode cX2_init 26 = .ok (.iload 5, 2) := by decide +kernel
theorem dX2_init_28 : decode cX2_init 28 = .ok (.putfield 25, 3) := by decide +kernel
theorem dX2_init_31 : decode cX2_init 31 = .ok (.return_, 1) := by decide +kernel
theorem dX2_isOpen_0 : decode cX2_isOpen 0 = .ok (.aload_n 0, 1) := by decide +kernel
theorem dX2_isOpen_1 : decode cX2_isOpen 1 = .ok (.getfield 25, 3) := by decide +kernel
theorem dX2_isOpen_4 : decode cX2_isOpen 4 = .ok (.bipush 114, 2) := by decide +kernel
theorem dX2_isOpen_6 : decode cX2_isOpen 6 = .ok (.if_icmp .eq 12, 3) := by decide +kernel
theorem dX2_isOpen_9 : decode cX2_isOpen 9 = .ok (.aload_n 0, 1) := by decide +kernel
theorem dX2_isOpen_10 : decode cX2_isOpen 10 = .ok (.getfield 25, 3) := by decide +kernel
theorem dX2_isOpen_13 : decode cX2_isOpen 13 = .ok (.bipush 101, 2) := by decide +kernel
theorem dX2_isOpen_15 : decode cX2_isOpen 15 = .ok (.if_icmp .ne 7, 3) := by decide +kernel
theorem dX2_isOpen_18 : decode cX2_isOpen 18 = .ok (.iconst 1, 1) := by decide +kernel
theorem dX2_isOpen_19 : decode cX2_isOpen 19 = .ok (.goto 4, 3) := by decide +kernel
theorem dX2_isOpen_22 : decode cX2_isOpen 22 = .ok (.iconst 0, 1) := by decide +kernel
theorem dX2_isOpen_23 : decode cX2_isOpen 23 = .ok (.ireturn, 1) := by decide +kernel
theorem dX2_covers_0 : decode cX2_covers 0 = .ok (.aload_n 0, 1) := by decide +kernel
theorem dX2_covers_1 : decode cX2_covers 1 = .ok (.getfield 19, 3) := by decide +kernel
theorem dX2_covers_4 : decode cX2_covers 4 = .ok (.iload_n 1, 1) := by decide +kernel
theorem dX2_covers_5 : decode cX2_covers 5 = .ok (.if_icmp .gt 24, 3) := by decide +kernel
theorem dX2_covers_8 : decode cX2_covers 8 = .ok (.iload_n 1, 1) := by decide +kernel
theorem dX2_covers_9 : decode cX2_covers 9 = .ok (.aload_n 0, 1) := by decide +kernel
theorem dX2_covers_10 : decode cX2_covers 10 = .ok (.getfield 22, 3) := by decide +kernel
theorem dX2_covers_13 : decode cX2_covers 13 = .ok (.if_icmp .ge 16, 3) := by decide +kernel
theorem dX2_covers_16 : decode cX2_covers 16 = .ok (.aload_n 0, 1) := by decide +kernel
theorem dX2_covers_17 : decode cX2_covers 17 = .ok (.getfield 25, 3) := by decide +kernel
theorem dX2_covers_20 : decode cX2_covers 20 = .ok (.bipush 120, 2) := by decide +kernel
theorem dX2_covers_22 : decode cX2_covers 22 = .ok (.if_icmp .eq 7, 3) := by decide +kernel
theorem dX2_covers_25 : decode cX2_covers 25 = .ok (.iconst 1, 1) := by decide +kernel
theorem dX2_covers_26 : decode cX2_covers 26 = .ok (.goto 4, 3) := by decide +kernel
theorem dX2_covers_29 : decode cX2_covers 29 = .ok (.iconst 0, 1) := by decide +kernel
theorem dX2_covers_30 : decode cX2_covers 30 = .ok (.ireturn, 1) := by decide +kernel
theorem dX3_init_0 : decode cX3_init 0 = .ok (.aload_n 0, 1) := by decide +kernel
theorem dX3_init_1 : decode cX3_init 1 = .ok (.invokespecial 1, 3) := by decide +kernel
theorem dX3_init_4 : decode cX3_init 4 = .ok (.aload_n 0, 1) := by decide +kernel
theorem dX3_init_5 : decode cX3_init 5 = .ok (.new 7, 3) := by decide +kernel
theorem dX3_init_8 : decode cX3_init 8 = .ok (.dup, 1) := by decide +kernel
theorem dX3_init_9 : decode cX3_init 9 = .ok (.invokespecial 9, 3) := by decide +kernel
theorem dX3_init_12 : decode cX3_init 12 = .ok (.putfield 10, 3) := by decide +kernel
theorem dX3_init_15 : decode cX3_init 15 = .ok (.aload_n 0, 1) := by decide +kernel
theorem dX3_init_16 : decode cX3_init 16 = .ok (.fconst 0, 1) := by decide +kernel
theorem dX3_init_17 : decode cX3_init 17 = .ok (.putfield 16, 3) := by decide +kernel
theorem dX3_init_20 : decode cX3_init 20 = .ok (.aload_n 0, 1) := by decide +kernel
theorem dX3_init_21 : decode cX3_init 21 = .ok (.aload_n 1, 1) := by decide +kernel
theorem dX3_init_22 : decode cX3_init 22 = .ok (.putfield 20, 3) := by decide +kernel
theorem dX3_init_25 : decode cX3_init 25 = .ok (.return_, 1) := by decide +kernel
theorem dX3_addLine_0 : decode cX3_addLine 0 = .ok (.iload_n 2, 1) := by decide +kernel
theorem dX3_addLine_1 : decode cX3_addLine 1 = .ok (.i2f, 1) := by decide +kernel
theorem dX3_addLine_2 : decode cX3_addLine 2 = .ok (.aload_n 0, 1) := by decide +kernel
theorem dX3_addLine_3 : decode cX3_addLine 3 = .ok (.getfield 20, 3) := by decide +kernel
theorem dX3_addLine_6 : decode cX3_addLine 6 = .ok (.getfield 24, 3) := by decide +kernel
theorem dX3_addLine_9 : decode cX3_addLine 9 = .ok (.i2f, 1) := by decide +kernel
theorem dX3_addLine_10 : decode cX3_addLine 10 = .ok (.fmul, 1) := by decide +kernel
theorem dX3_addLine_11 : decode cX3_addLine 11 = .ok (.ldc 30, 2) := by decide +kernel
theorem dX3_addLine_13 : decode cX3_addLine 13 = .ok (.fdiv, 1) := by decide +kernel
theorem dX3_addLine_14 : decode cX3_addLine 14 = .ok (.fstore 4, 2) := by decide +kernel
theorem dX3_addLine_16 : decode cX3_addLine 16 = .ok (.aload_n 0, 1) := by decide +kernel
theorem dX3_addLine_17 : decode cX3_addLine 17 = .ok (.getfield 10, 3) := by decide +kernel
theorem dX3_addLine_20 : decode cX3_addLine 20 = .ok (.new 31, 3) := by decide +kernel
theorem dX3_addLine_23 : decode cX3_addLine 23 = .ok (.dup, 1) := by decide +kernel
theorem dX3_addLine_24 : decode cX3_addLine 24 = .ok (.iload_n 1, 1) := by decide +kernel
theorem dX3_addLine_25 : decode cX3_addLine 25 = .ok (.iload_n 2, 1) := by decide +kernel
theorem dX3_addLine_26 : decode cX3_addLine 26 = .ok (.iload_n 3, 1) := by decide +kernel
theorem dX3_addLine_27 : decode cX3_addLine 27 = .ok (.fload 4, 2) := by decide +kernel
theorem dX3_addLine_29 : decode cX3_addLine 29 = .ok (.invokespecial 33, 3) := by decide +kernel
theorem dX3_addLine_32 : decode cX3_addLine 32 = .ok (.invokevirtual 36, 3) := by decide +kernel
theorem dX3_addLine_35 : decode cX3_addLine 35 = .ok (.pop, 1) := by decide +kernel
theorem dX3_addLine_36 : decode cX3_addLine 36 = .ok (.aload_n 0, 1) := by decide +kernel
theorem dX3_addLine_37 : decode cX3_addLine 37 = .ok (.dup, 1) := by decide +kernel
theorem dX3_addLine_38 : decode cX3_addLine 38 = .ok (.getfield 40, 3) := by decide +kernel
theorem dX3_addLine_41 : decode cX3_addLine 41 = .ok (.iload_n 2, 1) := by decide +kernel
theorem dX3_addLine_42 : decode cX3_addLine 42 = .ok (.iadd, 1) := by decide +kernel
theorem dX3_addLine_43 : decode cX3_addLine 43 = .ok (.putfield 40, 3) := by decide +kernel
theorem dX3_addLine_46 : decode cX3_addLine 46 = .ok (.aload_n 0, 1) := by decide +kernel
theorem dX3_addLine_47 : decode cX3_addLine 47 = .ok (.aload_n 0, 1) := by decide +kernel
theorem dX3_addLine_48 : decode cX3_addLine 48 = .ok (.getfield 16, 3) := by decide +kernel
theorem dX3_addLine_51 : decode cX3_addLine 51 = .ok (.fload 4, 2) := by decide +kernel
theorem dX3_addLine_53 : decode cX3_addLine 53 = .ok (.fadd, 1) := by decide +kernel
theorem dX3_addLine_54 : decode cX3_addLine 54 = .ok (.putfield 16, 3) := by decide +kernel
theorem dX3_addLine_57 : decode cX3_addLine 57 = .ok (.return_, 1) := by decide +kernel
theorem dX3_sumOfMinutes_0 : decode cX3_sumOfMinutes 0 = .ok (.iconst 0, 1) := by decide +kernel
theorem dX3_sumOfMinutes_1 : decode cX3_sumOfMinutes 1 = .ok (.istore_n 1, 1) := by decide +kernel
theorem dX3_sumOfMinutes_2 : decode cX3_sumOfMinutes 2 = .ok (.iconst 0, 1) := by decide +kernel
theorem dX3_sumOfMinutes_3 : decode cX3_sumOfMinutes 3 = .ok (.istore_n 2, 1) := by decide +kernel
theorem dX3_sumOfMinutes_4 : decode cX3_sumOfMinutes 4 = .ok (.iload_n 2, 1) := by decide +kernel
theorem dX3_sumOfMinutes_5 : decode cX3_sumOfMinutes 5 = .ok (.aload_n 0, 1) := by decide +kernel
theorem dX3_sumOfMinutes_6 : decode cX3_sumOfMinutes 6 = .ok (.getfield 10, 3) := by decide +kernel
theorem dX3_sumOfMinutes_9 : decode cX3_sumOfMinutes 9 = .ok (.invokevirtual 43, 3) := by decide +kernel
theorem dX3_sumOfMinutes_12 : decode cX3_sumOfMinutes 12 = .ok (.if_icmp .ge 26, 3) := by decide +kernel
theorem dX3_sumOfMinutes_15 : decode cX3_sumOfMinutes 15 = .ok (.iload_n 1, 1) := by decide +kernel
theorem dX3_sumOfMinutes_16 : decode cX3_sumOfMinutes 16 = .ok (.aload_n 0, 1) := by decide +kernel
theorem dX3_sumOfMinutes_17 : decode cX3_sumOfMinutes 17 = .ok (.getfield 10, 3) := by decide +kernel
theorem dX3_sumOfMinutes_20 : decode cX3_sumOfMinutes 20 = .ok (.iload_n 2, 1) := by decide +kernel
theorem dX3_sumOfMinutes_21 : decode cX3_sumOfMinutes 21 = .ok (.invokevirtual 47, 3) := by decide +kernel
theorem dX3_sumOfMinutes_24 : decode cX3_sumOfMinutes 24 = .ok (.checkcast 31, 3) := by decide +kernel
theorem dX3_sumOfMinutes_27 : decode cX3_sumOfMinutes 27 = .ok (.getfield 51, 3) := by decide +kernel
theorem dX3_sumOfMinutes_30 : decode cX3_sumOfMinutes 30 = .ok (.iadd, 1) := by decide +kernel
theorem dX3_sumOfMinutes_31 : decode cX3_sumOfMinutes 31 = .ok (.istore_n 1, 1) := by decide +kernel
theorem dX3_sumOfMinutes_32 : decode cX3_sumOfMinutes 32 = .ok (.iinc 2 1, 3) := by decide +kernel
theorem dX3_sumOfMinutes_35 : decode cX3_sumOfMinutes 35 = .ok (.goto (-31), 3) := by decide +kernel
theorem dX3_sumOfMinutes_38 : decode cX3_sumOfMinutes 38 = .ok (.iload_n 1, 1) := by decide +kernel
theorem dX3_sumOfMinutes_39 : decode cX3_sumOfMinutes 39 = .ok (.ireturn, 1) := by decide +kernel
theorem dX3_sumOfAmounts_0 : decode cX3_sumOfAmounts 0 = .ok (.fconst 0, 1) := by decide +kernel
theorem dX3_sumOfAmounts_1 : decode cX3_sumOfAmounts 1 = .ok (.fstore_n 1, 1) := by decide +kernel
theorem dX3_sumOfAmounts_2 : decode cX3_sumOfAmounts 2 = .ok (.iconst 0, 1) := by decide +kernel
theorem dX3_sumOfAmounts_3 : decode cX3_sumOfAmounts 3 = .ok (.istore_n 2, 1) := by decide +kernel
theorem dX3_sumOfAmounts_4 : decode cX3_sumOfAmounts 4 = .ok (.iload_n 2, 1) := by decide +kernel
theorem dX3_sumOfAmounts_5 : decode cX3_sumOfAmounts 5 = .ok (.aload_n 0, 1) := by decide +kernel
theorem dX3_sumOfAmounts_6 : decode cX3_sumOfAmounts 6 = .ok (.getfield 10, 3) := by decide +kernel
theorem dX3_sumOfAmounts_9 : decode cX3_sumOfAmounts 9 = .ok (.invokevirtual 43, 3) := by decide +kernel
theorem dX3_sumOfAmounts_12 : decode cX3_sumOfAmounts 12 = .ok (.if_icmp .ge 26, 3) := by decide +kernel
theorem dX3_sumOfAmounts_15 : decode cX3_sumOfAmounts 15 = .ok (.fload_n 1, 1) := by decide +kernel
theorem dX3_sumOfAmounts_16 : decode cX3_sumOfAmounts 16 = .ok (.aload_n 0, 1) := by decide +kernel
theorem dX3_sumOfAmounts_17 : decode cX3_sumOfAmounts 17 = .ok (.getfield 10, 3) := by decide +kernel
theorem dX3_sumOfAmounts_20 : decode cX3_sumOfAmounts 20 = .ok (.iload_n 2, 1) := by decide +kernel
theorem dX3_sumOfAmounts_21 : decode cX3_sumOfAmounts 21 = .ok (.invokevirtual 47, 3) := by decide +kernel
theorem dX3_sumOfAmounts_24 : decode cX3_sumOfAmounts 24 = .ok (.checkcast 31, 3) := by decide +kernel
theorem dX3_sumOfAmounts_27 : decode cX3_sumOfAmounts 27 = .ok (.getfield 52, 3) := by decide +kernel
theorem dX3_sumOfAmounts_30 : decode cX3_sumOfAmounts 30 = .ok (.fadd, 1) := by decide +kernel
theorem dX3_sumOfAmounts_31 : decode cX3_sumOfAmounts 31 = .ok (.fstore_n 1, 1) := by decide +kernel
theorem dX3_sumOfAmounts_32 : decode cX3_sumOfAmounts 32 = .ok (.iinc 2 1, 3) := by decide +kernel
theorem dX3_sumOfAmounts_35 : decode cX3_sumOfAmounts 35 = .ok (.goto (-31), 3) := by decide +kernel
theorem dX3_sumOfAmounts_38 : decode cX3_sumOfAmounts 38 = .ok (.fload_n 1, 1) := by decide +kernel
theorem dX3_sumOfAmounts_39 : decode cX3_sumOfAmounts 39 = .ok (.freturn, 1) := by decide +kernel
theorem dX4_init_0 : decode cX4_init 0 = .ok (.aload_n 0, 1) := by decide +kernel
theorem dX4_init_1 : decode cX4_init 1 = .ok (.invokespecial 1, 3) := by decide +kernel
theorem dX4_init_4 : decode cX4_init 4 = .ok (.aload_n 0, 1) := by decide +kernel
theorem dX4_init_5 : decode cX4_init 5 = .ok (.iload_n 1, 1) := by decide +kernel
theorem dX4_init_6 : decode cX4_init 6 = .ok (.putfield 7, 3) := by decide +kernel
theorem dX4_init_9 : decode cX4_init 9 = .ok (.aload_n 0, 1) := by decide +kernel
theorem dX4_init_10 : decode cX4_init 10 = .ok (.iload_n 2, 1) := by decide +kernel
theorem dX4_init_11 : decode cX4_init 11 = .ok (.putfield 13, 3) := by decide +kernel
theorem dX4_init_14 : decode cX4_init 14 = .ok (.aload_n 0, 1) := by decide +kernel
theorem dX4_init_15 : decode cX4_init 15 = .ok (.iload_n 3, 1) := by decide +kernel
theorem dX4_init_16 : decode cX4_init 16 = .ok (.putfield 17, 3) := by decide +kernel
theorem dX4_init_19 : decode cX4_init 19 = .ok (.aload_n 0, 1) := by decide +kernel
theorem dX4_init_20 : decode cX4_init 20 = .ok (.fload 4, 2) := by decide +kernel
theorem dX4_init_22 : decode cX4_init 22 = .ok (.putfield 20, 3) := by decide +kernel
theorem dX4_init_25 : decode cX4_init 25 = .ok (.return_, 1) := by decide +kernel
theorem dX5_init_0 : decode cX5_init 0 = .ok (.aload_n 0, 1) := by decide +kernel
theorem dX5_init_1 : decode cX5_init 1 = .ok (.invokespecial 3, 3) := by decide +kernel
theorem dX5_init_4 : decode cX5_init 4 = .ok (.aload_n 0, 1) := by decide +kernel
theorem dX5_init_5 : decode cX5_init 5 = .ok (.new 9, 3) := by decide +kernel
theorem dX5_init_8 : decode cX5_init 8 = .ok (.dup, 1) := by decide +kernel
theorem dX5_init_9 : decode cX5_init 9 = .ok (.invokespecial 11, 3) := by decide +kernel
theorem dX5_init_12 : decode cX5_init 12 = .ok (.putfield 12, 3) := by decide +kernel
theorem dX5_init_15 : decode cX5_init 15 = .ok (.aload_n 0, 1) := by decide +kernel
theorem dX5_init_16 : decode cX5_init 16 = .ok (.aload_n 1, 1) := by decide +kernel
theorem dX5_init_17 : decode cX5_init 17 = .ok (.putfield 18, 3) := by decide +kernel
theorem dX5_init_20 : decode cX5_init 20 = .ok (.aload_n 0, 1) := by decide +kernel
theorem dX5_init_21 : decode cX5_init 21 = .ok (.aload_n 2, 1) := by decide +kernel
theorem dX5_init_22 : decode cX5_init 22 = .ok (.putfield 22, 3) := by decide +kernel
theorem dX5_init_25 : decode cX5_init 25 = .ok (.return_, 1) := by decide +kernel
theorem dX5_pick_0 : decode cX5_pick 0 = .ok (.aload_n 0, 1) := by decide +kernel
theorem dX5_pick_1 : decode cX5_pick 1 = .ok (.getfield 12, 3) := by decide +kernel
theorem dX5_pick_4 : decode cX5_pick 4 = .ok (.invokevirtual 26, 3) := by decide +kernel
theorem dX5_pick_7 : decode cX5_pick 7 = .ok (.iconst 0, 1) := by decide +kernel
theorem dX5_pick_8 : decode cX5_pick 8 = .ok (.istore_n 3, 1) := by decide +kernel
theorem dX5_pick_9 : decode cX5_pick 9 = .ok (.iload_n 3, 1) := by decide +kernel
theorem dX5_pick_10 : decode cX5_pick 10 = .ok (.aload_n 0, 1) := by decide +kernel
theorem dX5_pick_11 : decode cX5_pick 11 = .ok (.getfield 18, 3) := by decide +kernel
theorem dX5_pick_14 : decode cX5_pick 14 = .ok (.getfield 29, 3) := by decide +kernel
theorem dX5_pick_17 : decode cX5_pick 17 = .ok (.invokevirtual 34, 3) := by decide +kernel
theorem dX5_pick_20 : decode cX5_pick 20 = .ok (.if_icmp .ge 76, 3) := by decide +kernel
theorem dX5_pick_23 : decode cX5_pick 23 = .ok (.aload_n 0, 1) := by decide +kernel
theorem dX5_pick_24 : decode cX5_pick 24 = .ok (.getfield 18, 3) := by decide +kernel
theorem dX5_pick_27 : decode cX5_pick 27 = .ok (.getfield 29, 3) := by decide +kernel
theorem dX5_pick_30 : decode cX5_pick 30 = .ok (.iload_n 3, 1) := by decide +kernel
theorem dX5_pick_31 : decode cX5_pick 31 = .ok (.invokevirtual 38, 3) := by decide +kernel
theorem dX5_pick_34 : decode cX5_pick 34 = .ok (.checkcast 42, 3) := by decide +kernel
theorem dX5_pick_37 : decode cX5_pick 37 = .ok (.astore 4, 2) := by decide +kernel
theorem dX5_pick_39 : decode cX5_pick 39 = .ok (.aload 4, 2) := by decide +kernel
theorem dX5_pick_41 : decode cX5_pick 41 = .ok (.getfield 44, 3) := by decide +kernel
theorem dX5_pick_44 : decode cX5_pick 44 = .ok (.aload_n 1, 1) := by decide +kernel
theorem dX5_pick_45 : decode cX5_pick 45 = .ok (.if_acmp .ne 45, 3) := by decide +kernel
theorem dX5_pick_48 : decode cX5_pick 48 = .ok (.aload 4, 2) := by decide +kernel
theorem dX5_pick_50 : decode cX5_pick 50 = .ok (.getfield 48, 3) := by decide +kernel
theorem dX5_pick_53 : decode cX5_pick 53 = .ok (.bipush 101, 2) := by decide +kernel
theorem dX5_pick_55 : decode cX5_pick 55 = .ok (.if_icmp .eq 17, 3) := by decide +kernel
theorem dX5_pick_58 : decode cX5_pick 58 = .ok (.iload_n 2, 1) := by decide +kernel
theorem dX5_pick_59 : decode cX5_pick 59 = .ok (.ifCond .eq 31, 3) := by decide +kernel
theorem dX5_pick_62 : decode cX5_pick 62 = .ok (.aload 4, 2) := by decide +kernel
theorem dX5_pick_64 : decode cX5_pick 64 = .ok (.getfield 48, 3) := by decide +kernel
theorem dX5_pick_67 : decode cX5_pick 67 = .ok (.bipush 114, 2) := by decide +kernel
theorem dX5_pick_69 : decode cX5_pick 69 = .ok (.if_icmp .ne 21, 3) := by decide +kernel
theorem dX5_pick_72 : decode cX5_pick 72 = .ok (.aload_n 0, 1) := by decide +kernel
theorem dX5_pick_73 : decode cX5_pick 73 = .ok (.getfield 12, 3) := by decide +kernel
theorem dX5_pick_76 : decode cX5_pick 76 = .ok (.aload_n 0, 1) := by decide +kernel
theorem dX5_pick_77 : decode cX5_pick 77 = .ok (.aload 4, 2) := by decide +kernel
theorem dX5_pick_79 : decode cX5_pick 79 = .ok (.getfield 52, 3) := by decide +kernel
theorem dX5_pick_82 : decode cX5_pick 82 = .ok (.invokevirtual 56, 3) := by decide +kernel
theorem dX5_pick_85 : decode cX5_pick 85 = .ok (.aload 4, 2) := by decide +kernel
theorem dX5_pick_87 : decode cX5_pick 87 = .ok (.invokevirtual 60, 3) := by decide +kernel
theorem dX5_pick_90 : decode cX5_pick 90 = .ok (.iinc 3 1, 3) := by decide +kernel
theorem dX5_pick_93 : decode cX5_pick 93 = .ok (.goto (-84), 3) := by decide +kernel
theorem dX5_pick_96 : decode cX5_pick 96 = .ok (.aload_n 0, 1) := by decide +kernel
theorem dX5_pick_97 : decode cX5_pick 97 = .ok (.getfield 22, 3) := by decide +kernel
theorem dX5_pick_100 : decode cX5_pick 100 = .ok (.iconst 0, 1) := by decide +kernel
theorem dX5_pick_101 : decode cX5_pick 101 = .ok (.aload_n 0, 1) := by decide +kernel
theorem dX5_pick_102 : decode cX5_pick 102 = .ok (.getfield 18, 3) := by decide +kernel
theorem dX5_pick_105 : decode cX5_pick 105 = .ok (.getfield 64, 3) := by decide +kernel
theorem dX5_pick_108 : decode cX5_pick 108 = .ok (.invokevirtual 67, 3) := by decide +kernel
theorem dX5_pick_111 : decode cX5_pick 111 = .ok (.return_, 1) := by decide +kernel
theorem dX5_placeBehind_0 : decode cX5_placeBehind 0 = .ok (.aload_n 0, 1) := by decide +kernel
theorem dX5_placeBehind_1 : decode cX5_placeBehind 1 = .ok (.getfield 12, 3) := by decide +kernel
theorem dX5_placeBehind_4 : decode cX5_placeBehind 4 = .ok (.invokevirtual 34, 3) := by decide +kernel
theorem dX5_placeBehind_7 : decode cX5_placeBehind 7 = .ok (.istore_n 2, 1) := by decide +kernel
theorem dX5_placeBehind_8 : decode cX5_placeBehind 8 = .ok (.iload_n 2, 1) := by decide +kernel
theorem dX5_placeBehind_9 : decode cX5_placeBehind 9 = .ok (.ifCond .le 29, 3) := by decide +kernel
theorem dX5_placeBehind_12 : decode cX5_placeBehind 12 = .ok (.aload_n 0, 1) := by decide +kernel
theorem dX5_placeBehind_13 : decode cX5_placeBehind 13 = .ok (.getfield 12, 3) := by decide +kernel
theorem dX5_placeBehind_16 : decode cX5_placeBehind 16 = .ok (.iload_n 2, 1) := by decide +kernel
theorem dX5_placeBehind_17 : decode cX5_placeBehind 17 = .ok (.iconst 1, 1) := by decide +kernel
theorem dX5_placeBehind_18 : decode cX5_placeBehind 18 = .ok (.isub, 1) := by decide +kernel
theorem dX5_placeBehind_19 : decode cX5_placeBehind 19 = .ok (.invokevirtual 38, 3) := by decide +kernel
theorem dX5_placeBehind_22 : decode cX5_placeBehind 22 = .ok (.checkcast 42, 3) := by decide +kernel
theorem dX5_placeBehind_25 : decode cX5_placeBehind 25 = .ok (.getfield 52, 3) := by decide +kernel
theorem dX5_placeBehind_28 : decode cX5_placeBehind 28 = .ok (.iload_n 1, 1) := by decide +kernel
theorem dX5_placeBehind_29 : decode cX5_placeBehind 29 = .ok (.if_icmp .le 9, 3) := by decide +kernel
theorem dX5_placeBehind_32 : decode cX5_placeBehind 32 = .ok (.iinc 2 (-1), 3) := by decide +kernel
theorem dX5_placeBehind_35 : decode cX5_placeBehind 35 = .ok (.goto (-27), 3) := by decide +kernel
theorem dX5_placeBehind_38 : decode cX5_placeBehind 38 = .ok (.iload_n 2, 1) := by decide +kernel
theorem dX5_placeBehind_39 : decode cX5_placeBehind 39 = .ok (.ireturn, 1) := by decide +kernel
theorem dX5_placeOf_0 : decode cX5_placeOf 0 = .ok (.iconst 0, 1) := by decide +kernel
theorem dX5_placeOf_1 : decode cX5_placeOf 1 = .ok (.istore_n 2, 1) := by decide +kernel
theorem dX5_placeOf_2 : decode cX5_placeOf 2 = .ok (.iload_n 2, 1) := by decide +kernel
theorem dX5_placeOf_3 : decode cX5_placeOf 3 = .ok (.aload_n 0, 1) := by decide +kernel
theorem dX5_placeOf_4 : decode cX5_placeOf 4 = .ok (.getfield 12, 3) := by decide +kernel
theorem dX5_placeOf_7 : decode cX5_placeOf 7 = .ok (.invokevirtual 34, 3) := by decide +kernel
theorem dX5_placeOf_10 : decode cX5_placeOf 10 = .ok (.if_icmp .ge 23, 3) := by decide +kernel
theorem dX5_placeOf_13 : decode cX5_placeOf 13 = .ok (.aload_n 0, 1) := by decide +kernel
theorem dX5_placeOf_14 : decode cX5_placeOf 14 = .ok (.getfield 12, 3) := by decide +kernel
theorem dX5_placeOf_17 : decode cX5_placeOf 17 = .ok (.iload_n 2, 1) := by decide +kernel
theorem dX5_placeOf_18 : decode cX5_placeOf 18 = .ok (.invokevirtual 38, 3) := by decide +kernel
theorem dX5_placeOf_21 : decode cX5_placeOf 21 = .ok (.aload_n 1, 1) := by decide +kernel
theorem dX5_placeOf_22 : decode cX5_placeOf 22 = .ok (.if_acmp .ne 5, 3) := by decide +kernel
theorem dX5_placeOf_25 : decode cX5_placeOf 25 = .ok (.iload_n 2, 1) := by decide +kernel
theorem dX5_placeOf_26 : decode cX5_placeOf 26 = .ok (.ireturn, 1) := by decide +kernel
theorem dX5_placeOf_27 : decode cX5_placeOf 27 = .ok (.iinc 2 1, 3) := by decide +kernel
theorem dX5_placeOf_30 : decode cX5_placeOf 30 = .ok (.goto (-28), 3) := by decide +kernel
theorem dX5_placeOf_33 : decode cX5_placeOf 33 = .ok (.iconst (-1), 1) := by decide +kernel
theorem dX5_placeOf_34 : decode cX5_placeOf 34 = .ok (.ireturn, 1) := by decide +kernel
theorem dX5_secondsOfFirst_0 : decode cX5_secondsOfFirst 0 = .ok (.iconst 0, 1) := by decide +kernel
theorem dX5_secondsOfFirst_1 : decode cX5_secondsOfFirst 1 = .ok (.istore_n 2, 1) := by decide +kernel
theorem dX5_secondsOfFirst_2 : decode cX5_secondsOfFirst 2 = .ok (.iconst 0, 1) := by decide +kernel
theorem dX5_secondsOfFirst_3 : decode cX5_secondsOfFirst 3 = .ok (.istore_n 3, 1) := by decide +kernel
theorem dX5_secondsOfFirst_4 : decode cX5_secondsOfFirst 4 = .ok (.iload_n 3, 1) := by decide +kernel
theorem dX5_secondsOfFirst_5 : decode cX5_secondsOfFirst 5 = .ok (.iload_n 1, 1) := by decide +kernel
theorem dX5_secondsOfFirst_6 : decode cX5_secondsOfFirst 6 = .ok (.if_icmp .ge 41, 3) := by decide +kernel
theorem dX5_secondsOfFirst_9 : decode cX5_secondsOfFirst 9 = .ok (.iload_n 3, 1) := by decide +kernel
theorem dX5_secondsOfFirst_10 : decode cX5_secondsOfFirst 10 = .ok (.aload_n 0, 1) := by decide +kernel
theorem dX5_secondsOfFirst_11 : decode cX5_secondsOfFirst 11 = .ok (.getfield 12, 3) := by decide +kernel
theorem dX5_secondsOfFirst_14 : decode cX5_secondsOfFirst 14 = .ok (.invokevirtual 34, 3) := by decide +kernel
theorem dX5_secondsOfFirst_17 : decode cX5_secondsOfFirst 17 = .ok (.if_icmp .ge 30, 3) := by decide +kernel
theorem dX5_secondsOfFirst_20 : decode cX5_secondsOfFirst 20 = .ok (.iload_n 2, 1) := by decide +kernel
theorem dX5_secondsOfFirst_21 : decode cX5_secondsOfFirst 21 = .ok (.aload_n 0, 1) := by decide +kernel
theorem dX5_secondsOfFirst_22 : decode cX5_secondsOfFirst 22 = .ok (.getfield 22, 3) := by decide +kernel
theorem dX5_secondsOfFirst_25 : decode cX5_secondsOfFirst 25 = .ok (.aload_n 0, 1) := by decide +kernel
theorem dX5_secondsOfFirst_26 : decode cX5_secondsOfFirst 26 = .ok (.getfield 12, 3) := by decide +kernel
theorem dX5_secondsOfFirst_29 : decode cX5_secondsOfFirst 29 = .ok (.iload_n 3, 1) := by decide +kernel
theorem dX5_secondsOfFirst_30 : decode cX5_secondsOfFirst 30 = .ok (.invokevirtual 38, 3) := by decide +kernel
theorem dX5_secondsOfFirst_33 : decode cX5_secondsOfFirst 33 = .ok (.checkcast 42, 3) := by decide +kernel
theorem dX5_secondsOfFirst_36 : decode cX5_secondsOfFirst 36 = .ok (.invokevirtual 73, 3) := by decide +kernel
theorem dX5_secondsOfFirst_39 : decode cX5_secondsOfFirst 39 = .ok (.iadd, 1) := by decide +kernel
theorem dX5_secondsOfFirst_40 : decode cX5_secondsOfFirst 40 = .ok (.istore_n 2, 1) := by decide +kernel
theorem dX5_secondsOfFirst_41 : decode cX5_secondsOfFirst 41 = .ok (.iinc 3 1, 3) := by decide +kernel
theorem dX5_secondsOfFirst_44 : decode cX5_secondsOfFirst 44 = .ok (.goto (-40), 3) := by decide +kernel
theorem dX5_secondsOfFirst_47 : decode cX5_secondsOfFirst 47 = .ok (.iload_n 2, 1) := by decide +kernel
theorem dX5_secondsOfFirst_48 : decode cX5_secondsOfFirst 48 = .ok (.ireturn, 1) := by decide +kernel
theorem dX5_secondsInDay_0 : decode cX5_secondsInDay 0 = .ok (.iconst 0, 1) := by decide +kernel
theorem dX5_secondsInDay_1 : decode cX5_secondsInDay 1 = .ok (.istore_n 2, 1) := by decide +kernel
theorem dX5_secondsInDay_2 : decode cX5_secondsInDay 2 = .ok (.iconst 0, 1) := by decide +kernel
theorem dX5_secondsInDay_3 : decode cX5_secondsInDay 3 = .ok (.istore_n 3, 1) := by decide +kernel
theorem dX5_secondsInDay_4 : decode cX5_secondsInDay 4 = .ok (.iload_n 3, 1) := by decide +kernel
theorem dX5_secondsInDay_5 : decode cX5_secondsInDay 5 = .ok (.aload_n 0, 1) := by decide +kernel
theorem dX5_secondsInDay_6 : decode cX5_secondsInDay 6 = .ok (.getfield 12, 3) := by decide +kernel
theorem dX5_secondsInDay_9 : decode cX5_secondsInDay 9 = .ok (.invokevirtual 34, 3) := by decide +kernel
theorem dX5_secondsInDay_12 : decode cX5_secondsInDay 12 = .ok (.if_icmp .ge 31, 3) := by decide +kernel
theorem dX5_secondsInDay_15 : decode cX5_secondsInDay 15 = .ok (.iload_n 2, 1) := by decide +kernel
theorem dX5_secondsInDay_16 : decode cX5_secondsInDay 16 = .ok (.aload_n 0, 1) := by decide +kernel
theorem dX5_secondsInDay_17 : decode cX5_secondsInDay 17 = .ok (.getfield 22, 3) := by decide +kernel
theorem dX5_secondsInDay_20 : decode cX5_secondsInDay 20 = .ok (.aload_n 0, 1) := by decide +kernel
theorem dX5_secondsInDay_21 : decode cX5_secondsInDay 21 = .ok (.getfield 12, 3) := by decide +kernel
theorem dX5_secondsInDay_24 : decode cX5_secondsInDay 24 = .ok (.iload_n 3, 1) := by decide +kernel
theorem dX5_secondsInDay_25 : decode cX5_secondsInDay 25 = .ok (.invokevirtual 38, 3) := by decide +kernel
theorem dX5_secondsInDay_28 : decode cX5_secondsInDay 28 = .ok (.checkcast 42, 3) := by decide +kernel
theorem dX5_secondsInDay_31 : decode cX5_secondsInDay 31 = .ok (.iload_n 1, 1) := by decide +kernel
theorem dX5_secondsInDay_32 : decode cX5_secondsInDay 32 = .ok (.invokevirtual 77, 3) := by decide +kernel
theorem dX5_secondsInDay_35 : decode cX5_secondsInDay 35 = .ok (.iadd, 1) := by decide +kernel
theorem dX5_secondsInDay_36 : decode cX5_secondsInDay 36 = .ok (.istore_n 2, 1) := by decide +kernel
theorem dX5_secondsInDay_37 : decode cX5_secondsInDay 37 = .ok (.iinc 3 1, 3) := by decide +kernel
theorem dX5_secondsInDay_40 : decode cX5_secondsInDay 40 = .ok (.goto (-36), 3) := by decide +kernel
theorem dX5_secondsInDay_43 : decode cX5_secondsInDay 43 = .ok (.iload_n 2, 1) := by decide +kernel
theorem dX5_secondsInDay_44 : decode cX5_secondsInDay 44 = .ok (.ireturn, 1) := by decide +kernel
theorem dX5_minutesAt_0 : decode cX5_minutesAt 0 = .ok (.iload_n 1, 1) := by decide +kernel
theorem dX5_minutesAt_1 : decode cX5_minutesAt 1 = .ok (.ifCond .lt 14, 3) := by decide +kernel
theorem dX5_minutesAt_4 : decode cX5_minutesAt 4 = .ok (.iload_n 1, 1) := by decide +kernel
theorem dX5_minutesAt_5 : decode cX5_minutesAt 5 = .ok (.aload_n 0, 1) := by decide +kernel
theorem dX5_minutesAt_6 : decode cX5_minutesAt 6 = .ok (.getfield 12, 3) := by decide +kernel
theorem dX5_minutesAt_9 : decode cX5_minutesAt 9 = .ok (.invokevirtual 34, 3) := by decide +kernel
theorem dX5_minutesAt_12 : decode cX5_minutesAt 12 = .ok (.if_icmp .lt 5, 3) := by decide +kernel
theorem dX5_minutesAt_15 : decode cX5_minutesAt 15 = .ok (.iconst 0, 1) := by decide +kernel
theorem dX5_minutesAt_16 : decode cX5_minutesAt 16 = .ok (.ireturn, 1) := by decide +kernel
theorem dX5_minutesAt_17 : decode cX5_minutesAt 17 = .ok (.aload_n 0, 1) := by decide +kernel
theorem dX5_minutesAt_18 : decode cX5_minutesAt 18 = .ok (.getfield 12, 3) := by decide +kernel
theorem dX5_minutesAt_21 : decode cX5_minutesAt 21 = .ok (.iload_n 1, 1) := by decide +kernel
theorem dX5_minutesAt_22 : decode cX5_minutesAt 22 = .ok (.invokevirtual 38, 3) := by decide +kernel
theorem dX5_minutesAt_25 : decode cX5_minutesAt 25 = .ok (.checkcast 42, 3) := by decide +kernel
theorem dX5_minutesAt_28 : decode cX5_minutesAt 28 = .ok (.astore_n 2, 1) := by decide +kernel
theorem dX5_minutesAt_29 : decode cX5_minutesAt 29 = .ok (.aload_n 2, 1) := by decide +kernel
theorem dX5_minutesAt_30 : decode cX5_minutesAt 30 = .ok (.getfield 44, 3) := by decide +kernel
theorem dX5_minutesAt_33 : decode cX5_minutesAt 33 = .ok (.getfield 81, 3) := by decide +kernel
theorem dX5_minutesAt_36 : decode cX5_minutesAt 36 = .ok (.bipush 101, 2) := by decide +kernel
theorem dX5_minutesAt_38 : decode cX5_minutesAt 38 = .ok (.if_icmp .ne 19, 3) := by decide +kernel
theorem dX5_minutesAt_41 : decode cX5_minutesAt 41 = .ok (.aload_n 2, 1) := by decide +kernel
theorem dX5_minutesAt_42 : decode cX5_minutesAt 42 = .ok (.getfield 44, 3) := by decide +kernel
theorem dX5_minutesAt_45 : decode cX5_minutesAt 45 = .ok (.aload_n 0, 1) := by decide +kernel
theorem dX5_minutesAt_46 : decode cX5_minutesAt 46 = .ok (.getfield 22, 3) := by decide +kernel
theorem dX5_minutesAt_49 : decode cX5_minutesAt 49 = .ok (.aload_n 2, 1) := by decide +kernel
theorem dX5_minutesAt_50 : decode cX5_minutesAt 50 = .ok (.invokevirtual 73, 3) := by decide +kernel
theorem dX5_minutesAt_53 : decode cX5_minutesAt 53 = .ok (.invokevirtual 86, 3) := by decide +kernel
theorem dX5_minutesAt_56 : decode cX5_minutesAt 56 = .ok (.ireturn, 1) := by decide +kernel
theorem dX5_minutesAt_57 : decode cX5_minutesAt 57 = .ok (.aload_n 0, 1) := by decide +kernel
theorem dX5_minutesAt_58 : decode cX5_minutesAt 58 = .ok (.iload_n 1, 1) := by decide +kernel
theorem dX5_minutesAt_59 : decode cX5_minutesAt 59 = .ok (.invokevirtual 89, 3) := by decide +kernel
theorem dX5_minutesAt_62 : decode cX5_minutesAt 62 = .ok (.istore_n 3, 1) := by decide +kernel
theorem dX5_minutesAt_63 : decode cX5_minutesAt 63 = .ok (.iload_n 3, 1) := by decide +kernel
theorem dX5_minutesAt_64 : decode cX5_minutesAt 64 = .ok (.aload_n 0, 1) := by decide +kernel
theorem dX5_minutesAt_65 : decode cX5_minutesAt 65 = .ok (.getfield 22, 3) := by decide +kernel
theorem dX5_minutesAt_68 : decode cX5_minutesAt 68 = .ok (.aload_n 2, 1) := by decide +kernel
theorem dX5_minutesAt_69 : decode cX5_minutesAt 69 = .ok (.invokevirtual 73, 3) := by decide +kernel
theorem dX5_minutesAt_72 : decode cX5_minutesAt 72 = .ok (.iadd, 1) := by decide +kernel
theorem dX5_minutesAt_73 : decode cX5_minutesAt 73 = .ok (.istore 4, 2) := by decide +kernel
theorem dX5_minutesAt_75 : decode cX5_minutesAt 75 = .ok (.aload_n 2, 1) := by decide +kernel
theorem dX5_minutesAt_76 : decode cX5_minutesAt 76 = .ok (.getfield 44, 3) := by decide +kernel
theorem dX5_minutesAt_79 : decode cX5_minutesAt 79 = .ok (.iload 4, 2) := by decide +kernel
theorem dX5_minutesAt_81 : decode cX5_minutesAt 81 = .ok (.invokevirtual 86, 3) := by decide +kernel
theorem dX5_minutesAt_84 : decode cX5_minutesAt 84 = .ok (.aload_n 2, 1) := by decide +kernel
theorem dX5_minutesAt_85 : decode cX5_minutesAt 85 = .ok (.getfield 44, 3) := by decide +kernel
theorem dX5_minutesAt_88 : decode cX5_minutesAt 88 = .ok (.iload_n 3, 1) := by decide +kernel
theorem dX5_minutesAt_89 : decode cX5_minutesAt 89 = .ok (.invokevirtual 86, 3) := by decide +kernel
theorem dX5_minutesAt_92 : decode cX5_minutesAt 92 = .ok (.isub, 1) := by decide +kernel
theorem dX5_minutesAt_93 : decode cX5_minutesAt 93 = .ok (.ireturn, 1) := by decide +kernel
theorem dX5_minutesFor_0 : decode cX5_minutesFor 0 = .ok (.aload_n 1, 1) := by decide +kernel
theorem dX5_minutesFor_1 : decode cX5_minutesFor 1 = .ok (.getfield 81, 3) := by decide +kernel
theorem dX5_minutesFor_4 : decode cX5_minutesFor 4 = .ok (.bipush 99, 2) := by decide +kernel
theorem dX5_minutesFor_6 : decode cX5_minutesFor 6 = .ok (.if_icmp .ne 19, 3) := by decide +kernel
theorem dX5_minutesFor_9 : decode cX5_minutesFor 9 = .ok (.aload_n 1, 1) := by decide +kernel
theorem dX5_minutesFor_10 : decode cX5_minutesFor 10 = .ok (.aload_n 0, 1) := by decide +kernel
theorem dX5_minutesFor_11 : decode cX5_minutesFor 11 = .ok (.aload_n 0, 1) := by decide +kernel
theorem dX5_minutesFor_12 : decode cX5_minutesFor 12 = .ok (.getfield 12, 3) := by decide +kernel
theorem dX5_minutesFor_15 : decode cX5_minutesFor 15 = .ok (.invokevirtual 34, 3) := by decide +kernel
theorem dX5_minutesFor_18 : decode cX5_minutesFor 18 = .ok (.invokevirtual 89, 3) := by decide +kernel
theorem dX5_minutesFor_21 : decode cX5_minutesFor 21 = .ok (.invokevirtual 86, 3) := by decide +kernel
theorem dX5_minutesFor_24 : decode cX5_minutesFor 24 = .ok (.ireturn, 1) := by decide +kernel
theorem dX5_minutesFor_25 : decode cX5_minutesFor 25 = .ok (.aload_n 0, 1) := by decide +kernel
theorem dX5_minutesFor_26 : decode cX5_minutesFor 26 = .ok (.aload_n 1, 1) := by decide +kernel
theorem dX5_minutesFor_27 : decode cX5_minutesFor 27 = .ok (.invokevirtual 92, 3) := by decide +kernel
theorem dX5_minutesFor_30 : decode cX5_minutesFor 30 = .ok (.ireturn, 1) := by decide +kernel
theorem dX5_minutesByLines_0 : decode cX5_minutesByLines 0 = .ok (.iconst 0, 1) := by decide +kernel
theorem dX5_minutesByLines_1 : decode cX5_minutesByLines 1 = .ok (.istore_n 2, 1) := by decide +kernel
theorem dX5_minutesByLines_2 : decode cX5_minutesByLines 2 = .ok (.aload_n 1, 1) := by decide +kernel
theorem dX5_minutesByLines_3 : decode cX5_minutesByLines 3 = .ok (.getfield 81, 3) := by decide +kernel
theorem dX5_minutesByLines_6 : decode cX5_minutesByLines 6 = .ok (.bipush 100, 2) := by decide +kernel
theorem dX5_minutesByLines_8 : decode cX5_minutesByLines 8 = .ok (.if_icmp .ne 30, 3) := by decide +kernel
theorem dX5_minutesByLines_11 : decode cX5_minutesByLines 11 = .ok (.iconst 0, 1) := by decide +kernel
theorem dX5_minutesByLines_12 : decode cX5_minutesByLines 12 = .ok (.istore_n 3, 1) := by decide +kernel
theorem dX5_minutesByLines_13 : decode cX5_minutesByLines 13 = .ok (.iload_n 3, 1) := by decide +kernel
theorem dX5_minutesByLines_14 : decode cX5_minutesByLines 14 = .ok (.iconst 5, 1) := by decide +kernel
theorem dX5_minutesByLines_15 : decode cX5_minutesByLines 15 = .ok (.if_icmp .ge 21, 3) := by decide +kernel
theorem dX5_minutesByLines_18 : decode cX5_minutesByLines 18 = .ok (.iload_n 2, 1) := by decide +kernel
theorem dX5_minutesByLines_19 : decode cX5_minutesByLines 19 = .ok (.aload_n 1, 1) := by decide +kernel
theorem dX5_minutesByLines_20 : decode cX5_minutesByLines 20 = .ok (.aload_n 0, 1) := by decide +kernel
theorem dX5_minutesByLines_21 : decode cX5_minutesByLines 21 = .ok (.iload_n 3, 1) := by decide +kernel
theorem dX5_minutesByLines_22 : decode cX5_minutesByLines 22 = .ok (.invokevirtual 96, 3) := by decide +kernel
theorem dX5_minutesByLines_25 : decode cX5_minutesByLines 25 = .ok (.invokevirtual 86, 3) := by decide +kernel
theorem dX5_minutesByLines_28 : decode cX5_minutesByLines 28 = .ok (.iadd, 1) := by decide +kernel
theorem dX5_minutesByLines_29 : decode cX5_minutesByLines 29 = .ok (.istore_n 2, 1) := by decide +kernel
theorem dX5_minutesByLines_30 : decode cX5_minutesByLines 30 = .ok (.iinc 3 1, 3) := by decide +kernel
theorem dX5_minutesByLines_33 : decode cX5_minutesByLines 33 = .ok (.goto (-20), 3) := by decide +kernel
theorem dX5_minutesByLines_36 : decode cX5_minutesByLines 36 = .ok (.iload_n 2, 1) := by decide +kernel
theorem dX5_minutesByLines_37 : decode cX5_minutesByLines 37 = .ok (.ireturn, 1) := by decide +kernel
theorem dX5_minutesByLines_38 : decode cX5_minutesByLines 38 = .ok (.iconst 0, 1) := by decide +kernel
theorem dX5_minutesByLines_39 : decode cX5_minutesByLines 39 = .ok (.istore_n 3, 1) := by decide +kernel
theorem dX5_minutesByLines_40 : decode cX5_minutesByLines 40 = .ok (.iload_n 3, 1) := by decide +kernel
theorem dX5_minutesByLines_41 : decode cX5_minutesByLines 41 = .ok (.aload_n 0, 1) := by decide +kernel
theorem dX5_minutesByLines_42 : decode cX5_minutesByLines 42 = .ok (.getfield 12, 3) := by decide +kernel
theorem dX5_minutesByLines_45 : decode cX5_minutesByLines 45 = .ok (.invokevirtual 34, 3) := by decide +kernel
theorem dX5_minutesByLines_48 : decode cX5_minutesByLines 48 = .ok (.if_icmp .ge 17, 3) := by decide +kernel
theorem dX5_minutesByLines_51 : decode cX5_minutesByLines 51 = .ok (.iload_n 2, 1) := by decide +kernel
theorem dX5_minutesByLines_52 : decode cX5_minutesByLines 52 = .ok (.aload_n 0, 1) := by decide +kernel
theorem dX5_minutesByLines_53 : decode cX5_minutesByLines 53 = .ok (.iload_n 3, 1) := by decide +kernel
theorem dX5_minutesByLines_54 : decode cX5_minutesByLines 54 = .ok (.invokevirtual 98, 3) := by decide +kernel
theorem dX5_minutesByLines_57 : decode cX5_minutesByLines 57 = .ok (.iadd, 1) := by decide +kernel
theorem dX5_minutesByLines_58 : decode cX5_minutesByLines 58 = .ok (.istore_n 2, 1) := by decide +kernel
theorem dX5_minutesByLines_59 : decode cX5_minutesByLines 59 = .ok (.iinc 3 1, 3) := by decide +kernel
theorem dX5_minutesByLines_62 : decode cX5_minutesByLines 62 = .ok (.goto (-22), 3) := by decide +kernel
theorem dX5_minutesByLines_65 : decode cX5_minutesByLines 65 = .ok (.iload_n 2, 1) := by decide +kernel
theorem dX5_minutesByLines_66 : decode cX5_minutesByLines 66 = .ok (.ireturn, 1) := by decide +kernel
theorem dX5_freezePicked_0 : decode cX5_freezePicked 0 = .ok (.iconst 0, 1) := by decide +kernel
theorem dX5_freezePicked_1 : decode cX5_freezePicked 1 = .ok (.istore_n 1, 1) := by decide +kernel
theorem dX5_freezePicked_2 : decode cX5_freezePicked 2 = .ok (.iload_n 1, 1) := by decide +kernel
theorem dX5_freezePicked_3 : decode cX5_freezePicked 3 = .ok (.aload_n 0, 1) := by decide +kernel
theorem dX5_freezePicked_4 : decode cX5_freezePicked 4 = .ok (.getfield 12, 3) := by decide +kernel
theorem dX5_freezePicked_7 : decode cX5_freezePicked 7 = .ok (.invokevirtual 34, 3) := by decide +kernel
theorem dX5_freezePicked_10 : decode cX5_freezePicked 10 = .ok (.if_icmp .ge 39, 3) := by decide +kernel
theorem dX5_freezePicked_13 : decode cX5_freezePicked 13 = .ok (.aload_n 0, 1) := by decide +kernel
theorem dX5_freezePicked_14 : decode cX5_freezePicked 14 = .ok (.getfield 12, 3) := by decide +kernel
theorem dX5_freezePicked_17 : decode cX5_freezePicked 17 = .ok (.iload_n 1, 1) := by decide +kernel
theorem dX5_freezePicked_18 : decode cX5_freezePicked 18 = .ok (.invokevirtual 38, 3) := by decide +kernel
theorem dX5_freezePicked_21 : decode cX5_freezePicked 21 = .ok (.checkcast 42, 3) := by decide +kernel
theorem dX5_freezePicked_24 : decode cX5_freezePicked 24 = .ok (.astore_n 2, 1) := by decide +kernel
theorem dX5_freezePicked_25 : decode cX5_freezePicked 25 = .ok (.aload_n 2, 1) := by decide +kernel
theorem dX5_freezePicked_26 : decode cX5_freezePicked 26 = .ok (.aload_n 0, 1) := by decide +kernel
theorem dX5_freezePicked_27 : decode cX5_freezePicked 27 = .ok (.getfield 22, 3) := by decide +kernel
theorem dX5_freezePicked_30 : decode cX5_freezePicked 30 = .ok (.aload_n 2, 1) := by decide +kernel
theorem dX5_freezePicked_31 : decode cX5_freezePicked 31 = .ok (.invokevirtual 73, 3) := by decide +kernel
theorem dX5_freezePicked_34 : decode cX5_freezePicked 34 = .ok (.putfield 101, 3) := by decide +kernel
theorem dX5_freezePicked_37 : decode cX5_freezePicked 37 = .ok (.aload_n 2, 1) := by decide +kernel
theorem dX5_freezePicked_38 : decode cX5_freezePicked 38 = .ok (.bipush 102, 2) := by decide +kernel
theorem dX5_freezePicked_40 : decode cX5_freezePicked 40 = .ok (.putfield 48, 3) := by decide +kernel
theorem dX5_freezePicked_43 : decode cX5_freezePicked 43 = .ok (.iinc 1 1, 3) := by decide +kernel
theorem dX5_freezePicked_46 : decode cX5_freezePicked 46 = .ok (.goto (-44), 3) := by decide +kernel
theorem dX5_freezePicked_49 : decode cX5_freezePicked 49 = .ok (.return_, 1) := by decide +kernel
theorem dX6_init_0 : decode cX6_init 0 = .ok (.aload_n 0, 1) := by decide +kernel
theorem dX6_init_1 : decode cX6_init 1 = .ok (.invokespecial 3, 3) := by decide +kernel
theorem dX6_init_4 : decode cX6_init 4 = .ok (.aload_n 0, 1) := by decide +kernel
theorem dX6_init_5 : decode cX6_init 5 = .ok (.bipush 120, 2) := by decide +kernel
theorem dX6_init_7 : decode cX6_init 7 = .ok (.newarray .int, 2) := by decide +kernel
theorem dX6_init_9 : decode cX6_init 9 = .ok (.putfield 9, 3) := by decide +kernel
theorem dX6_init_12 : decode cX6_init 12 = .ok (.aload_n 0, 1) := by decide +kernel
theorem dX6_init_13 : decode cX6_init 13 = .ok (.aload_n 1, 1) := by decide +kernel
theorem dX6_init_14 : decode cX6_init 14 = .ok (.putfield 15, 3) := by decide +kernel
theorem dX6_init_17 : decode cX6_init 17 = .ok (.return_, 1) := by decide +kernel
theorem dX6_countByIntervals_0 : decode cX6_countByIntervals 0 = .ok (.aload_n 0, 1) := by decide +kernel
theorem dX6_countByIntervals_1 : decode cX6_countByIntervals 1 = .ok (.getfield 9, 3) := by decide +kernel
theorem dX6_countByIntervals_4 : decode cX6_countByIntervals 4 = .ok (.iconst 0, 1) := by decide +kernel
theorem dX6_countByIntervals_5 : decode cX6_countByIntervals 5 = .ok (.invokestatic 19, 3) := by decide +kernel
theorem dX6_countByIntervals_8 : decode cX6_countByIntervals 8 = .ok (.iload_n 1, 1) := by decide +kernel
theorem dX6_countByIntervals_9 : decode cX6_countByIntervals 9 = .ok (.istore_n 3, 1) := by decide +kernel
theorem dX6_countByIntervals_10 : decode cX6_countByIntervals 10 = .ok (.iload_n 3, 1) := by decide +kernel
theorem dX6_countByIntervals_11 : decode cX6_countByIntervals 11 = .ok (.iload_n 2, 1) := by decide +kernel
theorem dX6_countByIntervals_12 : decode cX6_countByIntervals 12 = .ok (.if_icmp .ge 35, 3) := by decide +kernel
theorem dX6_countByIntervals_15 : decode cX6_countByIntervals 15 = .ok (.iload_n 3, 1) := by decide +kernel
theorem dX6_countByIntervals_16 : decode cX6_countByIntervals 16 = .ok (.iconst 1, 1) := by decide +kernel
theorem dX6_countByIntervals_17 : decode cX6_countByIntervals 17 = .ok (.iadd, 1) := by decide +kernel
theorem dX6_countByIntervals_18 : decode cX6_countByIntervals 18 = .ok (.aload_n 0, 1) := by decide +kernel
theorem dX6_countByIntervals_19 : decode cX6_countByIntervals 19 = .ok (.getfield 15, 3) := by decide +kernel
theorem dX6_countByIntervals_22 : decode cX6_countByIntervals 22 = .ok (.iload_n 3, 1) := by decide +kernel
theorem dX6_countByIntervals_23 : decode cX6_countByIntervals 23 = .ok (.iload_n 2, 1) := by decide +kernel
theorem dX6_countByIntervals_24 : decode cX6_countByIntervals 24 = .ok (.invokevirtual 25, 3) := by decide +kernel
theorem dX6_countByIntervals_27 : decode cX6_countByIntervals 27 = .ok (.invokestatic 31, 3) := by decide +kernel
theorem dX6_countByIntervals_30 : decode cX6_countByIntervals 30 = .ok (.istore 4, 2) := by decide +kernel
theorem dX6_countByIntervals_32 : decode cX6_countByIntervals 32 = .ok (.aload_n 0, 1) := by decide +kernel
theorem dX6_countByIntervals_33 : decode cX6_countByIntervals 33 = .ok (.iload_n 3, 1) := by decide +kernel
theorem dX6_countByIntervals_34 : decode cX6_countByIntervals 34 = .ok (.iload 4, 2) := by decide +kernel
theorem dX6_countByIntervals_36 : decode cX6_countByIntervals 36 = .ok (.iload_n 3, 1) := by decide +kernel
theorem dX6_countByIntervals_37 : decode cX6_countByIntervals 37 = .ok (.isub, 1) := by decide +kernel
theorem dX6_countByIntervals_38 : decode cX6_countByIntervals 38 = .ok (.invokevirtual 36, 3) := by decide +kernel
theorem dX6_countByIntervals_41 : decode cX6_countByIntervals 41 = .ok (.iload 4, 2) := by decide +kernel
theorem dX6_countByIntervals_43 : decode cX6_countByIntervals 43 = .ok (.istore_n 3, 1) := by decide +kernel
theorem dX6_countByIntervals_44 : decode cX6_countByIntervals 44 = .ok (.goto (-34), 3) := by decide +kernel
theorem dX6_countByIntervals_47 : decode cX6_countByIntervals 47 = .ok (.return_, 1) := by decide +kernel
theorem dX6_countByMinutes_0 : decode cX6_countByMinutes 0 = .ok (.aload_n 0, 1) := by decide +kernel
theorem dX6_countByMinutes_1 : decode cX6_countByMinutes 1 = .ok (.getfield 9, 3) := by decide +kernel
theorem dX6_countByMinutes_4 : decode cX6_countByMinutes 4 = .ok (.iconst 0, 1) := by decide +kernel
theorem dX6_countByMinutes_5 : decode cX6_countByMinutes 5 = .ok (.invokestatic 19, 3) := by decide +kernel
theorem dX6_countByMinutes_8 : decode cX6_countByMinutes 8 = .ok (.iload_n 1, 1) := by decide +kernel
theorem dX6_countByMinutes_9 : decode cX6_countByMinutes 9 = .ok (.istore_n 3, 1) := by decide +kernel
theorem dX6_countByMinutes_10 : decode cX6_countByMinutes 10 = .ok (.iload_n 3, 1) := by decide +kernel
theorem dX6_countByMinutes_11 : decode cX6_countByMinutes 11 = .ok (.iload_n 2, 1) := by decide +kernel
theorem dX6_countByMinutes_12 : decode cX6_countByMinutes 12 = .ok (.if_icmp .ge 15, 3) := by decide +kernel
theorem dX6_countByMinutes_15 : decode cX6_countByMinutes 15 = .ok (.aload_n 0, 1) := by decide +kernel
theorem dX6_countByMinutes_16 : decode cX6_countByMinutes 16 = .ok (.iload_n 3, 1) := by decide +kernel
theorem dX6_countByMinutes_17 : decode cX6_countByMinutes 17 = .ok (.iconst 1, 1) := by decide +kernel
theorem dX6_countByMinutes_18 : decode cX6_countByMinutes 18 = .ok (.invokevirtual 36, 3) := by decide +kernel
theorem dX6_countByMinutes_21 : decode cX6_countByMinutes 21 = .ok (.iinc 3 1, 3) := by decide +kernel
theorem dX6_countByMinutes_24 : decode cX6_countByMinutes 24 = .ok (.goto (-14), 3) := by decide +kernel
theorem dX6_countByMinutes_27 : decode cX6_countByMinutes 27 = .ok (.return_, 1) := by decide +kernel
theorem dX6_addStretch_0 : decode cX6_addStretch 0 = .ok (.aload_n 0, 1) := by decide +kernel
theorem dX6_addStretch_1 : decode cX6_addStretch 1 = .ok (.iload_n 1, 1) := by decide +kernel
theorem dX6_addStretch_2 : decode cX6_addStretch 2 = .ok (.invokevirtual 40, 3) := by decide +kernel
theorem dX6_addStretch_5 : decode cX6_addStretch 5 = .ok (.iconst 0, 1) := by decide +kernel
theorem dX6_addStretch_6 : decode cX6_addStretch 6 = .ok (.istore_n 3, 1) := by decide +kernel
theorem dX6_addStretch_7 : decode cX6_addStretch 7 = .ok (.iconst 0, 1) := by decide +kernel
theorem dX6_addStretch_8 : decode cX6_addStretch 8 = .ok (.istore 4, 2) := by decide +kernel
theorem dX6_addStretch_10 : decode cX6_addStretch 10 = .ok (.iload 4, 2) := by decide +kernel
theorem dX6_addStretch_12 : decode cX6_addStretch 12 = .ok (.aload_n 0, 1) := by decide +kernel
theorem dX6_addStretch_13 : decode cX6_addStretch 13 = .ok (.getfield 15, 3) := by decide +kernel
theorem dX6_addStretch_16 : decode cX6_addStretch 16 = .ok (.getfield 44, 3) := by decide +kernel
theorem dX6_addStretch_19 : decode cX6_addStretch 19 = .ok (.invokevirtual 48, 3) := by decide +kernel
theorem dX6_addStretch_22 : decode cX6_addStretch 22 = .ok (.if_icmp .ge 65, 3) := by decide +kernel
theorem dX6_addStretch_25 : decode cX6_addStretch 25 = .ok (.iload_n 3, 1) := by decide +kernel
theorem dX6_addStretch_26 : decode cX6_addStretch 26 = .ok (.aload_n 0, 1) := by decide +kernel
theorem dX6_addStretch_27 : decode cX6_addStretch 27 = .ok (.getfield 54, 3) := by decide +kernel
theorem dX6_addStretch_30 : decode cX6_addStretch 30 = .ok (.if_icmp .ge 57, 3) := by decide +kernel
theorem dX6_addStretch_33 : decode cX6_addStretch 33 = .ok (.aload_n 0, 1) := by decide +kernel
theorem dX6_addStretch_34 : decode cX6_addStretch 34 = .ok (.getfield 15, 3) := by decide +kernel
theorem dX6_addStretch_37 : decode cX6_addStretch 37 = .ok (.getfield 44, 3) := by decide +kernel
theorem dX6_addStretch_40 : decode cX6_addStretch 40 = .ok (.iload 4, 2) := by decide +kernel
theorem dX6_addStretch_42 : decode cX6_addStretch 42 = .ok (.invokevirtual 58, 3) := by decide +kernel
theorem dX6_addStretch_45 : decode cX6_addStretch 45 = .ok (.checkcast 62, 3) := by decide +kernel
theorem dX6_addStretch_48 : decode cX6_addStretch 48 = .ok (.iload_n 1, 1) := by decide +kernel
theorem dX6_addStretch_49 : decode cX6_addStretch 49 = .ok (.invokevirtual 64, 3) := by decide +kernel
theorem dX6_addStretch_52 : decode cX6_addStretch 52 = .ok (.ifCond .eq 29, 3) := by decide +kernel
theorem dX6_addStretch_55 : decode cX6_addStretch 55 = .ok (.aload_n 0, 1) := by decide +kernel
theorem dX6_addStretch_56 : decode cX6_addStretch 56 = .ok (.iload 4, 2) := by decide +kernel
theorem dX6_addStretch_58 : decode cX6_addStretch 58 = .ok (.iconst 5, 1) := by decide +kernel
theorem dX6_addStretch_59 : decode cX6_addStretch 59 = .ok (.imul, 1) := by decide +kernel
theorem dX6_addStretch_60 : decode cX6_addStretch 60 = .ok (.iload_n 1, 1) := by decide +kernel
theorem dX6_addStretch_61 : decode cX6_addStretch 61 = .ok (.sipush 600, 3) := by decide +kernel
theorem dX6_addStretch_64 : decode cX6_addStretch 64 = .ok (.idiv, 1) := by decide +kernel
theorem dX6_addStretch_65 : decode cX6_addStretch 65 = .ok (.iadd, 1) := by decide +kernel
theorem dX6_addStretch_66 : decode cX6_addStretch 66 = .ok (.iload_n 2, 1) := by decide +kernel
theorem dX6_addStretch_67 : decode cX6_addStretch 67 = .ok (.aload_n 0, 1) := by decide +kernel
theorem dX6_addStretch_68 : decode cX6_addStretch 68 = .ok (.iload_n 3, 1) := by decide +kernel
theorem dX6_addStretch_69 : decode cX6_addStretch 69 = .ok (.iload 4, 2) := by decide +kernel
theorem dX6_addStretch_71 : decode cX6_addStretch 71 = .ok (.invokevirtual 68, 3) := by decide +kernel
theorem dX6_addStretch_74 : decode cX6_addStretch 74 = .ok (.imul, 1) := by decide +kernel
theorem dX6_addStretch_75 : decode cX6_addStretch 75 = .ok (.invokevirtual 71, 3) := by decide +kernel
theorem dX6_addStretch_78 : decode cX6_addStretch 78 = .ok (.iinc 3 1, 3) := by decide +kernel
theorem dX6_addStretch_81 : decode cX6_addStretch 81 = .ok (.iinc 4 1, 3) := by decide +kernel
theorem dX6_addStretch_84 : decode cX6_addStretch 84 = .ok (.goto (-74), 3) := by decide +kernel
theorem dX6_addStretch_87 : decode cX6_addStretch 87 = .ok (.return_, 1) := by decide +kernel
theorem dX6_survey_0 : decode cX6_survey 0 = .ok (.aload_n 0, 1) := by decide +kernel
theorem dX6_survey_1 : decode cX6_survey 1 = .ok (.iconst 0, 1) := by decide +kernel
theorem dX6_survey_2 : decode cX6_survey 2 = .ok (.putfield 54, 3) := by decide +kernel
theorem dX6_survey_5 : decode cX6_survey 5 = .ok (.aload_n 0, 1) := by decide +kernel
theorem dX6_survey_6 : decode cX6_survey 6 = .ok (.iconst (-1), 1) := by decide +kernel
theorem dX6_survey_7 : decode cX6_survey 7 = .ok (.putfield 74, 3) := by decide +kernel
theorem dX6_survey_10 : decode cX6_survey 10 = .ok (.iconst (-1), 1) := by decide +kernel
theorem dX6_survey_11 : decode cX6_survey 11 = .ok (.istore_n 2, 1) := by decide +kernel
theorem dX6_survey_12 : decode cX6_survey 12 = .ok (.iconst 0, 1) := by decide +kernel
theorem dX6_survey_13 : decode cX6_survey 13 = .ok (.istore_n 3, 1) := by decide +kernel
theorem dX6_survey_14 : decode cX6_survey 14 = .ok (.iload_n 3, 1) := by decide +kernel
theorem dX6_survey_15 : decode cX6_survey 15 = .ok (.aload_n 0, 1) := by decide +kernel
theorem dX6_survey_16 : decode cX6_survey 16 = .ok (.getfield 15, 3) := by decide +kernel
theorem dX6_survey_19 : decode cX6_survey 19 = .ok (.getfield 44, 3) := by decide +kernel
theorem dX6_survey_22 : decode cX6_survey 22 = .ok (.invokevirtual 48, 3) := by decide +kernel
theorem dX6_survey_25 : decode cX6_survey 25 = .ok (.if_icmp .ge 64, 3) := by decide +kernel
theorem dX6_survey_28 : decode cX6_survey 28 = .ok (.aload_n 0, 1) := by decide +kernel
theorem dX6_survey_29 : decode cX6_survey 29 = .ok (.getfield 15, 3) := by decide +kernel
theorem dX6_survey_32 : decode cX6_survey 32 = .ok (.getfield 44, 3) := by decide +kernel
theorem dX6_survey_35 : decode cX6_survey 35 = .ok (.iload_n 3, 1) := by decide +kernel
theorem dX6_survey_36 : decode cX6_survey 36 = .ok (.invokevirtual 58, 3) := by decide +kernel
theorem dX6_survey_39 : decode cX6_survey 39 = .ok (.checkcast 62, 3) := by decide +kernel
theorem dX6_survey_42 : decode cX6_survey 42 = .ok (.astore 4, 2) := by decide +kernel
theorem dX6_survey_44 : decode cX6_survey 44 = .ok (.aload 4, 2) := by decide +kernel
theorem dX6_survey_46 : decode cX6_survey 46 = .ok (.iload_n 1, 1) := by decide +kernel
theorem dX6_survey_47 : decode cX6_survey 47 = .ok (.invokevirtual 64, 3) := by decide +kernel
theorem dX6_survey_50 : decode cX6_survey 50 = .ok (.ifCond .eq 33, 3) := by decide +kernel
theorem dX6_survey_53 : decode cX6_survey 53 = .ok (.aload_n 0, 1) := by decide +kernel
theorem dX6_survey_54 : decode cX6_survey 54 = .ok (.dup, 1) := by decide +kernel
theorem dX6_survey_55 : decode cX6_survey 55 = .ok (.getfield 54, 3) := by decide +kernel
theorem dX6_survey_58 : decode cX6_survey 58 = .ok (.iconst 1, 1) := by decide +kernel
theorem dX6_survey_59 : decode cX6_survey 59 = .ok (.iadd, 1) := by decide +kernel
theorem dX6_survey_60 : decode cX6_survey 60 = .ok (.putfield 54, 3) := by decide +kernel
theorem dX6_survey_63 : decode cX6_survey 63 = .ok (.aload 4, 2) := by decide +kernel
theorem dX6_survey_65 : decode cX6_survey 65 = .ok (.getfield 77, 3) := by decide +kernel
theorem dX6_survey_68 : decode cX6_survey 68 = .ok (.iload_n 2, 1) := by decide +kernel
theorem dX6_survey_69 : decode cX6_survey 69 = .ok (.if_icmp .lt 14, 3) := by decide +kernel
theorem dX6_survey_72 : decode cX6_survey 72 = .ok (.aload_n 0, 1) := by decide +kernel
theorem dX6_survey_73 : decode cX6_survey 73 = .ok (.iload_n 3, 1) := by decide +kernel
theorem dX6_survey_74 : decode cX6_survey 74 = .ok (.putfield 74, 3) := by decide +kernel
theorem dX6_survey_77 : decode cX6_survey 77 = .ok (.aload 4, 2) := by decide +kernel
theorem dX6_survey_79 : decode cX6_survey 79 = .ok (.getfield 77, 3) := by decide +kernel
theorem dX6_survey_82 : decode cX6_survey 82 = .ok (.istore_n 2, 1) := by decide +kernel
theorem dX6_survey_83 : decode cX6_survey 83 = .ok (.iinc 3 1, 3) := by decide +kernel
theorem dX6_survey_86 : decode cX6_survey 86 = .ok (.goto (-72), 3) := by decide +kernel
theorem dX6_survey_89 : decode cX6_survey 89 = .ok (.return_, 1) := by decide +kernel
theorem dX6_secondsAt_0 : decode cX6_secondsAt 0 = .ok (.aload_n 0, 1) := by decide +kernel
theorem dX6_secondsAt_1 : decode cX6_secondsAt 1 = .ok (.getfield 15, 3) := by decide +kernel
theorem dX6_secondsAt_4 : decode cX6_secondsAt 4 = .ok (.getfield 80, 3) := by decide +kernel
theorem dX6_secondsAt_7 : decode cX6_secondsAt 7 = .ok (.bipush 102, 2) := by decide +kernel
theorem dX6_secondsAt_9 : decode cX6_secondsAt 9 = .ok (.if_icmp .ne 6, 3) := by decide +kernel
theorem dX6_secondsAt_12 : decode cX6_secondsAt 12 = .ok (.bipush 60, 2) := by decide +kernel
theorem dX6_secondsAt_14 : decode cX6_secondsAt 14 = .ok (.ireturn, 1) := by decide +kernel
theorem dX6_secondsAt_15 : decode cX6_secondsAt 15 = .ok (.aload_n 0, 1) := by decide +kernel
theorem dX6_secondsAt_16 : decode cX6_secondsAt 16 = .ok (.getfield 15, 3) := by decide +kernel
theorem dX6_secondsAt_19 : decode cX6_secondsAt 19 = .ok (.getfield 80, 3) := by decide +kernel
theorem dX6_secondsAt_22 : decode cX6_secondsAt 22 = .ok (.bipush 108, 2) := by decide +kernel
theorem dX6_secondsAt_24 : decode cX6_secondsAt 24 = .ok (.if_icmp .ne 18, 3) := by decide +kernel
theorem dX6_secondsAt_27 : decode cX6_secondsAt 27 = .ok (.iload_n 2, 1) := by decide +kernel
theorem dX6_secondsAt_28 : decode cX6_secondsAt 28 = .ok (.aload_n 0, 1) := by decide +kernel
theorem dX6_secondsAt_29 : decode cX6_secondsAt 29 = .ok (.getfield 74, 3) := by decide +kernel
theorem dX6_secondsAt_32 : decode cX6_secondsAt 32 = .ok (.if_icmp .ne 8, 3) := by decide +kernel
theorem dX6_secondsAt_35 : decode cX6_secondsAt 35 = .ok (.bipush 60, 2) := by decide +kernel
theorem dX6_secondsAt_37 : decode cX6_secondsAt 37 = .ok (.goto 4, 3) := by decide +kernel
theorem dX6_secondsAt_40 : decode cX6_secondsAt 40 = .ok (.iconst 0, 1) := by decide +kernel
theorem dX6_secondsAt_41 : decode cX6_secondsAt 41 = .ok (.ireturn, 1) := by decide +kernel
theorem dX6_secondsAt_42 : decode cX6_secondsAt 42 = .ok (.aload_n 0, 1) := by decide +kernel
theorem dX6_secondsAt_43 : decode cX6_secondsAt 43 = .ok (.getfield 54, 3) := by decide +kernel
theorem dX6_secondsAt_46 : decode cX6_secondsAt 46 = .ok (.ifCond .gt 5, 3) := by decide +kernel
theorem dX6_secondsAt_49 : decode cX6_secondsAt 49 = .ok (.iconst 0, 1) := by decide +kernel
theorem dX6_secondsAt_50 : decode cX6_secondsAt 50 = .ok (.ireturn, 1) := by decide +kernel
theorem dX6_secondsAt_51 : decode cX6_secondsAt 51 = .ok (.iload_n 1, 1) := by decide +kernel
theorem dX6_secondsAt_52 : decode cX6_secondsAt 52 = .ok (.bipush 60, 2) := by decide +kernel
theorem dX6_secondsAt_54 : decode cX6_secondsAt 54 = .ok (.aload_n 0, 1) := by decide +kernel
theorem dX6_secondsAt_55 : decode cX6_secondsAt 55 = .ok (.getfield 54, 3) := by decide +kernel
theorem dX6_secondsAt_58 : decode cX6_secondsAt 58 = .ok (.irem, 1) := by decide +kernel
theorem dX6_secondsAt_59 : decode cX6_secondsAt 59 = .ok (.if_icmp .ge 7, 3) := by decide +kernel
theorem dX6_secondsAt_62 : decode cX6_secondsAt 62 = .ok (.iconst 1, 1) := by decide +kernel
theorem dX6_secondsAt_63 : decode cX6_secondsAt 63 = .ok (.goto 4, 3) := by decide +kernel
theorem dX6_secondsAt_66 : decode cX6_secondsAt 66 = .ok (.iconst 0, 1) := by decide +kernel
theorem dX6_secondsAt_67 : decode cX6_secondsAt 67 = .ok (.istore_n 3, 1) := by decide +kernel
theorem dX6_secondsAt_68 : decode cX6_secondsAt 68 = .ok (.bipush 60, 2) := by decide +kernel
theorem dX6_secondsAt_70 : decode cX6_secondsAt 70 = .ok (.aload_n 0, 1) := by decide +kernel
theorem dX6_secondsAt_71 : decode cX6_secondsAt 71 = .ok (.getfield 54, 3) := by decide +kernel
theorem dX6_secondsAt_74 : decode cX6_secondsAt 74 = .ok (.idiv, 1) := by decide +kernel
theorem dX6_secondsAt_75 : decode cX6_secondsAt 75 = .ok (.iload_n 3, 1) := by decide +kernel
theorem dX6_secondsAt_76 : decode cX6_secondsAt 76 = .ok (.iadd, 1) := by decide +kernel
theorem dX6_secondsAt_77 : decode cX6_secondsAt 77 = .ok (.ireturn, 1) := by decide +kernel
theorem dX6_addToCell_0 : decode cX6_addToCell 0 = .ok (.iload_n 1, 1) := by decide +kernel
theorem dX6_addToCell_1 : decode cX6_addToCell 1 = .ok (.ifCond .lt 22, 3) := by decide +kernel
theorem dX6_addToCell_4 : decode cX6_addToCell 4 = .ok (.iload_n 1, 1) := by decide +kernel
theorem dX6_addToCell_5 : decode cX6_addToCell 5 = .ok (.aload_n 0, 1) := by decide +kernel
theorem dX6_addToCell_6 : decode cX6_addToCell 6 = .ok (.getfield 9, 3) := by decide +kernel
theorem dX6_addToCell_9 : decode cX6_addToCell 9 = .ok (.arraylength, 1) := by decide +kernel
theorem dX6_addToCell_10 : decode cX6_addToCell 10 = .ok (.if_icmp .ge 13, 3) := by decide +kernel
theorem dX6_addToCell_13 : decode cX6_addToCell 13 = .ok (.aload_n 0, 1) := by decide +kernel
theorem dX6_addToCell_14 : decode cX6_addToCell 14 = .ok (.getfield 9, 3) := by decide +kernel
theorem dX6_addToCell_17 : decode cX6_addToCell 17 = .ok (.iload_n 1, 1) := by decide +kernel
theorem dX6_addToCell_18 : decode cX6_addToCell 18 = .ok (.dup2, 1) := by decide +kernel
theorem dX6_addToCell_19 : decode cX6_addToCell 19 = .ok (.iaload, 1) := by decide +kernel
theorem dX6_addToCell_20 : decode cX6_addToCell 20 = .ok (.iload_n 2, 1) := by decide +kernel
theorem dX6_addToCell_21 : decode cX6_addToCell 21 = .ok (.iadd, 1) := by decide +kernel
theorem dX6_addToCell_22 : decode cX6_addToCell 22 = .ok (.iastore, 1) := by decide +kernel
theorem dX6_addToCell_23 : decode cX6_addToCell 23 = .ok (.return_, 1) := by decide +kernel
theorem dX6_secondsInDay_0 : decode cX6_secondsInDay 0 = .ok (.aload_n 1, 1) := by decide +kernel
theorem dX6_secondsInDay_1 : decode cX6_secondsInDay 1 = .ok (.getfield 84, 3) := by decide +kernel
theorem dX6_secondsInDay_4 : decode cX6_secondsInDay 4 = .ok (.iconst 5, 1) := by decide +kernel
theorem dX6_secondsInDay_5 : decode cX6_secondsInDay 5 = .ok (.imul, 1) := by decide +kernel
theorem dX6_secondsInDay_6 : decode cX6_secondsInDay 6 = .ok (.iload_n 2, 1) := by decide +kernel
theorem dX6_secondsInDay_7 : decode cX6_secondsInDay 7 = .ok (.iadd, 1) := by decide +kernel
theorem dX6_secondsInDay_8 : decode cX6_secondsInDay 8 = .ok (.istore_n 3, 1) := by decide +kernel
theorem dX6_secondsInDay_9 : decode cX6_secondsInDay 9 = .ok (.iload_n 3, 1) := by decide +kernel
theorem dX6_secondsInDay_10 : decode cX6_secondsInDay 10 = .ok (.ifCond .lt 21, 3) := by decide +kernel
theorem dX6_secondsInDay_13 : decode cX6_secondsInDay 13 = .ok (.iload_n 3, 1) := by decide +kernel
theorem dX6_secondsInDay_14 : decode cX6_secondsInDay 14 = .ok (.aload_n 0, 1) := by decide +kernel
theorem dX6_secondsInDay_15 : decode cX6_secondsInDay 15 = .ok (.getfield 9, 3) := by decide +kernel
theorem dX6_secondsInDay_18 : decode cX6_secondsInDay 18 = .ok (.arraylength, 1) := by decide +kernel
theorem dX6_secondsInDay_19 : decode cX6_secondsInDay 19 = .ok (.if_icmp .ge 12, 3) := by decide +kernel
theorem dX6_secondsInDay_22 : decode cX6_secondsInDay 22 = .ok (.aload_n 0, 1) := by decide +kernel
theorem dX6_secondsInDay_23 : decode cX6_secondsInDay 23 = .ok (.getfield 9, 3) := by decide +kernel
theorem dX6_secondsInDay_26 : decode cX6_secondsInDay 26 = .ok (.iload_n 3, 1) := by decide +kernel
theorem dX6_secondsInDay_27 : decode cX6_secondsInDay 27 = .ok (.iaload, 1) := by decide +kernel
theorem dX6_secondsInDay_28 : decode cX6_secondsInDay 28 = .ok (.goto 4, 3) := by decide +kernel
theorem dX6_secondsInDay_31 : decode cX6_secondsInDay 31 = .ok (.iconst 0, 1) := by decide +kernel
theorem dX6_secondsInDay_32 : decode cX6_secondsInDay 32 = .ok (.ireturn, 1) := by decide +kernel
theorem dX6_secondsOf_0 : decode cX6_secondsOf 0 = .ok (.aload_n 1, 1) := by decide +kernel
theorem dX6_secondsOf_1 : decode cX6_secondsOf 1 = .ok (.getfield 87, 3) := by decide +kernel
theorem dX6_secondsOf_4 : decode cX6_secondsOf 4 = .ok (.bipush 102, 2) := by decide +kernel
theorem dX6_secondsOf_6 : decode cX6_secondsOf 6 = .ok (.if_icmp .ne 8, 3) := by decide +kernel
theorem dX6_secondsOf_9 : decode cX6_secondsOf 9 = .ok (.aload_n 1, 1) := by decide +kernel
theorem dX6_secondsOf_10 : decode cX6_secondsOf 10 = .ok (.getfield 90, 3) := by decide +kernel
theorem dX6_secondsOf_13 : decode cX6_secondsOf 13 = .ok (.ireturn, 1) := by decide +kernel
theorem dX6_secondsOf_14 : decode cX6_secondsOf 14 = .ok (.iconst 0, 1) := by decide +kernel
theorem dX6_secondsOf_15 : decode cX6_secondsOf 15 = .ok (.istore_n 2, 1) := by decide +kernel
theorem dX6_secondsOf_16 : decode cX6_secondsOf 16 = .ok (.aload_n 1, 1) := by decide +kernel
theorem dX6_secondsOf_17 : decode cX6_secondsOf 17 = .ok (.getfield 84, 3) := by decide +kernel
theorem dX6_secondsOf_20 : decode cX6_secondsOf 20 = .ok (.iconst 5, 1) := by decide +kernel
theorem dX6_secondsOf_21 : decode cX6_secondsOf 21 = .ok (.imul, 1) := by decide +kernel
theorem dX6_secondsOf_22 : decode cX6_secondsOf 22 = .ok (.istore_n 3, 1) := by decide +kernel
theorem dX6_secondsOf_23 : decode cX6_secondsOf 23 = .ok (.iconst 0, 1) := by decide +kernel
theorem dX6_secondsOf_24 : decode cX6_secondsOf 24 = .ok (.iload_n 3, 1) := by decide +kernel
theorem dX6_secondsOf_25 : decode cX6_secondsOf 25 = .ok (.invokestatic 31, 3) := by decide +kernel
theorem dX6_secondsOf_28 : decode cX6_secondsOf 28 = .ok (.istore 4, 2) := by decide +kernel
theorem dX6_secondsOf_30 : decode cX6_secondsOf 30 = .ok (.iload 4, 2) := by decide +kernel
theorem dX6_secondsOf_32 : decode cX6_secondsOf 32 = .ok (.iload_n 3, 1) := by decide +kernel
theorem dX6_secondsOf_33 : decode cX6_secondsOf 33 = .ok (.iconst 5, 1) := by decide +kernel
theorem dX6_secondsOf_34 : decode cX6_secondsOf 34 = .ok (.iadd, 1) := by decide +kernel
theorem dX6_secondsOf_35 : decode cX6_secondsOf 35 = .ok (.if_icmp .ge 29, 3) := by decide +kernel
theorem dX6_secondsOf_38 : decode cX6_secondsOf 38 = .ok (.iload 4, 2) := by decide +kernel
theorem dX6_secondsOf_40 : decode cX6_secondsOf 40 = .ok (.aload_n 0, 1) := by decide +kernel
theorem dX6_secondsOf_41 : decode cX6_secondsOf 41 = .ok (.getfield 9, 3) := by decide +kernel
theorem dX6_secondsOf_44 : decode cX6_secondsOf 44 = .ok (.arraylength, 1) := by decide +kernel
theorem dX6_secondsOf_45 : decode cX6_secondsOf 45 = .ok (.if_icmp .ge 19, 3) := by decide +kernel
theorem dX6_secondsOf_48 : decode cX6_secondsOf 48 = .ok (.iload_n 2, 1) := by decide +kernel
theorem dX6_secondsOf_49 : decode cX6_secondsOf 49 = .ok (.aload_n 0, 1) := by decide +kernel
theorem dX6_secondsOf_50 : decode cX6_secondsOf 50 = .ok (.getfield 9, 3) := by decide +kernel
theorem dX6_secondsOf_53 : decode cX6_secondsOf 53 = .ok (.iload 4, 2) := by decide +kernel
theorem dX6_secondsOf_55 : decode cX6_secondsOf 55 = .ok (.iaload, 1) := by decide +kernel
theorem dX6_secondsOf_56 : decode cX6_secondsOf 56 = .ok (.iadd, 1) := by decide +kernel
theorem dX6_secondsOf_57 : decode cX6_secondsOf 57 = .ok (.istore_n 2, 1) := by decide +kernel
theorem dX6_secondsOf_58 : decode cX6_secondsOf 58 = .ok (.iinc 4 1, 3) := by decide +kernel
theorem dX6_secondsOf_61 : decode cX6_secondsOf 61 = .ok (.goto (-31), 3) := by decide +kernel
theorem dX6_secondsOf_64 : decode cX6_secondsOf 64 = .ok (.iload_n 2, 1) := by decide +kernel
theorem dX6_secondsOf_65 : decode cX6_secondsOf 65 = .ok (.ireturn, 1) := by decide +kernel
theorem dX6_secondsOfAll_0 : decode cX6_secondsOfAll 0 = .ok (.iconst 0, 1) := by decide +kernel
theorem dX6_secondsOfAll_1 : decode cX6_secondsOfAll 1 = .ok (.istore_n 1, 1) := by decide +kernel
theorem dX6_secondsOfAll_2 : decode cX6_secondsOfAll 2 = .ok (.iconst 0, 1) := by decide +kernel
theorem dX6_secondsOfAll_3 : decode cX6_secondsOfAll 3 = .ok (.istore_n 2, 1) := by decide +kernel
theorem dX6_secondsOfAll_4 : decode cX6_secondsOfAll 4 = .ok (.iload_n 2, 1) := by decide +kernel
theorem dX6_secondsOfAll_5 : decode cX6_secondsOfAll 5 = .ok (.aload_n 0, 1) := by decide +kernel
theorem dX6_secondsOfAll_6 : decode cX6_secondsOfAll 6 = .ok (.getfield 15, 3) := by decide +kernel
theorem dX6_secondsOfAll_9 : decode cX6_secondsOfAll 9 = .ok (.getfield 44, 3) := by decide +kernel
theorem dX6_secondsOfAll_12 : decode cX6_secondsOfAll 12 = .ok (.invokevirtual 48, 3) := by decide +kernel
theorem dX6_secondsOfAll_15 : decode cX6_secondsOfAll 15 = .ok (.if_icmp .ge 30, 3) := by decide +kernel
theorem dX6_secondsOfAll_18 : decode cX6_secondsOfAll 18 = .ok (.iload_n 1, 1) := by decide +kernel
theorem dX6_secondsOfAll_19 : decode cX6_secondsOfAll 19 = .ok (.aload_n 0, 1) := by decide +kernel
theorem dX6_secondsOfAll_20 : decode cX6_secondsOfAll 20 = .ok (.aload_n 0, 1) := by decide +kernel
theorem dX6_secondsOfAll_21 : decode cX6_secondsOfAll 21 = .ok (.getfield 15, 3) := by decide +kernel
theorem dX6_secondsOfAll_24 : decode cX6_secondsOfAll 24 = .ok (.getfield 44, 3) := by decide +kernel
theorem dX6_secondsOfAll_27 : decode cX6_secondsOfAll 27 = .ok (.iload_n 2, 1) := by decide +kernel
theorem dX6_secondsOfAll_28 : decode cX6_secondsOfAll 28 = .ok (.invokevirtual 58, 3) := by decide +kernel
theorem dX6_secondsOfAll_31 : decode cX6_secondsOfAll 31 = .ok (.checkcast 62, 3) := by decide +kernel
theorem dX6_secondsOfAll_34 : decode cX6_secondsOfAll 34 = .ok (.invokevirtual 93, 3) := by decide +kernel
theorem dX6_secondsOfAll_37 : decode cX6_secondsOfAll 37 = .ok (.iadd, 1) := by decide +kernel
theorem dX6_secondsOfAll_38 : decode cX6_secondsOfAll 38 = .ok (.istore_n 1, 1) := by decide +kernel
theorem dX6_secondsOfAll_39 : decode cX6_secondsOfAll 39 = .ok (.iinc 2 1, 3) := by decide +kernel
theorem dX6_secondsOfAll_42 : decode cX6_secondsOfAll 42 = .ok (.goto (-38), 3) := by decide +kernel
theorem dX6_secondsOfAll_45 : decode cX6_secondsOfAll 45 = .ok (.iload_n 1, 1) := by decide +kernel
theorem dX6_secondsOfAll_46 : decode cX6_secondsOfAll 46 = .ok (.ireturn, 1) := by decide +kernel
theorem dX6_openSecondsInDay_0 : decode cX6_openSecondsInDay 0 = .ok (.iconst 0, 1) := by decide +kernel
theorem dX6_openSecondsInDay_1 : decode cX6_openSecondsInDay 1 = .ok (.istore_n 3, 1) := by decide +kernel
theorem dX6_openSecondsInDay_2 : decode cX6_openSecondsInDay 2 = .ok (.iconst 0, 1) := by decide +kernel
theorem dX6_openSecondsInDay_3 : decode cX6_openSecondsInDay 3 = .ok (.istore 4, 2) := by decide +kernel
theorem dX6_openSecondsInDay_5 : decode cX6_openSecondsInDay 5 = .ok (.iload 4, 2) := by decide +kernel
theorem dX6_openSecondsInDay_7 : decode cX6_openSecondsInDay 7 = .ok (.aload_n 0, 1) := by decide +kernel
theorem dX6_openSecondsInDay_8 : decode cX6_openSecondsInDay 8 = .ok (.getfield 15, 3) := by decide +kernel
theorem dX6_openSecondsInDay_11 : decode cX6_openSecondsInDay 11 = .ok (.getfield 44, 3) := by decide +kernel
theorem dX6_openSecondsInDay_14 : decode cX6_openSecondsInDay 14 = .ok (.invokevirtual 48, 3) := by decide +kernel
theorem dX6_openSecondsInDay_17 : decode cX6_openSecondsInDay 17 = .ok (.if_icmp .ge 53, 3) := by decide +kernel
theorem dX6_openSecondsInDay_20 : decode cX6_openSecondsInDay 20 = .ok (.aload_n 0, 1) := by decide +kernel
theorem dX6_openSecondsInDay_21 : decode cX6_openSecondsInDay 21 = .ok (.getfield 15, 3) := by decide +kernel
theorem dX6_openSecondsInDay_24 : decode cX6_openSecondsInDay 24 = .ok (.getfield 44, 3) := by decide +kernel
theorem dX6_openSecondsInDay_27 : decode cX6_openSecondsInDay 27 = .ok (.iload 4, 2) := by decide +kernel
theorem dX6_openSecondsInDay_29 : decode cX6_openSecondsInDay 29 = .ok (.invokevirtual 58, 3) := by decide +kernel
theorem dX6_openSecondsInDay_32 : decode cX6_openSecondsInDay 32 = .ok (.checkcast 62, 3) := by decide +kernel
theorem dX6_openSecondsInDay_35 : decode cX6_openSecondsInDay 35 = .ok (.astore 5, 2) := by decide +kernel
theorem dX6_openSecondsInDay_37 : decode cX6_openSecondsInDay 37 = .ok (.aload 5, 2) := by decide +kernel
theorem dX6_openSecondsInDay_39 : decode cX6_openSecondsInDay 39 = .ok (.getfield 97, 3) := by decide +kernel
theorem dX6_openSecondsInDay_42 : decode cX6_openSecondsInDay 42 = .ok (.aload_n 1, 1) := by decide +kernel
theorem dX6_openSecondsInDay_43 : decode cX6_openSecondsInDay 43 = .ok (.if_acmp .ne 21, 3) := by decide +kernel
theorem dX6_openSecondsInDay_46 : decode cX6_openSecondsInDay 46 = .ok (.aload 5, 2) := by decide +kernel
theorem dX6_openSecondsInDay_48 : decode cX6_openSecondsInDay 48 = .ok (.invokevirtual 101, 3) := by decide +kernel
theorem dX6_openSecondsInDay_51 : decode cX6_openSecondsInDay 51 = .ok (.ifCond .eq 13, 3) := by decide +kernel
theorem dX6_openSecondsInDay_54 : decode cX6_openSecondsInDay 54 = .ok (.iload_n 3, 1) := by decide +kernel
theorem dX6_openSecondsInDay_55 : decode cX6_openSecondsInDay 55 = .ok (.aload_n 0, 1) := by decide +kernel
theorem dX6_openSecondsInDay_56 : decode cX6_openSecondsInDay 56 = .ok (.aload 5, 2) := by decide +kernel
theorem dX6_openSecondsInDay_58 : decode cX6_openSecondsInDay 58 = .ok (.iload_n 2, 1) := by decide +kernel
theorem dX6_openSecondsInDay_59 : decode cX6_openSecondsInDay 59 = .ok (.invokevirtual 105, 3) := by decide +kernel
theorem dX6_openSecondsInDay_62 : decode cX6_openSecondsInDay 62 = .ok (.iadd, 1) := by decide +kernel
theorem dX6_openSecondsInDay_63 : decode cX6_openSecondsInDay 63 = .ok (.istore_n 3, 1) := by decide +kernel
theorem dX6_openSecondsInDay_64 : decode cX6_openSecondsInDay 64 = .ok (.iinc 4 1, 3) := by decide +kernel
theorem dX6_openSecondsInDay_67 : decode cX6_openSecondsInDay 67 = .ok (.goto (-62), 3) := by decide +kernel
theorem dX6_openSecondsInDay_70 : decode cX6_openSecondsInDay 70 = .ok (.iload_n 3, 1) := by decide +kernel
theorem dX6_openSecondsInDay_71 : decode cX6_openSecondsInDay 71 = .ok (.ireturn, 1) := by decide +kernel
theorem dX6_agreesWith_0 : decode cX6_agreesWith 0 = .ok (.iconst 0, 1) := by decide +kernel
theorem dX6_agreesWith_1 : decode cX6_agreesWith 1 = .ok (.istore_n 2, 1) := by decide +kernel
theorem dX6_agreesWith_2 : decode cX6_agreesWith 2 = .ok (.iload_n 2, 1) := by decide +kernel
theorem dX6_agreesWith_3 : decode cX6_agreesWith 3 = .ok (.aload_n 0, 1) := by decide +kernel
theorem dX6_agreesWith_4 : decode cX6_agreesWith 4 = .ok (.getfield 9, 3) := by decide +kernel
theorem dX6_agreesWith_7 : decode cX6_agreesWith 7 = .ok (.arraylength, 1) := by decide +kernel
theorem dX6_agreesWith_8 : decode cX6_agreesWith 8 = .ok (.if_icmp .ge 35, 3) := by decide +kernel
theorem dX6_agreesWith_11 : decode cX6_agreesWith 11 = .ok (.iload_n 2, 1) := by decide +kernel
theorem dX6_agreesWith_12 : decode cX6_agreesWith 12 = .ok (.aload_n 1, 1) := by decide +kernel
theorem dX6_agreesWith_13 : decode cX6_agreesWith 13 = .ok (.getfield 9, 3) := by decide +kernel
theorem dX6_agreesWith_16 : decode cX6_agreesWith 16 = .ok (.arraylength, 1) := by decide +kernel
theorem dX6_agreesWith_17 : decode cX6_agreesWith 17 = .ok (.if_icmp .ge 26, 3) := by decide +kernel
theorem dX6_agreesWith_20 : decode cX6_agreesWith 20 = .ok (.aload_n 0, 1) := by decide +kernel
theorem dX6_agreesWith_21 : decode cX6_agreesWith 21 = .ok (.getfield 9, 3) := by decide +kernel
theorem dX6_agreesWith_24 : decode cX6_agreesWith 24 = .ok (.iload_n 2, 1) := by decide +kernel
theorem dX6_agreesWith_25 : decode cX6_agreesWith 25 = .ok (.iaload, 1) := by decide +kernel
theorem dX6_agreesWith_26 : decode cX6_agreesWith 26 = .ok (.aload_n 1, 1) := by decide +kernel
theorem dX6_agreesWith_27 : decode cX6_agreesWith 27 = .ok (.getfield 9, 3) := by decide +kernel
theorem dX6_agreesWith_30 : decode cX6_agreesWith 30 = .ok (.iload_n 2, 1) := by decide +kernel
theorem dX6_agreesWith_31 : decode cX6_agreesWith 31 = .ok (.iaload, 1) := by decide +kernel
theorem dX6_agreesWith_32 : decode cX6_agreesWith 32 = .ok (.if_icmp .eq 5, 3) := by decide +kernel
theorem dX6_agreesWith_35 : decode cX6_agreesWith 35 = .ok (.iconst 0, 1) := by decide +kernel
theorem dX6_agreesWith_36 : decode cX6_agreesWith 36 = .ok (.ireturn, 1) := by decide +kernel
theorem dX6_agreesWith_37 : decode cX6_agreesWith 37 = .ok (.iinc 2 1, 3) := by decide +kernel
theorem dX6_agreesWith_40 : decode cX6_agreesWith 40 = .ok (.goto (-38), 3) := by decide +kernel
theorem dX6_agreesWith_43 : decode cX6_agreesWith 43 = .ok (.iconst 1, 1) := by decide +kernel
theorem dX6_agreesWith_44 : decode cX6_agreesWith 44 = .ok (.ireturn, 1) := by decide +kernel
theorem dX7_init_0 : decode cX7_init 0 = .ok (.aload_n 0, 1) := by decide +kernel
theorem dX7_init_1 : decode cX7_init 1 = .ok (.invokespecial 3, 3) := by decide +kernel
theorem dX7_init_4 : decode cX7_init 4 = .ok (.aload_n 0, 1) := by decide +kernel
theorem dX7_init_5 : decode cX7_init 5 = .ok (.new 9, 3) := by decide +kernel
theorem dX7_init_8 : decode cX7_init 8 = .ok (.dup, 1) := by decide +kernel
theorem dX7_init_9 : decode cX7_init 9 = .ok (.invokespecial 11, 3) := by decide +kernel
theorem dX7_init_12 : decode cX7_init 12 = .ok (.putfield 12, 3) := by decide +kernel
theorem dX7_init_15 : decode cX7_init 15 = .ok (.aload_n 0, 1) := by decide +kernel
theorem dX7_init_16 : decode cX7_init 16 = .ok (.bipush 102, 2) := by decide +kernel
theorem dX7_init_18 : decode cX7_init 18 = .ok (.putfield 18, 3) := by decide +kernel
theorem dX7_init_21 : decode cX7_init 21 = .ok (.return_, 1) := by decide +kernel
theorem dX7_moveTo_0 : decode cX7_moveTo 0 = .ok (.aload_n 0, 1) := by decide +kernel
theorem dX7_moveTo_1 : decode cX7_moveTo 1 = .ok (.iload_n 1, 1) := by decide +kernel
theorem dX7_moveTo_2 : decode cX7_moveTo 2 = .ok (.putfield 22, 3) := by decide +kernel
theorem dX7_moveTo_5 : decode cX7_moveTo 5 = .ok (.iconst 0, 1) := by decide +kernel
theorem dX7_moveTo_6 : decode cX7_moveTo 6 = .ok (.istore_n 2, 1) := by decide +kernel
theorem dX7_moveTo_7 : decode cX7_moveTo 7 = .ok (.iload_n 2, 1) := by decide +kernel
theorem dX7_moveTo_8 : decode cX7_moveTo 8 = .ok (.aload_n 0, 1) := by decide +kernel
theorem dX7_moveTo_9 : decode cX7_moveTo 9 = .ok (.getfield 12, 3) := by decide +kernel
theorem dX7_moveTo_12 : decode cX7_moveTo 12 = .ok (.invokevirtual 26, 3) := by decide +kernel
theorem dX7_moveTo_15 : decode cX7_moveTo 15 = .ok (.if_icmp .ge 35, 3) := by decide +kernel
theorem dX7_moveTo_18 : decode cX7_moveTo 18 = .ok (.aload_n 0, 1) := by decide +kernel
theorem dX7_moveTo_19 : decode cX7_moveTo 19 = .ok (.getfield 12, 3) := by decide +kernel
theorem dX7_moveTo_22 : decode cX7_moveTo 22 = .ok (.iload_n 2, 1) := by decide +kernel
theorem dX7_moveTo_23 : decode cX7_moveTo 23 = .ok (.invokevirtual 30, 3) := by decide +kernel
theorem dX7_moveTo_26 : decode cX7_moveTo 26 = .ok (.checkcast 34, 3) := by decide +kernel
theorem dX7_moveTo_29 : decode cX7_moveTo 29 = .ok (.astore_n 3, 1) := by decide +kernel
theorem dX7_moveTo_30 : decode cX7_moveTo 30 = .ok (.aload_n 3, 1) := by decide +kernel
theorem dX7_moveTo_31 : decode cX7_moveTo 31 = .ok (.getfield 36, 3) := by decide +kernel
theorem dX7_moveTo_34 : decode cX7_moveTo 34 = .ok (.bipush 114, 2) := by decide +kernel
theorem dX7_moveTo_36 : decode cX7_moveTo 36 = .ok (.if_icmp .ne 8, 3) := by decide +kernel
theorem dX7_moveTo_39 : decode cX7_moveTo 39 = .ok (.aload_n 3, 1) := by decide +kernel
theorem dX7_moveTo_40 : decode cX7_moveTo 40 = .ok (.iload_n 1, 1) := by decide +kernel
theorem dX7_moveTo_41 : decode cX7_moveTo 41 = .ok (.putfield 39, 3) := by decide +kernel
theorem dX7_moveTo_44 : decode cX7_moveTo 44 = .ok (.iinc 2 1, 3) := by decide +kernel
theorem dX7_moveTo_47 : decode cX7_moveTo 47 = .ok (.goto (-40), 3) := by decide +kernel
theorem dX7_moveTo_50 : decode cX7_moveTo 50 = .ok (.return_, 1) := by decide +kernel
theorem dX7_append_0 : decode cX7_append 0 = .ok (.aload_n 0, 1) := by decide +kernel
theorem dX7_append_1 : decode cX7_append 1 = .ok (.getfield 12, 3) := by decide +kernel
theorem dX7_append_4 : decode cX7_append 4 = .ok (.invokevirtual 26, 3) := by decide +kernel
theorem dX7_append_7 : decode cX7_append 7 = .ok (.istore 5, 2) := by decide +kernel
theorem dX7_append_9 : decode cX7_append 9 = .ok (.aload_n 0, 1) := by decide +kernel
theorem dX7_append_10 : decode cX7_append 10 = .ok (.getfield 12, 3) := by decide +kernel
theorem dX7_append_13 : decode cX7_append 13 = .ok (.new 34, 3) := by decide +kernel
theorem dX7_append_16 : decode cX7_append 16 = .ok (.dup, 1) := by decide +kernel
theorem dX7_append_17 : decode cX7_append 17 = .ok (.iload 5, 2) := by decide +kernel
theorem dX7_append_19 : decode cX7_append 19 = .ok (.aload_n 1, 1) := by decide +kernel
theorem dX7_append_20 : decode cX7_append 20 = .ok (.iload_n 2, 1) := by decide +kernel
theorem dX7_append_21 : decode cX7_append 21 = .ok (.iload_n 3, 1) := by decide +kernel
theorem dX7_append_22 : decode cX7_append 22 = .ok (.iload 4, 2) := by decide +kernel
theorem dX7_append_24 : decode cX7_append 24 = .ok (.invokespecial 42, 3) := by decide +kernel
theorem dX7_append_27 : decode cX7_append 27 = .ok (.invokevirtual 45, 3) := by decide +kernel
theorem dX7_append_30 : decode cX7_append 30 = .ok (.pop, 1) := by decide +kernel
theorem dX7_append_31 : decode cX7_append 31 = .ok (.iload 5, 2) := by decide +kernel
theorem dX7_append_33 : decode cX7_append 33 = .ok (.ireturn, 1) := by decide +kernel
theorem dX7_runningEntries_0 : decode cX7_runningEntries 0 = .ok (.iconst 0, 1) := by decide +kernel
theorem dX7_runningEntries_1 : decode cX7_runningEntries 1 = .ok (.istore_n 1, 1) := by decide +kernel
theorem dX7_runningEntries_2 : decode cX7_runningEntries 2 = .ok (.iconst 0, 1) := by decide +kernel
theorem dX7_runningEntries_3 : decode cX7_runningEntries 3 = .ok (.istore_n 2, 1) := by decide +kernel
theorem dX7_runningEntries_4 : decode cX7_runningEntries 4 = .ok (.iload_n 2, 1) := by decide +kernel
theorem dX7_runningEntries_5 : decode cX7_runningEntries 5 = .ok (.aload_n 0, 1) := by decide +kernel
theorem dX7_runningEntries_6 : decode cX7_runningEntries 6 = .ok (.getfield 12, 3) := by decide +kernel
theorem dX7_runningEntries_9 : decode cX7_runningEntries 9 = .ok (.invokevirtual 26, 3) := by decide +kernel
theorem dX7_runningEntries_12 : decode cX7_runningEntries 12 = .ok (.if_icmp .ge 31, 3) := by decide +kernel
theorem dX7_runningEntries_15 : decode cX7_runningEntries 15 = .ok (.aload_n 0, 1) := by decide +kernel
theorem dX7_runningEntries_16 : decode cX7_runningEntries 16 = .ok (.getfield 12, 3) := by decide +kernel
theorem dX7_runningEntries_19 : decode cX7_runningEntries 19 = .ok (.iload_n 2, 1) := by decide +kernel
theorem dX7_runningEntries_20 : decode cX7_runningEntries 20 = .ok (.invokevirtual 30, 3) := by decide +kernel
theorem dX7_runningEntries_23 : decode cX7_runningEntries 23 = .ok (.checkcast 34, 3) := by decide +kernel
theorem dX7_runningEntries_26 : decode cX7_runningEntries 26 = .ok (.getfield 36, 3) := by decide +kernel
theorem dX7_runningEntries_29 : decode cX7_runningEntries 29 = .ok (.bipush 114, 2) := by decide +kernel
theorem dX7_runningEntries_31 : decode cX7_runningEntries 31 = .ok (.if_icmp .ne 6, 3) := by decide +kernel
theorem dX7_runningEntries_34 : decode cX7_runningEntries 34 = .ok (.iinc 1 1, 3) := by decide +kernel
theorem dX7_runningEntries_37 : decode cX7_runningEntries 37 = .ok (.iinc 2 1, 3) := by decide +kernel
theorem dX7_runningEntries_40 : decode cX7_runningEntries 40 = .ok (.goto (-36), 3) := by decide +kernel
theorem dX7_runningEntries_43 : decode cX7_runningEntries 43 = .ok (.iload_n 1, 1) := by decide +kernel
theorem dX7_runningEntries_44 : decode cX7_runningEntries 44 = .ok (.ireturn, 1) := by decide +kernel
theorem dX7_keptEntries_0 : decode cX7_keptEntries 0 = .ok (.iconst 0, 1) := by decide +kernel
theorem dX7_keptEntries_1 : decode cX7_keptEntries 1 = .ok (.istore_n 1, 1) := by decide +kernel
theorem dX7_keptEntries_2 : decode cX7_keptEntries 2 = .ok (.iconst 0, 1) := by decide +kernel
theorem dX7_keptEntries_3 : decode cX7_keptEntries 3 = .ok (.istore_n 2, 1) := by decide +kernel
theorem dX7_keptEntries_4 : decode cX7_keptEntries 4 = .ok (.iload_n 2, 1) := by decide +kernel
theorem dX7_keptEntries_5 : decode cX7_keptEntries 5 = .ok (.aload_n 0, 1) := by decide +kernel
theorem dX7_keptEntries_6 : decode cX7_keptEntries 6 = .ok (.getfield 12, 3) := by decide +kernel
theorem dX7_keptEntries_9 : decode cX7_keptEntries 9 = .ok (.invokevirtual 26, 3) := by decide +kernel
theorem dX7_keptEntries_12 : decode cX7_keptEntries 12 = .ok (.if_icmp .ge 31, 3) := by decide +kernel
theorem dX7_keptEntries_15 : decode cX7_keptEntries 15 = .ok (.aload_n 0, 1) := by decide +kernel
theorem dX7_keptEntries_16 : decode cX7_keptEntries 16 = .ok (.getfield 12, 3) := by decide +kernel
theorem dX7_keptEntries_19 : decode cX7_keptEntries 19 = .ok (.iload_n 2, 1) := by decide +kernel
theorem dX7_keptEntries_20 : decode cX7_keptEntries 20 = .ok (.invokevirtual 30, 3) := by decide +kernel
theorem dX7_keptEntries_23 : decode cX7_keptEntries 23 = .ok (.checkcast 34, 3) := by decide +kernel
theorem dX7_keptEntries_26 : decode cX7_keptEntries 26 = .ok (.getfield 36, 3) := by decide +kernel
theorem dX7_keptEntries_29 : decode cX7_keptEntries 29 = .ok (.bipush 120, 2) := by decide +kernel
theorem dX7_keptEntries_31 : decode cX7_keptEntries 31 = .ok (.if_icmp .eq 6, 3) := by decide +kernel
theorem dX7_keptEntries_34 : decode cX7_keptEntries 34 = .ok (.iinc 1 1, 3) := by decide +kernel
theorem dX7_keptEntries_37 : decode cX7_keptEntries 37 = .ok (.iinc 2 1, 3) := by decide +kernel
theorem dX7_keptEntries_40 : decode cX7_keptEntries 40 = .ok (.goto (-36), 3) := by decide +kernel
theorem dX7_keptEntries_43 : decode cX7_keptEntries 43 = .ok (.iload_n 1, 1) := by decide +kernel
theorem dX7_keptEntries_44 : decode cX7_keptEntries 44 = .ok (.ireturn, 1) := by decide +kernel
theorem dX7_nextChange_0 : decode cX7_nextChange 0 = .ok (.iload_n 2, 1) := by decide +kernel
theorem dX7_nextChange_1 : decode cX7_nextChange 1 = .ok (.iload_n 1, 1) := by decide +kernel
theorem dX7_nextChange_2 : decode cX7_nextChange 2 = .ok (.sipush 600, 3) := by decide +kernel
theorem dX7_nextChange_5 : decode cX7_nextChange 5 = .ok (.idiv, 1) := by decide +kernel
theorem dX7_nextChange_6 : decode cX7_nextChange 6 = .ok (.iconst 1, 1) := by decide +kernel
theorem dX7_nextChange_7 : decode cX7_nextChange 7 = .ok (.iadd, 1) := by decide +kernel
theorem dX7_nextChange_8 : decode cX7_nextChange 8 = .ok (.sipush 600, 3) := by decide +kernel
theorem dX7_nextChange_11 : decode cX7_nextChange 11 = .ok (.imul, 1) := by decide +kernel
theorem dX7_nextChange_12 : decode cX7_nextChange 12 = .ok (.invokestatic 49, 3) := by decide +kernel
theorem dX7_nextChange_15 : decode cX7_nextChange 15 = .ok (.istore_n 3, 1) := by decide +kernel
theorem dX7_nextChange_16 : decode cX7_nextChange 16 = .ok (.iconst 0, 1) := by decide +kernel
theorem dX7_nextChange_17 : decode cX7_nextChange 17 = .ok (.istore 4, 2) := by decide +kernel
theorem dX7_nextChange_19 : decode cX7_nextChange 19 = .ok (.iload 4, 2) := by decide +kernel
theorem dX7_nextChange_21 : decode cX7_nextChange 21 = .ok (.aload_n 0, 1) := by decide +kernel
theorem dX7_nextChange_22 : decode cX7_nextChange 22 = .ok (.getfield 12, 3) := by decide +kernel
theorem dX7_nextChange_25 : decode cX7_nextChange 25 = .ok (.invokevirtual 26, 3) := by decide +kernel
theorem dX7_nextChange_28 : decode cX7_nextChange 28 = .ok (.if_icmp .ge 71, 3) := by decide +kernel
theorem dX7_nextChange_31 : decode cX7_nextChange 31 = .ok (.aload_n 0, 1) := by decide +kernel
theorem dX7_nextChange_32 : decode cX7_nextChange 32 = .ok (.getfield 12, 3) := by decide +kernel
theorem dX7_nextChange_35 : decode cX7_nextChange 35 = .ok (.iload 4, 2) := by decide +kernel
theorem dX7_nextChange_37 : decode cX7_nextChange 37 = .ok (.invokevirtual 30, 3) := by decide +kernel
theorem dX7_nextChange_40 : decode cX7_nextChange 40 = .ok (.checkcast 34, 3) := by decide +kernel
theorem dX7_nextChange_43 : decode cX7_nextChange 43 = .ok (.astore 5, 2) := by decide +kernel
theorem dX7_nextChange_45 : decode cX7_nextChange 45 = .ok (.aload 5, 2) := by decide +kernel
theorem dX7_nextChange_47 : decode cX7_nextChange 47 = .ok (.getfield 55, 3) := by decide +kernel
theorem dX7_nextChange_50 : decode cX7_nextChange 50 = .ok (.iload_n 1, 1) := by decide +kernel
theorem dX7_nextChange_51 : decode cX7_nextChange 51 = .ok (.if_icmp .le 18, 3) := by decide +kernel
theorem dX7_nextChange_54 : decode cX7_nextChange 54 = .ok (.aload 5, 2) := by decide +kernel
theorem dX7_nextChange_56 : decode cX7_nextChange 56 = .ok (.getfield 55, 3) := by decide +kernel
theorem dX7_nextChange_59 : decode cX7_nextChange 59 = .ok (.iload_n 3, 1) := by decide +kernel
theorem dX7_nextChange_60 : decode cX7_nextChange 60 = .ok (.if_icmp .ge 9, 3) := by decide +kernel
theorem dX7_nextChange_63 : decode cX7_nextChange 63 = .ok (.aload 5, 2) := by decide +kernel
theorem dX7_nextChange_65 : decode cX7_nextChange 65 = .ok (.getfield 55, 3) := by decide +kernel
theorem dX7_nextChange_68 : decode cX7_nextChange 68 = .ok (.istore_n 3, 1) := by decide +kernel
theorem dX7_nextChange_69 : decode cX7_nextChange 69 = .ok (.aload 5, 2) := by decide +kernel
theorem dX7_nextChange_71 : decode cX7_nextChange 71 = .ok (.getfield 39, 3) := by decide +kernel
theorem dX7_nextChange_74 : decode cX7_nextChange 74 = .ok (.iload_n 1, 1) := by decide +kernel
theorem dX7_nextChange_75 : decode cX7_nextChange 75 = .ok (.if_icmp .le 18, 3) := by decide +kernel
theorem dX7_nextChange_78 : decode cX7_nextChange 78 = .ok (.aload 5, 2) := by decide +kernel
theorem dX7_nextChange_80 : decode cX7_nextChange 80 = .ok (.getfield 39, 3) := by decide +kernel
theorem dX7_nextChange_83 : decode cX7_nextChange 83 = .ok (.iload_n 3, 1) := by decide +kernel
theorem dX7_nextChange_84 : decode cX7_nextChange 84 = .ok (.if_icmp .ge 9, 3) := by decide +kernel
theorem dX7_nextChange_87 : decode cX7_nextChange 87 = .ok (.aload 5, 2) := by decide +kernel
theorem dX7_nextChange_89 : decode cX7_nextChange 89 = .ok (.getfield 39, 3) := by decide +kernel
theorem dX7_nextChange_92 : decode cX7_nextChange 92 = .ok (.istore_n 3, 1) := by decide +kernel
theorem dX7_nextChange_93 : decode cX7_nextChange 93 = .ok (.iinc 4 1, 3) := by decide +kernel
theorem dX7_nextChange_96 : decode cX7_nextChange 96 = .ok (.goto (-77), 3) := by decide +kernel
theorem dX7_nextChange_99 : decode cX7_nextChange 99 = .ok (.iload_n 3, 1) := by decide +kernel
theorem dX7_nextChange_100 : decode cX7_nextChange 100 = .ok (.ireturn, 1) := by decide +kernel
theorem dX8_init_0 : decode cX8_init 0 = .ok (.aload_n 0, 1) := by decide +kernel
theorem dX8_init_1 : decode cX8_init 1 = .ok (.invokespecial 1, 3) := by decide +kernel
theorem dX8_init_4 : decode cX8_init 4 = .ok (.aload_n 0, 1) := by decide +kernel
theorem dX8_init_5 : decode cX8_init 5 = .ok (.new 7, 3) := by decide +kernel
theorem dX8_init_8 : decode cX8_init 8 = .ok (.dup, 1) := by decide +kernel
theorem dX8_init_9 : decode cX8_init 9 = .ok (.invokespecial 9, 3) := by decide +kernel
theorem dX8_init_12 : decode cX8_init 12 = .ok (.putfield 10, 3) := by decide +kernel
theorem dX8_init_15 : decode cX8_init 15 = .ok (.aload_n 0, 1) := by decide +kernel
theorem dX8_init_16 : decode cX8_init 16 = .ok (.new 16, 3) := by decide +kernel
theorem dX8_init_19 : decode cX8_init 19 = .ok (.dup, 1) := by decide +kernel
theorem dX8_init_20 : decode cX8_init 20 = .ok (.aload_n 0, 1) := by decide +kernel
theorem dX8_init_21 : decode cX8_init 21 = .ok (.getfield 10, 3) := by decide +kernel
theorem dX8_init_24 : decode cX8_init 24 = .ok (.invokespecial 18, 3) := by decide +kernel
theorem dX8_init_27 : decode cX8_init 27 = .ok (.putfield 21, 3) := by decide +kernel
theorem dX8_init_30 : decode cX8_init 30 = .ok (.aload_n 0, 1) := by decide +kernel
theorem dX8_init_31 : decode cX8_init 31 = .ok (.new 16, 3) := by decide +kernel
theorem dX8_init_34 : decode cX8_init 34 = .ok (.dup, 1) := by decide +kernel
theorem dX8_init_35 : decode cX8_init 35 = .ok (.aload_n 0, 1) := by decide +kernel
theorem dX8_init_36 : decode cX8_init 36 = .ok (.getfield 10, 3) := by decide +kernel
theorem dX8_init_39 : decode cX8_init 39 = .ok (.invokespecial 18, 3) := by decide +kernel
theorem dX8_init_42 : decode cX8_init 42 = .ok (.putfield 25, 3) := by decide +kernel
theorem dX8_init_45 : decode cX8_init 45 = .ok (.aload_n 0, 1) := by decide +kernel
theorem dX8_init_46 : decode cX8_init 46 = .ok (.new 28, 3) := by decide +kernel
theorem dX8_init_49 : decode cX8_init 49 = .ok (.dup, 1) := by decide +kernel
theorem dX8_init_50 : decode cX8_init 50 = .ok (.aload_n 0, 1) := by decide +kernel
theorem dX8_init_51 : decode cX8_init 51 = .ok (.getfield 10, 3) := by decide +kernel
theorem dX8_init_54 : decode cX8_init 54 = .ok (.aload_n 0, 1) := by decide +kernel
theorem dX8_init_55 : decode cX8_init 55 = .ok (.getfield 21, 3) := by decide +kernel
theorem dX8_init_58 : decode cX8_init 58 = .ok (.invokespecial 30, 3) := by decide +kernel
theorem dX8_init_61 : decode cX8_init 61 = .ok (.putfield 33, 3) := by decide +kernel
theorem dX8_init_64 : decode cX8_init 64 = .ok (.aload_n 0, 1) := by decide +kernel
theorem dX8_init_65 : decode cX8_init 65 = .ok (.new 37, 3) := by decide +kernel
theorem dX8_init_68 : decode cX8_init 68 = .ok (.dup, 1) := by decide +kernel
theorem dX8_init_69 : decode cX8_init 69 = .ok (.invokespecial 39, 3) := by decide +kernel
theorem dX8_init_72 : decode cX8_init 72 = .ok (.putfield 40, 3) := by decide +kernel
theorem dX8_init_75 : decode cX8_init 75 = .ok (.aload_n 0, 1) := by decide +kernel
theorem dX8_init_76 : decode cX8_init 76 = .ok (.new 37, 3) := by decide +kernel
theorem dX8_init_79 : decode cX8_init 79 = .ok (.dup, 1) := by decide +kernel
theorem dX8_init_80 : decode cX8_init 80 = .ok (.invokespecial 39, 3) := by decide +kernel
theorem dX8_init_83 : decode cX8_init 83 = .ok (.putfield 44, 3) := by decide +kernel
theorem dX8_init_86 : decode cX8_init 86 = .ok (.aload_n 0, 1) := by decide +kernel
theorem dX8_init_87 : decode cX8_init 87 = .ok (.new 37, 3) := by decide +kernel
theorem dX8_init_90 : decode cX8_init 90 = .ok (.dup, 1) := by decide +kernel
theorem dX8_init_91 : decode cX8_init 91 = .ok (.invokespecial 39, 3) := by decide +kernel
theorem dX8_init_94 : decode cX8_init 94 = .ok (.putfield 47, 3) := by decide +kernel
theorem dX8_init_97 : decode cX8_init 97 = .ok (.aload_n 0, 1) := by decide +kernel
theorem dX8_init_98 : decode cX8_init 98 = .ok (.new 50, 3) := by decide +kernel
theorem dX8_init_101 : decode cX8_init 101 = .ok (.dup, 1) := by decide +kernel
theorem dX8_init_102 : decode cX8_init 102 = .ok (.invokespecial 52, 3) := by decide +kernel
theorem dX8_init_105 : decode cX8_init 105 = .ok (.putfield 53, 3) := by decide +kernel
theorem dX8_init_108 : decode cX8_init 108 = .ok (.return_, 1) := by decide +kernel
theorem dX8_now_0 : decode cX8_now 0 = .ok (.aload_n 0, 1) := by decide +kernel
theorem dX8_now_1 : decode cX8_now 1 = .ok (.getfield 10, 3) := by decide +kernel
theorem dX8_now_4 : decode cX8_now 4 = .ok (.getfield 57, 3) := by decide +kernel
theorem dX8_now_7 : decode cX8_now 7 = .ok (.ireturn, 1) := by decide +kernel
theorem dX8_pass_0 : decode cX8_pass 0 = .ok (.iload_n 1, 1) := by decide +kernel
theorem dX8_pass_1 : decode cX8_pass 1 = .ok (.iconst 1, 1) := by decide +kernel
theorem dX8_pass_2 : decode cX8_pass 2 = .ok (.if_icmp .lt 10, 3) := by decide +kernel
theorem dX8_pass_5 : decode cX8_pass 5 = .ok (.iload_n 1, 1) := by decide +kernel
theorem dX8_pass_6 : decode cX8_pass 6 = .ok (.sipush 600, 3) := by decide +kernel
theorem dX8_pass_9 : decode cX8_pass 9 = .ok (.if_icmp .le 13, 3) := by decide +kernel
theorem dX8_pass_12 : decode cX8_pass 12 = .ok (.new 61, 3) := by decide +kernel
theorem dX8_pass_15 : decode cX8_pass 15 = .ok (.dup, 1) := by decide +kernel
theorem dX8_pass_16 : decode cX8_pass 16 = .ok (.ldc 63, 2) := by decide +kernel
theorem dX8_pass_18 : decode cX8_pass 18 = .ok (.invokespecial 65, 3) := by decide +kernel
theorem dX8_pass_21 : decode cX8_pass 21 = .ok (.athrow, 1) := by decide +kernel
theorem dX8_pass_22 : decode cX8_pass 22 = .ok (.aload_n 0, 1) := by decide +kernel
theorem dX8_pass_23 : decode cX8_pass 23 = .ok (.getfield 10, 3) := by decide +kernel
theorem dX8_pass_26 : decode cX8_pass 26 = .ok (.getfield 57, 3) := by decide +kernel
theorem dX8_pass_29 : decode cX8_pass 29 = .ok (.iload_n 1, 1) := by decide +kernel
theorem dX8_pass_30 : decode cX8_pass 30 = .ok (.iadd, 1) := by decide +kernel
theorem dX8_pass_31 : decode cX8_pass 31 = .ok (.sipush 2999, 3) := by decide +kernel
theorem dX8_pass_34 : decode cX8_pass 34 = .ok (.if_icmp .le 13, 3) := by decide +kernel
theorem dX8_pass_37 : decode cX8_pass 37 = .ok (.new 68, 3) := by decide +kernel
theorem dX8_pass_40 : decode cX8_pass 40 = .ok (.dup, 1) := by decide +kernel
theorem dX8_pass_41 : decode cX8_pass 41 = .ok (.ldc 70, 2) := by decide +kernel
theorem dX8_pass_43 : decode cX8_pass 43 = .ok (.invokespecial 72, 3) := by decide +kernel
theorem dX8_pass_46 : decode cX8_pass 46 = .ok (.athrow, 1) := by decide +kernel
theorem dX8_pass_47 : decode cX8_pass 47 = .ok (.aload_n 0, 1) := by decide +kernel
theorem dX8_pass_48 : decode cX8_pass 48 = .ok (.getfield 10, 3) := by decide +kernel
theorem dX8_pass_51 : decode cX8_pass 51 = .ok (.aload_n 0, 1) := by decide +kernel
theorem dX8_pass_52 : decode cX8_pass 52 = .ok (.getfield 10, 3) := by decide +kernel
theorem dX8_pass_55 : decode cX8_pass 55 = .ok (.getfield 57, 3) := by decide +kernel
theorem dX8_pass_58 : decode cX8_pass 58 = .ok (.iload_n 1, 1) := by decide +kernel
theorem dX8_pass_59 : decode cX8_pass 59 = .ok (.iadd, 1) := by decide +kernel
theorem dX8_pass_60 : decode cX8_pass 60 = .ok (.invokevirtual 73, 3) := by decide +kernel
theorem dX8_pass_63 : decode cX8_pass 63 = .ok (.aload_n 0, 1) := by decide +kernel
theorem dX8_pass_64 : decode cX8_pass 64 = .ok (.getfield 10, 3) := by decide +kernel
theorem dX8_pass_67 : decode cX8_pass 67 = .ok (.getfield 57, 3) := by decide +kernel
theorem dX8_pass_70 : decode cX8_pass 70 = .ok (.ireturn, 1) := by decide +kernel
theorem dX8_setRule_0 : decode cX8_setRule 0 = .ok (.iload_n 1, 1) := by decide +kernel
theorem dX8_setRule_1 : decode cX8_setRule 1 = .ok (.bipush 102, 2) := by decide +kernel
theorem dX8_setRule_3 : decode cX8_setRule 3 = .ok (.if_icmp .eq 25, 3) := by decide +kernel
theorem dX8_setRule_6 : decode cX8_setRule 6 = .ok (.iload_n 1, 1) := by decide +kernel
theorem dX8_setRule_7 : decode cX8_setRule 7 = .ok (.bipush 108, 2) := by decide +kernel
theorem dX8_setRule_9 : decode cX8_setRule 9 = .ok (.if_icmp .eq 19, 3) := by decide +kernel
theorem dX8_setRule_12 : decode cX8_setRule 12 = .ok (.iload_n 1, 1) := by decide +kernel
theorem dX8_setRule_13 : decode cX8_setRule 13 = .ok (.bipush 115, 2) := by decide +kernel
theorem dX8_setRule_15 : decode cX8_setRule 15 = .ok (.if_icmp .eq 13, 3) := by decide +kernel
theorem dX8_setRule_18 : decode cX8_setRule 18 = .ok (.new 61, 3) := by decide +kernel
theorem dX8_setRule_21 : decode cX8_setRule 21 = .ok (.dup, 1) := by decide +kernel
theorem dX8_setRule_22 : decode cX8_setRule 22 = .ok (.ldc 77, 2) := by decide +kernel
theorem dX8_setRule_24 : decode cX8_setRule 24 = .ok (.invokespecial 65, 3) := by decide +kernel
theorem dX8_setRule_27 : decode cX8_setRule 27 = .ok (.athrow, 1) := by decide +kernel
theorem dX8_setRule_28 : decode cX8_setRule 28 = .ok (.aload_n 0, 1) := by decide +kernel
theorem dX8_setRule_29 : decode cX8_setRule 29 = .ok (.getfield 10, 3) := by decide +kernel
theorem dX8_setRule_32 : decode cX8_setRule 32 = .ok (.getfield 79, 3) := by decide +kernel
theorem dX8_setRule_35 : decode cX8_setRule 35 = .ok (.istore_n 2, 1) := by decide +kernel
theorem dX8_setRule_36 : decode cX8_setRule 36 = .ok (.aload_n 0, 1) := by decide +kernel
theorem dX8_setRule_37 : decode cX8_setRule 37 = .ok (.getfield 10, 3) := by decide +kernel
theorem dX8_setRule_40 : decode cX8_setRule 40 = .ok (.iload_n 1, 1) := by decide +kernel
theorem dX8_setRule_41 : decode cX8_setRule 41 = .ok (.putfield 79, 3) := by decide +kernel
theorem dX8_setRule_44 : decode cX8_setRule 44 = .ok (.iload_n 2, 1) := by decide +kernel
theorem dX8_setRule_45 : decode cX8_setRule 45 = .ok (.ireturn, 1) := by decide +kernel
theorem dX8_addClient_0 : decode cX8_addClient 0 = .ok (.aload_n 0, 1) := by decide +kernel
theorem dX8_addClient_1 : decode cX8_addClient 1 = .ok (.iload_n 1, 1) := by decide +kernel
theorem dX8_addClient_2 : decode cX8_addClient 2 = .ok (.iload_n 2, 1) := by decide +kernel
theorem dX8_addClient_3 : decode cX8_addClient 3 = .ok (.iload_n 3, 1) := by decide +kernel
theorem dX8_addClient_4 : decode cX8_addClient 4 = .ok (.invokevirtual 83, 3) := by decide +kernel
theorem dX8_addClient_7 : decode cX8_addClient 7 = .ok (.aload_n 0, 1) := by decide +kernel
theorem dX8_addClient_8 : decode cX8_addClient 8 = .ok (.iload 4, 2) := by decide +kernel
theorem dX8_addClient_10 : decode cX8_addClient 10 = .ok (.invokevirtual 87, 3) := by decide +kernel
theorem dX8_addClient_13 : decode cX8_addClient 13 = .ok (.aload_n 0, 1) := by decide +kernel
theorem dX8_addClient_14 : decode cX8_addClient 14 = .ok (.getfield 40, 3) := by decide +kernel
theorem dX8_addClient_17 : decode cX8_addClient 17 = .ok (.invokevirtual 90, 3) := by decide +kernel
theorem dX8_addClient_20 : decode cX8_addClient 20 = .ok (.iconst 5, 1) := by decide +kernel
theorem dX8_addClient_21 : decode cX8_addClient 21 = .ok (.if_icmp .lt 13, 3) := by decide +kernel
theorem dX8_addClient_24 : decode cX8_addClient 24 = .ok (.new 68, 3) := by decide +kernel
theorem dX8_addClient_27 : decode cX8_addClient 27 = .ok (.dup, 1) := by decide +kernel
theorem dX8_addClient_28 : decode cX8_addClient 28 = .ok (.ldc 94, 2) := by decide +kernel
theorem dX8_addClient_30 : decode cX8_addClient 30 = .ok (.invokespecial 72, 3) := by decide +kernel
theorem dX8_addClient_33 : decode cX8_addClient 33 = .ok (.athrow, 1) := by decide +kernel
theorem dX8_addClient_34 : decode cX8_addClient 34 = .ok (.aload_n 0, 1) := by decide +kernel
theorem dX8_addClient_35 : decode cX8_addClient 35 = .ok (.getfield 40, 3) := by decide +kernel
theorem dX8_addClient_38 : decode cX8_addClient 38 = .ok (.invokevirtual 90, 3) := by decide +kernel
theorem dX8_addClient_41 : decode cX8_addClient 41 = .ok (.istore 5, 2) := by decide +kernel
theorem dX8_addClient_43 : decode cX8_addClient 43 = .ok (.aload_n 0, 1) := by decide +kernel
theorem dX8_addClient_44 : decode cX8_addClient 44 = .ok (.getfield 40, 3) := by decide +kernel
theorem dX8_addClient_47 : decode cX8_addClient 47 = .ok (.new 96, 3) := by decide +kernel
theorem dX8_addClient_50 : decode cX8_addClient 50 = .ok (.dup, 1) := by decide +kernel
theorem dX8_addClient_51 : decode cX8_addClient 51 = .ok (.iload 5, 2) := by decide +kernel
theorem dX8_addClient_53 : decode cX8_addClient 53 = .ok (.iload_n 1, 1) := by decide +kernel
theorem dX8_addClient_54 : decode cX8_addClient 54 = .ok (.iload_n 2, 1) := by decide +kernel
theorem dX8_addClient_55 : decode cX8_addClient 55 = .ok (.iload_n 3, 1) := by decide +kernel
theorem dX8_addClient_56 : decode cX8_addClient 56 = .ok (.iload 4, 2) := by decide +kernel
theorem dX8_addClient_58 : decode cX8_addClient 58 = .ok (.invokespecial 98, 3) := by decide +kernel
theorem dX8_addClient_61 : decode cX8_addClient 61 = .ok (.invokevirtual 101, 3) := by decide +kernel
theorem dX8_addClient_64 : decode cX8_addClient 64 = .ok (.pop, 1) := by decide +kernel
theorem dX8_addClient_65 : decode cX8_addClient 65 = .ok (.iload 5, 2) := by decide +kernel
theorem dX8_addClient_67 : decode cX8_addClient 67 = .ok (.ireturn, 1) := by decide +kernel
theorem dX8_clients_0 : decode cX8_clients 0 = .ok (.aload_n 0, 1) := by decide +kernel
theorem dX8_clients_1 : decode cX8_clients 1 = .ok (.getfield 40, 3) := by decide +kernel
theorem dX8_clients_4 : decode cX8_clients 4 = .ok (.invokevirtual 90, 3) := by decide +kernel
theorem dX8_clients_7 : decode cX8_clients 7 = .ok (.ireturn, 1) := by decide +kernel
theorem dX8_setRounding_0 : decode cX8_setRounding 0 = .ok (.aload_n 0, 1) := by decide +kernel
theorem dX8_setRounding_1 : decode cX8_setRounding 1 = .ok (.iload_n 1, 1) := by decide +kernel
theorem dX8_setRounding_2 : decode cX8_setRounding 2 = .ok (.invokevirtual 105, 3) := by decide +kernel
theorem dX8_setRounding_5 : decode cX8_setRounding 5 = .ok (.astore 5, 2) := by decide +kernel
theorem dX8_setRounding_7 : decode cX8_setRounding 7 = .ok (.aload_n 0, 1) := by decide +kernel
theorem dX8_setRounding_8 : decode cX8_setRounding 8 = .ok (.iload_n 2, 1) := by decide +kernel
theorem dX8_setRounding_9 : decode cX8_setRounding 9 = .ok (.iload_n 3, 1) := by decide +kernel
theorem dX8_setRounding_10 : decode cX8_setRounding 10 = .ok (.iload 4, 2) := by decide +kernel
theorem dX8_setRounding_12 : decode cX8_setRounding 12 = .ok (.invokevirtual 83, 3) := by decide +kernel
theorem dX8_setRounding_15 : decode cX8_setRounding 15 = .ok (.aload 5, 2) := by decide +kernel
theorem dX8_setRounding_17 : decode cX8_setRounding 17 = .ok (.getfield 109, 3) := by decide +kernel
theorem dX8_setRounding_20 : decode cX8_setRounding 20 = .ok (.istore 6, 2) := by decide +kernel
theorem dX8_setRounding_22 : decode cX8_setRounding 22 = .ok (.aload 5, 2) := by decide +kernel
theorem dX8_setRounding_24 : decode cX8_setRounding 24 = .ok (.iload_n 2, 1) := by decide +kernel
theorem dX8_setRounding_25 : decode cX8_setRounding 25 = .ok (.putfield 109, 3) := by decide +kernel
theorem dX8_setRounding_28 : decode cX8_setRounding 28 = .ok (.aload 5, 2) := by decide +kernel
theorem dX8_setRounding_30 : decode cX8_setRounding 30 = .ok (.iload_n 3, 1) := by decide +kernel
theorem dX8_setRounding_31 : decode cX8_setRounding 31 = .ok (.putfield 112, 3) := by decide +kernel
theorem dX8_setRounding_34 : decode cX8_setRounding 34 = .ok (.aload 5, 2) := by decide +kernel
theorem dX8_setRounding_36 : decode cX8_setRounding 36 = .ok (.iload 4, 2) := by decide +kernel
theorem dX8_setRounding_38 : decode cX8_setRounding 38 = .ok (.putfield 115, 3) := by decide +kernel
theorem dX8_setRounding_41 : decode cX8_setRounding 41 = .ok (.iload 6, 2) := by decide +kernel
theorem dX8_setRounding_43 : decode cX8_setRounding 43 = .ok (.ireturn, 1) := by decide +kernel
theorem dX8_setRate_0 : decode cX8_setRate 0 = .ok (.aload_n 0, 1) := by decide +kernel
theorem dX8_setRate_1 : decode cX8_setRate 1 = .ok (.iload_n 1, 1) := by decide +kernel
theorem dX8_setRate_2 : decode cX8_setRate 2 = .ok (.invokevirtual 105, 3) := by decide +kernel
theorem dX8_setRate_5 : decode cX8_setRate 5 = .ok (.astore_n 3, 1) := by decide +kernel
theorem dX8_setRate_6 : decode cX8_setRate 6 = .ok (.aload_n 0, 1) := by decide +kernel
theorem dX8_setRate_7 : decode cX8_setRate 7 = .ok (.iload_n 2, 1) := by decide +kernel
theorem dX8_setRate_8 : decode cX8_setRate 8 = .ok (.invokevirtual 87, 3) := by decide +kernel
theorem dX8_setRate_11 : decode cX8_setRate 11 = .ok (.aload_n 3, 1) := by decide +kernel
theorem dX8_setRate_12 : decode cX8_setRate 12 = .ok (.getfield 118, 3) := by decide +kernel
theorem dX8_setRate_15 : decode cX8_setRate 15 = .ok (.istore 4, 2) := by decide +kernel
theorem dX8_setRate_17 : decode cX8_setRate 17 = .ok (.aload_n 3, 1) := by decide +kernel
theorem dX8_setRate_18 : decode cX8_setRate 18 = .ok (.iload_n 2, 1) := by decide +kernel
theorem dX8_setRate_19 : decode cX8_setRate 19 = .ok (.putfield 118, 3) := by decide +kernel
theorem dX8_setRate_22 : decode cX8_setRate 22 = .ok (.iload 4, 2) := by decide +kernel
theorem dX8_setRate_24 : decode cX8_setRate 24 = .ok (.ireturn, 1) := by decide +kernel
theorem dX8_setBudget_0 : decode cX8_setBudget 0 = .ok (.aload_n 0, 1) := by decide +kernel
theorem dX8_setBudget_1 : decode cX8_setBudget 1 = .ok (.iload_n 1, 1) := by decide +kernel
theorem dX8_setBudget_2 : decode cX8_setBudget 2 = .ok (.invokevirtual 105, 3) := by decide +kernel
theorem dX8_setBudget_5 : decode cX8_setBudget 5 = .ok (.astore_n 3, 1) := by decide +kernel
theorem dX8_setBudget_6 : decode cX8_setBudget 6 = .ok (.iload_n 2, 1) := by decide +kernel
theorem dX8_setBudget_7 : decode cX8_setBudget 7 = .ok (.ifCond .lt 10, 3) := by decide +kernel
theorem dX8_setBudget_10 : decode cX8_setBudget 10 = .ok (.iload_n 2, 1) := by decide +kernel
theorem dX8_setBudget_11 : decode cX8_setBudget 11 = .ok (.sipush 9999, 3) := by decide +kernel
theorem dX8_setBudget_14 : decode cX8_setBudget 14 = .ok (.if_icmp .le 13, 3) := by decide +kernel
theorem dX8_setBudget_17 : decode cX8_setBudget 17 = .ok (.new 61, 3) := by decide +kernel
theorem dX8_setBudget_20 : decode cX8_setBudget 20 = .ok (.dup, 1) := by decide +kernel
theorem dX8_setBudget_21 : decode cX8_setBudget 21 = .ok (.ldc 121, 2) := by decide +kernel
theorem dX8_setBudget_23 : decode cX8_setBudget 23 = .ok (.invokespecial 65, 3) := by decide +kernel
theorem dX8_setBudget_26 : decode cX8_setBudget 26 = .ok (.athrow, 1) := by decide +kernel
theorem dX8_setBudget_27 : decode cX8_setBudget 27 = .ok (.aload_n 3, 1) := by decide +kernel
theorem dX8_setBudget_28 : decode cX8_setBudget 28 = .ok (.getfield 123, 3) := by decide +kernel
theorem dX8_setBudget_31 : decode cX8_setBudget 31 = .ok (.istore 4, 2) := by decide +kernel
theorem dX8_setBudget_33 : decode cX8_setBudget 33 = .ok (.aload_n 3, 1) := by decide +kernel
theorem dX8_setBudget_34 : decode cX8_setBudget 34 = .ok (.iload_n 2, 1) := by decide +kernel
theorem dX8_setBudget_35 : decode cX8_setBudget 35 = .ok (.putfield 123, 3) := by decide +kernel
theorem dX8_setBudget_38 : decode cX8_setBudget 38 = .ok (.iload 4, 2) := by decide +kernel
theorem dX8_setBudget_40 : decode cX8_setBudget 40 = .ok (.ireturn, 1) := by decide +kernel
theorem dX8_start_0 : decode cX8_start 0 = .ok (.aload_n 0, 1) := by decide +kernel
theorem dX8_start_1 : decode cX8_start 1 = .ok (.iload_n 1, 1) := by decide +kernel
theorem dX8_start_2 : decode cX8_start 2 = .ok (.invokevirtual 105, 3) := by decide +kernel
theorem dX8_start_5 : decode cX8_start 5 = .ok (.astore_n 2, 1) := by decide +kernel
theorem dX8_start_6 : decode cX8_start 6 = .ok (.aload_n 0, 1) := by decide +kernel
theorem dX8_start_7 : decode cX8_start 7 = .ok (.invokevirtual 126, 3) := by decide +kernel
theorem dX8_start_10 : decode cX8_start 10 = .ok (.aload_n 0, 1) := by decide +kernel
theorem dX8_start_11 : decode cX8_start 11 = .ok (.getfield 10, 3) := by decide +kernel
theorem dX8_start_14 : decode cX8_start 14 = .ok (.invokevirtual 129, 3) := by decide +kernel
theorem dX8_start_17 : decode cX8_start 17 = .ok (.iconst 4, 1) := by decide +kernel
theorem dX8_start_18 : decode cX8_start 18 = .ok (.if_icmp .lt 13, 3) := by decide +kernel
theorem dX8_start_21 : decode cX8_start 21 = .ok (.new 68, 3) := by decide +kernel
theorem dX8_start_24 : decode cX8_start 24 = .ok (.dup, 1) := by decide +kernel
theorem dX8_start_25 : decode cX8_start 25 = .ok (.ldc 132, 2) := by decide +kernel
theorem dX8_start_27 : decode cX8_start 27 = .ok (.invokespecial 72, 3) := by decide +kernel
theorem dX8_start_30 : decode cX8_start 30 = .ok (.athrow, 1) := by decide +kernel
theorem dX8_start_31 : decode cX8_start 31 = .ok (.aload_n 0, 1) := by decide +kernel
theorem dX8_start_32 : decode cX8_start 32 = .ok (.getfield 10, 3) := by decide +kernel
theorem dX8_start_35 : decode cX8_start 35 = .ok (.aload_n 2, 1) := by decide +kernel
theorem dX8_start_36 : decode cX8_start 36 = .ok (.aload_n 0, 1) := by decide +kernel
theorem dX8_start_37 : decode cX8_start 37 = .ok (.getfield 10, 3) := by decide +kernel
theorem dX8_start_40 : decode cX8_start 40 = .ok (.getfield 57, 3) := by decide +kernel
theorem dX8_start_43 : decode cX8_start 43 = .ok (.aload_n 0, 1) := by decide +kernel
theorem dX8_start_44 : decode cX8_start 44 = .ok (.getfield 10, 3) := by decide +kernel
theorem dX8_start_47 : decode cX8_start 47 = .ok (.getfield 57, 3) := by decide +kernel
theorem dX8_start_50 : decode cX8_start 50 = .ok (.bipush 114, 2) := by decide +kernel
theorem dX8_start_52 : decode cX8_start 52 = .ok (.invokevirtual 134, 3) := by decide +kernel
theorem dX8_start_55 : decode cX8_start 55 = .ok (.ireturn, 1) := by decide +kernel
theorem dX8_stop_0 : decode cX8_stop 0 = .ok (.aload_n 0, 1) := by decide +kernel
theorem dX8_stop_1 : decode cX8_stop 1 = .ok (.iload_n 1, 1) := by decide +kernel
theorem dX8_stop_2 : decode cX8_stop 2 = .ok (.invokevirtual 138, 3) := by decide +kernel
theorem dX8_stop_5 : decode cX8_stop 5 = .ok (.astore_n 2, 1) := by decide +kernel
theorem dX8_stop_6 : decode cX8_stop 6 = .ok (.aload_n 2, 1) := by decide +kernel
theorem dX8_stop_7 : decode cX8_stop 7 = .ok (.getfield 142, 3) := by decide +kernel
theorem dX8_stop_10 : decode cX8_stop 10 = .ok (.bipush 114, 2) := by decide +kernel
theorem dX8_stop_12 : decode cX8_stop 12 = .ok (.if_icmp .eq 13, 3) := by decide +kernel
theorem dX8_stop_15 : decode cX8_stop 15 = .ok (.new 68, 3) := by decide +kernel
theorem dX8_stop_18 : decode cX8_stop 18 = .ok (.dup, 1) := by decide +kernel
theorem dX8_stop_19 : decode cX8_stop 19 = .ok (.ldc 147, 2) := by decide +kernel
theorem dX8_stop_21 : decode cX8_stop 21 = .ok (.invokespecial 72, 3) := by decide +kernel
theorem dX8_stop_24 : decode cX8_stop 24 = .ok (.athrow, 1) := by decide +kernel
theorem dX8_stop_25 : decode cX8_stop 25 = .ok (.aload_n 2, 1) := by decide +kernel
theorem dX8_stop_26 : decode cX8_stop 26 = .ok (.bipush 101, 2) := by decide +kernel
theorem dX8_stop_28 : decode cX8_stop 28 = .ok (.putfield 142, 3) := by decide +kernel
theorem dX8_stop_31 : decode cX8_stop 31 = .ok (.aload_n 2, 1) := by decide +kernel
theorem dX8_stop_32 : decode cX8_stop 32 = .ok (.getfield 149, 3) := by decide +kernel
theorem dX8_stop_35 : decode cX8_stop 35 = .ok (.aload_n 2, 1) := by decide +kernel
theorem dX8_stop_36 : decode cX8_stop 36 = .ok (.getfield 152, 3) := by decide +kernel
theorem dX8_stop_39 : decode cX8_stop 39 = .ok (.isub, 1) := by decide +kernel
theorem dX8_stop_40 : decode cX8_stop 40 = .ok (.ireturn, 1) := by decide +kernel
theorem dX8_addEntry_0 : decode cX8_addEntry 0 = .ok (.aload_n 0, 1) := by decide +kernel
theorem dX8_addEntry_1 : decode cX8_addEntry 1 = .ok (.iload_n 1, 1) := by decide +kernel
theorem dX8_addEntry_2 : decode cX8_addEntry 2 = .ok (.invokevirtual 105, 3) := by decide +kernel
theorem dX8_addEntry_5 : decode cX8_addEntry 5 = .ok (.astore 4, 2) := by decide +kernel
theorem dX8_addEntry_7 : decode cX8_addEntry 7 = .ok (.iload_n 2, 1) := by decide +kernel
theorem dX8_addEntry_8 : decode cX8_addEntry 8 = .ok (.ifCond .lt 19, 3) := by decide +kernel
theorem dX8_addEntry_11 : decode cX8_addEntry 11 = .ok (.iload_n 3, 1) := by decide +kernel
theorem dX8_addEntry_12 : decode cX8_addEntry 12 = .ok (.iload_n 2, 1) := by decide +kernel
theorem dX8_addEntry_13 : decode cX8_addEntry 13 = .ok (.if_icmp .lt 14, 3) := by decide +kernel
theorem dX8_addEntry_16 : decode cX8_addEntry 16 = .ok (.iload_n 3, 1) := by decide +kernel
theorem dX8_addEntry_17 : decode cX8_addEntry 17 = .ok (.aload_n 0, 1) := by decide +kernel
theorem dX8_addEntry_18 : decode cX8_addEntry 18 = .ok (.getfield 10, 3) := by decide +kernel
theorem dX8_addEntry_21 : decode cX8_addEntry 21 = .ok (.getfield 57, 3) := by decide +kernel
theorem dX8_addEntry_24 : decode cX8_addEntry 24 = .ok (.if_icmp .le 13, 3) := by decide +kernel
theorem dX8_addEntry_27 : decode cX8_addEntry 27 = .ok (.new 61, 3) := by decide +kernel
theorem dX8_addEntry_30 : decode cX8_addEntry 30 = .ok (.dup, 1) := by decide +kernel
theorem dX8_addEntry_31 : decode cX8_addEntry 31 = .ok (.ldc 155, 2) := by decide +kernel
theorem dX8_addEntry_33 : decode cX8_addEntry 33 = .ok (.invokespecial 65, 3) := by decide +kernel
theorem dX8_addEntry_36 : decode cX8_addEntry 36 = .ok (.athrow, 1) := by decide +kernel
theorem dX8_addEntry_37 : decode cX8_addEntry 37 = .ok (.aload_n 0, 1) := by decide +kernel
theorem dX8_addEntry_38 : decode cX8_addEntry 38 = .ok (.invokevirtual 126, 3) := by decide +kernel
theorem dX8_addEntry_41 : decode cX8_addEntry 41 = .ok (.aload_n 0, 1) := by decide +kernel
theorem dX8_addEntry_42 : decode cX8_addEntry 42 = .ok (.getfield 10, 3) := by decide +kernel
theorem dX8_addEntry_45 : decode cX8_addEntry 45 = .ok (.aload 4, 2) := by decide +kernel
theorem dX8_addEntry_47 : decode cX8_addEntry 47 = .ok (.iload_n 2, 1) := by decide +kernel
theorem dX8_addEntry_48 : decode cX8_addEntry 48 = .ok (.iload_n 3, 1) := by decide +kernel
theorem dX8_addEntry_49 : decode cX8_addEntry 49 = .ok (.bipush 101, 2) := by decide +kernel
theorem dX8_addEntry_51 : decode cX8_addEntry 51 = .ok (.invokevirtual 134, 3) := by decide +kernel
theorem dX8_addEntry_54 : decode cX8_addEntry 54 = .ok (.ireturn, 1) := by decide +kernel
theorem dX8_setStart_0 : decode cX8_setStart 0 = .ok (.aload_n 0, 1) := by decide +kernel
theorem dX8_setStart_1 : decode cX8_setStart 1 = .ok (.iload_n 1, 1) := by decide +kernel
theorem dX8_setStart_2 : decode cX8_setStart 2 = .ok (.invokevirtual 138, 3) := by decide +kernel
theorem dX8_setStart_5 : decode cX8_setStart 5 = .ok (.astore_n 3, 1) := by decide +kernel
theorem dX8_setStart_6 : decode cX8_setStart 6 = .ok (.aload_n 0, 1) := by decide +kernel
theorem dX8_setStart_7 : decode cX8_setStart 7 = .ok (.aload_n 3, 1) := by decide +kernel
theorem dX8_setStart_8 : decode cX8_setStart 8 = .ok (.invokevirtual 157, 3) := by decide +kernel
theorem dX8_setStart_11 : decode cX8_setStart 11 = .ok (.iload_n 2, 1) := by decide +kernel
theorem dX8_setStart_12 : decode cX8_setStart 12 = .ok (.ifCond .lt 11, 3) := by decide +kernel
theorem dX8_setStart_15 : decode cX8_setStart 15 = .ok (.iload_n 2, 1) := by decide +kernel
theorem dX8_setStart_16 : decode cX8_setStart 16 = .ok (.aload_n 3, 1) := by decide +kernel
theorem dX8_setStart_17 : decode cX8_setStart 17 = .ok (.getfield 149, 3) := by decide +kernel
theorem dX8_setStart_20 : decode cX8_setStart 20 = .ok (.if_icmp .le 13, 3) := by decide +kernel
theorem dX8_setStart_23 : decode cX8_setStart 23 = .ok (.new 61, 3) := by decide +kernel
theorem dX8_setStart_26 : decode cX8_setStart 26 = .ok (.dup, 1) := by decide +kernel
theorem dX8_setStart_27 : decode cX8_setStart 27 = .ok (.ldc 161, 2) := by decide +kernel
theorem dX8_setStart_29 : decode cX8_setStart 29 = .ok (.invokespecial 65, 3) := by decide +kernel
theorem dX8_setStart_32 : decode cX8_setStart 32 = .ok (.athrow, 1) := by decide +kernel
theorem dX8_setStart_33 : decode cX8_setStart 33 = .ok (.aload_n 3, 1) := by decide +kernel
theorem dX8_setStart_34 : decode cX8_setStart 34 = .ok (.getfield 152, 3) := by decide +kernel
theorem dX8_setStart_37 : decode cX8_setStart 37 = .ok (.istore 4, 2) := by decide +kernel
theorem dX8_setStart_39 : decode cX8_setStart 39 = .ok (.aload_n 3, 1) := by decide +kernel
theorem dX8_setStart_40 : decode cX8_setStart 40 = .ok (.iload_n 2, 1) := by decide +kernel
theorem dX8_setStart_41 : decode cX8_setStart 41 = .ok (.putfield 152, 3) := by decide +kernel
theorem dX8_setStart_44 : decode cX8_setStart 44 = .ok (.iload 4, 2) := by decide +kernel
theorem dX8_setStart_46 : decode cX8_setStart 46 = .ok (.ireturn, 1) := by decide +kernel
theorem dX8_setEnd_0 : decode cX8_setEnd 0 = .ok (.aload_n 0, 1) := by decide +kernel
theorem dX8_setEnd_1 : decode cX8_setEnd 1 = .ok (.iload_n 1, 1) := by decide +kernel
theorem dX8_setEnd_2 : decode cX8_setEnd 2 = .ok (.invokevirtual 138, 3) := by decide +kernel
theorem dX8_setEnd_5 : decode cX8_setEnd 5 = .ok (.astore_n 3, 1) := by decide +kernel
theorem dX8_setEnd_6 : decode cX8_setEnd 6 = .ok (.aload_n 3, 1) := by decide +kernel
theorem dX8_setEnd_7 : decode cX8_setEnd 7 = .ok (.getfield 142, 3) := by decide +kernel
theorem dX8_setEnd_10 : decode cX8_setEnd 10 = .ok (.bipush 101, 2) := by decide +kernel
theorem dX8_setEnd_12 : decode cX8_setEnd 12 = .ok (.if_icmp .eq 13, 3) := by decide +kernel
theorem dX8_setEnd_15 : decode cX8_setEnd 15 = .ok (.new 68, 3) := by decide +kernel
theorem dX8_setEnd_18 : decode cX8_setEnd 18 = .ok (.dup, 1) := by decide +kernel
theorem dX8_setEnd_19 : decode cX8_setEnd 19 = .ok (.ldc 163, 2) := by decide +kernel
theorem dX8_setEnd_21 : decode cX8_setEnd 21 = .ok (.invokespecial 72, 3) := by decide +kernel
theorem dX8_setEnd_24 : decode cX8_setEnd 24 = .ok (.athrow, 1) := by decide +kernel
theorem dX8_setEnd_25 : decode cX8_setEnd 25 = .ok (.iload_n 2, 1) := by decide +kernel
theorem dX8_setEnd_26 : decode cX8_setEnd 26 = .ok (.aload_n 3, 1) := by decide +kernel
theorem dX8_setEnd_27 : decode cX8_setEnd 27 = .ok (.getfield 152, 3) := by decide +kernel
theorem dX8_setEnd_30 : decode cX8_setEnd 30 = .ok (.if_icmp .lt 14, 3) := by decide +kernel
theorem dX8_setEnd_33 : decode cX8_setEnd 33 = .ok (.iload_n 2, 1) := by decide +kernel
theorem dX8_setEnd_34 : decode cX8_setEnd 34 = .ok (.aload_n 0, 1) := by decide +kernel
theorem dX8_setEnd_35 : decode cX8_setEnd 35 = .ok (.getfield 10, 3) := by decide +kernel
theorem dX8_setEnd_38 : decode cX8_setEnd 38 = .ok (.getfield 57, 3) := by decide +kernel
theorem dX8_setEnd_41 : decode cX8_setEnd 41 = .ok (.if_icmp .le 13, 3) := by decide +kernel
theorem dX8_setEnd_44 : decode cX8_setEnd 44 = .ok (.new 61, 3) := by decide +kernel
theorem dX8_setEnd_47 : decode cX8_setEnd 47 = .ok (.dup, 1) := by decide +kernel
theorem dX8_setEnd_48 : decode cX8_setEnd 48 = .ok (.ldc 165, 2) := by decide +kernel
theorem dX8_setEnd_50 : decode cX8_setEnd 50 = .ok (.invokespecial 65, 3) := by decide +kernel
theorem dX8_setEnd_53 : decode cX8_setEnd 53 = .ok (.athrow, 1) := by decide +kernel
theorem dX8_setEnd_54 : decode cX8_setEnd 54 = .ok (.aload_n 3, 1) := by decide +kernel
theorem dX8_setEnd_55 : decode cX8_setEnd 55 = .ok (.getfield 149, 3) := by decide +kernel
theorem dX8_setEnd_58 : decode cX8_setEnd 58 = .ok (.istore 4, 2) := by decide +kernel
theorem dX8_setEnd_60 : decode cX8_setEnd 60 = .ok (.aload_n 3, 1) := by decide +kernel
theorem dX8_setEnd_61 : decode cX8_setEnd 61 = .ok (.iload_n 2, 1) := by decide +kernel
theorem dX8_setEnd_62 : decode cX8_setEnd 62 = .ok (.putfield 149, 3) := by decide +kernel
theorem dX8_setEnd_65 : decode cX8_setEnd 65 = .ok (.iload 4, 2) := by decide +kernel
theorem dX8_setEnd_67 : decode cX8_setEnd 67 = .ok (.ireturn, 1) := by decide +kernel
theorem dX8_remove_0 : decode cX8_remove 0 = .ok (.aload_n 0, 1) := by decide +kernel
theorem dX8_remove_1 : decode cX8_remove 1 = .ok (.iload_n 1, 1) := by decide +kernel
theorem dX8_remove_2 : decode cX8_remove 2 = .ok (.invokevirtual 138, 3) := by decide +kernel
theorem dX8_remove_5 : decode cX8_remove 5 = .ok (.astore_n 2, 1) := by decide +kernel
theorem dX8_remove_6 : decode cX8_remove 6 = .ok (.aload_n 0, 1) := by decide +kernel
theorem dX8_remove_7 : decode cX8_remove 7 = .ok (.aload_n 2, 1) := by decide +kernel
theorem dX8_remove_8 : decode cX8_remove 8 = .ok (.invokevirtual 157, 3) := by decide +kernel
theorem dX8_remove_11 : decode cX8_remove 11 = .ok (.aload_n 2, 1) := by decide +kernel
theorem dX8_remove_12 : decode cX8_remove 12 = .ok (.bipush 120, 2) := by decide +kernel
theorem dX8_remove_14 : decode cX8_remove 14 = .ok (.putfield 142, 3) := by decide +kernel
theorem dX8_remove_17 : decode cX8_remove 17 = .ok (.aload_n 0, 1) := by decide +kernel
theorem dX8_remove_18 : decode cX8_remove 18 = .ok (.getfield 10, 3) := by decide +kernel
theorem dX8_remove_21 : decode cX8_remove 21 = .ok (.invokevirtual 167, 3) := by decide +kernel
theorem dX8_remove_24 : decode cX8_remove 24 = .ok (.ireturn, 1) := by decide +kernel
theorem dX8_entries_0 : decode cX8_entries 0 = .ok (.aload_n 0, 1) := by decide +kernel
theorem dX8_entries_1 : decode cX8_entries 1 = .ok (.getfield 10, 3) := by decide +kernel
theorem dX8_entries_4 : decode cX8_entries 4 = .ok (.getfield 170, 3) := by decide +kernel
theorem dX8_entries_7 : decode cX8_entries 7 = .ok (.invokevirtual 90, 3) := by decide +kernel
theorem dX8_entries_10 : decode cX8_entries 10 = .ok (.ireturn, 1) := by decide +kernel
theorem dX8_state_0 : decode cX8_state 0 = .ok (.aload_n 0, 1) := by decide +kernel
theorem dX8_state_1 : decode cX8_state 1 = .ok (.iload_n 1, 1) := by decide +kernel
theorem dX8_state_2 : decode cX8_state 2 = .ok (.invokevirtual 138, 3) := by decide +kernel
theorem dX8_state_5 : decode cX8_state 5 = .ok (.getfield 142, 3) := by decide +kernel
theorem dX8_state_8 : decode cX8_state 8 = .ok (.ireturn, 1) := by decide +kernel
theorem dX8_startOf_0 : decode cX8_startOf 0 = .ok (.aload_n 0, 1) := by decide +kernel
theorem dX8_startOf_1 : decode cX8_startOf 1 = .ok (.iload_n 1, 1) := by decide +kernel
theorem dX8_startOf_2 : decode cX8_startOf 2 = .ok (.invokevirtual 138, 3) := by decide +kernel
theorem dX8_startOf_5 : decode cX8_startOf 5 = .ok (.getfield 152, 3) := by decide +kernel
theorem dX8_startOf_8 : decode cX8_startOf 8 = .ok (.ireturn, 1) := by decide +kernel
theorem dX8_endOf_0 : decode cX8_endOf 0 = .ok (.aload_n 0, 1) := by decide +kernel
theorem dX8_endOf_1 : decode cX8_endOf 1 = .ok (.iload_n 1, 1) := by decide +kernel
theorem dX8_endOf_2 : decode cX8_endOf 2 = .ok (.invokevirtual 138, 3) := by decide +kernel
theorem dX8_endOf_5 : decode cX8_endOf 5 = .ok (.getfield 149, 3) := by decide +kernel
theorem dX8_endOf_8 : decode cX8_endOf 8 = .ok (.ireturn, 1) := by decide +kernel
theorem dX8_counted_0 : decode cX8_counted 0 = .ok (.aload_n 0, 1) := by decide +kernel
theorem dX8_counted_1 : decode cX8_counted 1 = .ok (.iload_n 1, 1) := by decide +kernel
theorem dX8_counted_2 : decode cX8_counted 2 = .ok (.invokevirtual 138, 3) := by decide +kernel
theorem dX8_counted_5 : decode cX8_counted 5 = .ok (.astore_n 2, 1) := by decide +kernel
theorem dX8_counted_6 : decode cX8_counted 6 = .ok (.aload_n 0, 1) := by decide +kernel
theorem dX8_counted_7 : decode cX8_counted 7 = .ok (.getfield 21, 3) := by decide +kernel
theorem dX8_counted_10 : decode cX8_counted 10 = .ok (.aload_n 2, 1) := by decide +kernel
theorem dX8_counted_11 : decode cX8_counted 11 = .ok (.getfield 152, 3) := by decide +kernel
theorem dX8_counted_14 : decode cX8_counted 14 = .ok (.aload_n 2, 1) := by decide +kernel
theorem dX8_counted_15 : decode cX8_counted 15 = .ok (.getfield 149, 3) := by decide +kernel
theorem dX8_counted_18 : decode cX8_counted 18 = .ok (.invokevirtual 173, 3) := by decide +kernel
theorem dX8_counted_21 : decode cX8_counted 21 = .ok (.aload_n 0, 1) := by decide +kernel
theorem dX8_counted_22 : decode cX8_counted 22 = .ok (.getfield 21, 3) := by decide +kernel
theorem dX8_counted_25 : decode cX8_counted 25 = .ok (.aload_n 2, 1) := by decide +kernel
theorem dX8_counted_26 : decode cX8_counted 26 = .ok (.invokevirtual 177, 3) := by decide +kernel
theorem dX8_counted_29 : decode cX8_counted 29 = .ok (.ireturn, 1) := by decide +kernel
theorem dX8_countedByMinutes_0 : decode cX8_countedByMinutes 0 = .ok (.aload_n 0, 1) := by decide +kernel
theorem dX8_countedByMinutes_1 : decode cX8_countedByMinutes 1 = .ok (.iload_n 1, 1) := by decide +kernel
theorem dX8_countedByMinutes_2 : decode cX8_countedByMinutes 2 = .ok (.invokevirtual 138, 3) := by decide +kernel
theorem dX8_countedByMinutes_5 : decode cX8_countedByMinutes 5 = .ok (.astore_n 2, 1) := by decide +kernel
theorem dX8_countedByMinutes_6 : decode cX8_countedByMinutes 6 = .ok (.aload_n 0, 1) := by decide +kernel
theorem dX8_countedByMinutes_7 : decode cX8_countedByMinutes 7 = .ok (.getfield 25, 3) := by decide +kernel
theorem dX8_countedByMinutes_10 : decode cX8_countedByMinutes 10 = .ok (.aload_n 2, 1) := by decide +kernel
theorem dX8_countedByMinutes_11 : decode cX8_countedByMinutes 11 = .ok (.getfield 152, 3) := by decide +kernel
theorem dX8_countedByMinutes_14 : decode cX8_countedByMinutes 14 = .ok (.aload_n 2, 1) := by decide +kernel
theorem dX8_countedByMinutes_15 : decode cX8_countedByMinutes 15 = .ok (.getfield 149, 3) := by decide +kernel
theorem dX8_countedByMinutes_18 : decode cX8_countedByMinutes 18 = .ok (.invokevirtual 181, 3) := by decide +kernel
theorem dX8_countedByMinutes_21 : decode cX8_countedByMinutes 21 = .ok (.aload_n 0, 1) := by decide +kernel
theorem dX8_countedByMinutes_22 : decode cX8_countedByMinutes 22 = .ok (.getfield 25, 3) := by decide +kernel
theorem dX8_countedByMinutes_25 : decode cX8_countedByMinutes 25 = .ok (.aload_n 2, 1) := by decide +kernel
theorem dX8_countedByMinutes_26 : decode cX8_countedByMinutes 26 = .ok (.invokevirtual 177, 3) := by decide +kernel
theorem dX8_countedByMinutes_29 : decode cX8_countedByMinutes 29 = .ok (.ireturn, 1) := by decide +kernel
theorem dX8_writeEntry_0 : decode cX8_writeEntry 0 = .ok (.aload_n 0, 1) := by decide +kernel
theorem dX8_writeEntry_1 : decode cX8_writeEntry 1 = .ok (.iload_n 1, 1) := by decide +kernel
theorem dX8_writeEntry_2 : decode cX8_writeEntry 2 = .ok (.invokevirtual 138, 3) := by decide +kernel
theorem dX8_writeEntry_5 : decode cX8_writeEntry 5 = .ok (.astore_n 2, 1) := by decide +kernel
theorem dX8_writeEntry_6 : decode cX8_writeEntry 6 = .ok (.aload_n 0, 1) := by decide +kernel
theorem dX8_writeEntry_7 : decode cX8_writeEntry 7 = .ok (.getfield 21, 3) := by decide +kernel
theorem dX8_writeEntry_10 : decode cX8_writeEntry 10 = .ok (.aload_n 2, 1) := by decide +kernel
theorem dX8_writeEntry_11 : decode cX8_writeEntry 11 = .ok (.getfield 152, 3) := by decide +kernel
theorem dX8_writeEntry_14 : decode cX8_writeEntry 14 = .ok (.aload_n 2, 1) := by decide +kernel
theorem dX8_writeEntry_15 : decode cX8_writeEntry 15 = .ok (.getfield 149, 3) := by decide +kernel
theorem dX8_writeEntry_18 : decode cX8_writeEntry 18 = .ok (.invokevirtual 173, 3) := by decide +kernel
theorem dX8_writeEntry_21 : decode cX8_writeEntry 21 = .ok (.aload_n 0, 1) := by decide +kernel
theorem dX8_writeEntry_22 : decode cX8_writeEntry 22 = .ok (.getfield 53, 3) := by decide +kernel
theorem dX8_writeEntry_25 : decode cX8_writeEntry 25 = .ok (.iconst 0, 1) := by decide +kernel
theorem dX8_writeEntry_26 : decode cX8_writeEntry 26 = .ok (.invokevirtual 184, 3) := by decide +kernel
theorem dX8_writeEntry_29 : decode cX8_writeEntry 29 = .ok (.aload_n 0, 1) := by decide +kernel
theorem dX8_writeEntry_30 : decode cX8_writeEntry 30 = .ok (.getfield 53, 3) := by decide +kernel
theorem dX8_writeEntry_33 : decode cX8_writeEntry 33 = .ok (.aload_n 2, 1) := by decide +kernel
theorem dX8_writeEntry_34 : decode cX8_writeEntry 34 = .ok (.getfield 187, 3) := by decide +kernel
theorem dX8_writeEntry_37 : decode cX8_writeEntry 37 = .ok (.invokevirtual 190, 3) := by decide +kernel
theorem dX8_writeEntry_40 : decode cX8_writeEntry 40 = .ok (.aload_n 2, 1) := by decide +kernel
theorem dX8_writeEntry_41 : decode cX8_writeEntry 41 = .ok (.getfield 142, 3) := by decide +kernel
theorem dX8_writeEntry_44 : decode cX8_writeEntry 44 = .ok (.invokevirtual 193, 3) := by decide +kernel
theorem dX8_writeEntry_47 : decode cX8_writeEntry 47 = .ok (.aload_n 2, 1) := by decide +kernel
theorem dX8_writeEntry_48 : decode cX8_writeEntry 48 = .ok (.getfield 196, 3) := by decide +kernel
theorem dX8_writeEntry_51 : decode cX8_writeEntry 51 = .ok (.getfield 200, 3) := by decide +kernel
theorem dX8_writeEntry_54 : decode cX8_writeEntry 54 = .ok (.invokevirtual 190, 3) := by decide +kernel
theorem dX8_writeEntry_57 : decode cX8_writeEntry 57 = .ok (.pop, 1) := by decide +kernel
theorem dX8_writeEntry_58 : decode cX8_writeEntry 58 = .ok (.aload_n 0, 1) := by decide +kernel
theorem dX8_writeEntry_59 : decode cX8_writeEntry 59 = .ok (.getfield 53, 3) := by decide +kernel
theorem dX8_writeEntry_62 : decode cX8_writeEntry 62 = .ok (.bipush 58, 2) := by decide +kernel
theorem dX8_writeEntry_64 : decode cX8_writeEntry 64 = .ok (.invokevirtual 193, 3) := by decide +kernel
theorem dX8_writeEntry_67 : decode cX8_writeEntry 67 = .ok (.aload_n 2, 1) := by decide +kernel
theorem dX8_writeEntry_68 : decode cX8_writeEntry 68 = .ok (.getfield 152, 3) := by decide +kernel
theorem dX8_writeEntry_71 : decode cX8_writeEntry 71 = .ok (.invokevirtual 190, 3) := by decide +kernel
theorem dX8_writeEntry_74 : decode cX8_writeEntry 74 = .ok (.pop, 1) := by decide +kernel
theorem dX8_writeEntry_75 : decode cX8_writeEntry 75 = .ok (.aload_n 0, 1) := by decide +kernel
theorem dX8_writeEntry_76 : decode cX8_writeEntry 76 = .ok (.getfield 53, 3) := by decide +kernel
theorem dX8_writeEntry_79 : decode cX8_writeEntry 79 = .ok (.bipush 45, 2) := by decide +kernel
theorem dX8_writeEntry_81 : decode cX8_writeEntry 81 = .ok (.invokevirtual 193, 3) := by decide +kernel
theorem dX8_writeEntry_84 : decode cX8_writeEntry 84 = .ok (.aload_n 2, 1) := by decide +kernel
theorem dX8_writeEntry_85 : decode cX8_writeEntry 85 = .ok (.getfield 149, 3) := by decide +kernel
theorem dX8_writeEntry_88 : decode cX8_writeEntry 88 = .ok (.invokevirtual 190, 3) := by decide +kernel
theorem dX8_writeEntry_91 : decode cX8_writeEntry 91 = .ok (.pop, 1) := by decide +kernel
theorem dX8_writeEntry_92 : decode cX8_writeEntry 92 = .ok (.aload_n 0, 1) := by decide +kernel
theorem dX8_writeEntry_93 : decode cX8_writeEntry 93 = .ok (.getfield 53, 3) := by decide +kernel
theorem dX8_writeEntry_96 : decode cX8_writeEntry 96 = .ok (.bipush 61, 2) := by decide +kernel
theorem dX8_writeEntry_98 : decode cX8_writeEntry 98 = .ok (.invokevirtual 193, 3) := by decide +kernel
theorem dX8_writeEntry_101 : decode cX8_writeEntry 101 = .ok (.aload_n 0, 1) := by decide +kernel
theorem dX8_writeEntry_102 : decode cX8_writeEntry 102 = .ok (.getfield 21, 3) := by decide +kernel
theorem dX8_writeEntry_105 : decode cX8_writeEntry 105 = .ok (.aload_n 2, 1) := by decide +kernel
theorem dX8_writeEntry_106 : decode cX8_writeEntry 106 = .ok (.invokevirtual 177, 3) := by decide +kernel
theorem dX8_writeEntry_109 : decode cX8_writeEntry 109 = .ok (.invokevirtual 190, 3) := by decide +kernel
theorem dX8_writeEntry_112 : decode cX8_writeEntry 112 = .ok (.pop, 1) := by decide +kernel
theorem dX8_writeEntry_113 : decode cX8_writeEntry 113 = .ok (.aload_n 0, 1) := by decide +kernel
theorem dX8_writeEntry_114 : decode cX8_writeEntry 114 = .ok (.getfield 53, 3) := by decide +kernel
theorem dX8_writeEntry_117 : decode cX8_writeEntry 117 = .ok (.invokevirtual 201, 3) := by decide +kernel
theorem dX8_writeEntry_120 : decode cX8_writeEntry 120 = .ok (.ireturn, 1) := by decide +kernel
theorem dX8_charAt_0 : decode cX8_charAt 0 = .ok (.iload_n 1, 1) := by decide +kernel
theorem dX8_charAt_1 : decode cX8_charAt 1 = .ok (.ifCond .lt 14, 3) := by decide +kernel
theorem dX8_charAt_4 : decode cX8_charAt 4 = .ok (.iload_n 1, 1) := by decide +kernel
theorem dX8_charAt_5 : decode cX8_charAt 5 = .ok (.aload_n 0, 1) := by decide +kernel
theorem dX8_charAt_6 : decode cX8_charAt 6 = .ok (.getfield 53, 3) := by decide +kernel
theorem dX8_charAt_9 : decode cX8_charAt 9 = .ok (.invokevirtual 201, 3) := by decide +kernel
theorem dX8_charAt_12 : decode cX8_charAt 12 = .ok (.if_icmp .lt 13, 3) := by decide +kernel
theorem dX8_charAt_15 : decode cX8_charAt 15 = .ok (.new 204, 3) := by decide +kernel
theorem dX8_charAt_18 : decode cX8_charAt 18 = .ok (.dup, 1) := by decide +kernel
theorem dX8_charAt_19 : decode cX8_charAt 19 = .ok (.ldc 206, 2) := by decide +kernel
theorem dX8_charAt_21 : decode cX8_charAt 21 = .ok (.invokespecial 208, 3) := by decide +kernel
theorem dX8_charAt_24 : decode cX8_charAt 24 = .ok (.athrow, 1) := by decide +kernel
theorem dX8_charAt_25 : decode cX8_charAt 25 = .ok (.aload_n 0, 1) := by decide +kernel
theorem dX8_charAt_26 : decode cX8_charAt 26 = .ok (.getfield 53, 3) := by decide +kernel
theorem dX8_charAt_29 : decode cX8_charAt 29 = .ok (.iload_n 1, 1) := by decide +kernel
theorem dX8_charAt_30 : decode cX8_charAt 30 = .ok (.invokevirtual 209, 3) := by decide +kernel
theorem dX8_charAt_33 : decode cX8_charAt 33 = .ok (.ireturn, 1) := by decide +kernel
theorem dX8_rounded_0 : decode cX8_rounded 0 = .ok (.aload_n 0, 1) := by decide +kernel
theorem dX8_rounded_1 : decode cX8_rounded 1 = .ok (.iload_n 1, 1) := by decide +kernel
theorem dX8_rounded_2 : decode cX8_rounded 2 = .ok (.invokevirtual 138, 3) := by decide +kernel
theorem dX8_rounded_5 : decode cX8_rounded 5 = .ok (.astore_n 2, 1) := by decide +kernel
theorem dX8_rounded_6 : decode cX8_rounded 6 = .ok (.aload_n 0, 1) := by decide +kernel
theorem dX8_rounded_7 : decode cX8_rounded 7 = .ok (.aload_n 2, 1) := by decide +kernel
theorem dX8_rounded_8 : decode cX8_rounded 8 = .ok (.invokevirtual 157, 3) := by decide +kernel
theorem dX8_rounded_11 : decode cX8_rounded 11 = .ok (.aload_n 2, 1) := by decide +kernel
theorem dX8_rounded_12 : decode cX8_rounded 12 = .ok (.getfield 196, 3) := by decide +kernel
theorem dX8_rounded_15 : decode cX8_rounded 15 = .ok (.getfield 115, 3) := by decide +kernel
theorem dX8_rounded_18 : decode cX8_rounded 18 = .ok (.bipush 100, 2) := by decide +kernel
theorem dX8_rounded_20 : decode cX8_rounded 20 = .ok (.if_icmp .ne 13, 3) := by decide +kernel
theorem dX8_rounded_23 : decode cX8_rounded 23 = .ok (.new 213, 3) := by decide +kernel
theorem dX8_rounded_26 : decode cX8_rounded 26 = .ok (.dup, 1) := by decide +kernel
theorem dX8_rounded_27 : decode cX8_rounded 27 = .ok (.ldc 215, 2) := by decide +kernel
theorem dX8_rounded_29 : decode cX8_rounded 29 = .ok (.invokespecial 217, 3) := by decide +kernel
theorem dX8_rounded_32 : decode cX8_rounded 32 = .ok (.athrow, 1) := by decide +kernel
theorem dX8_rounded_33 : decode cX8_rounded 33 = .ok (.aload_n 0, 1) := by decide +kernel
theorem dX8_rounded_34 : decode cX8_rounded 34 = .ok (.getfield 33, 3) := by decide +kernel
theorem dX8_rounded_37 : decode cX8_rounded 37 = .ok (.aload_n 2, 1) := by decide +kernel
theorem dX8_rounded_38 : decode cX8_rounded 38 = .ok (.getfield 196, 3) := by decide +kernel
theorem dX8_rounded_41 : decode cX8_rounded 41 = .ok (.iconst 1, 1) := by decide +kernel
theorem dX8_rounded_42 : decode cX8_rounded 42 = .ok (.invokevirtual 218, 3) := by decide +kernel
theorem dX8_rounded_45 : decode cX8_rounded 45 = .ok (.aload_n 0, 1) := by decide +kernel
theorem dX8_rounded_46 : decode cX8_rounded 46 = .ok (.getfield 33, 3) := by decide +kernel
theorem dX8_rounded_49 : decode cX8_rounded 49 = .ok (.aload_n 0, 1) := by decide +kernel
theorem dX8_rounded_50 : decode cX8_rounded 50 = .ok (.getfield 33, 3) := by decide +kernel
theorem dX8_rounded_53 : decode cX8_rounded 53 = .ok (.aload_n 2, 1) := by decide +kernel
theorem dX8_rounded_54 : decode cX8_rounded 54 = .ok (.invokevirtual 222, 3) := by decide +kernel
theorem dX8_rounded_57 : decode cX8_rounded 57 = .ok (.invokevirtual 225, 3) := by decide +kernel
theorem dX8_rounded_60 : decode cX8_rounded 60 = .ok (.ireturn, 1) := by decide +kernel
theorem dX8_daySeconds_0 : decode cX8_daySeconds 0 = .ok (.aload_n 0, 1) := by decide +kernel
theorem dX8_daySeconds_1 : decode cX8_daySeconds 1 = .ok (.iload_n 1, 1) := by decide +kernel
theorem dX8_daySeconds_2 : decode cX8_daySeconds 2 = .ok (.invokevirtual 105, 3) := by decide +kernel
theorem dX8_daySeconds_5 : decode cX8_daySeconds 5 = .ok (.astore_n 3, 1) := by decide +kernel
theorem dX8_daySeconds_6 : decode cX8_daySeconds 6 = .ok (.aload_n 0, 1) := by decide +kernel
theorem dX8_daySeconds_7 : decode cX8_daySeconds 7 = .ok (.iload_n 2, 1) := by decide +kernel
theorem dX8_daySeconds_8 : decode cX8_daySeconds 8 = .ok (.invokevirtual 229, 3) := by decide +kernel
theorem dX8_daySeconds_11 : decode cX8_daySeconds 11 = .ok (.aload_n 0, 1) := by decide +kernel
theorem dX8_daySeconds_12 : decode cX8_daySeconds 12 = .ok (.getfield 21, 3) := by decide +kernel
theorem dX8_daySeconds_15 : decode cX8_daySeconds 15 = .ok (.aload_n 0, 1) := by decide +kernel
theorem dX8_daySeconds_16 : decode cX8_daySeconds 16 = .ok (.iload_n 2, 1) := by decide +kernel
theorem dX8_daySeconds_17 : decode cX8_daySeconds 17 = .ok (.invokevirtual 232, 3) := by decide +kernel
theorem dX8_daySeconds_20 : decode cX8_daySeconds 20 = .ok (.aload_n 0, 1) := by decide +kernel
theorem dX8_daySeconds_21 : decode cX8_daySeconds 21 = .ok (.iload_n 2, 1) := by decide +kernel
theorem dX8_daySeconds_22 : decode cX8_daySeconds 22 = .ok (.invokevirtual 235, 3) := by decide +kernel
theorem dX8_daySeconds_25 : decode cX8_daySeconds 25 = .ok (.invokevirtual 173, 3) := by decide +kernel
theorem dX8_daySeconds_28 : decode cX8_daySeconds 28 = .ok (.aload_n 0, 1) := by decide +kernel
theorem dX8_daySeconds_29 : decode cX8_daySeconds 29 = .ok (.getfield 21, 3) := by decide +kernel
theorem dX8_daySeconds_32 : decode cX8_daySeconds 32 = .ok (.aload_n 3, 1) := by decide +kernel
theorem dX8_daySeconds_33 : decode cX8_daySeconds 33 = .ok (.iload_n 2, 1) := by decide +kernel
theorem dX8_daySeconds_34 : decode cX8_daySeconds 34 = .ok (.invokevirtual 238, 3) := by decide +kernel
theorem dX8_daySeconds_37 : decode cX8_daySeconds 37 = .ok (.ireturn, 1) := by decide +kernel
theorem dX8_daySecondsByMinutes_0 : decode cX8_daySecondsByMinutes 0 = .ok (.aload_n 0, 1) := by decide +kernel
theorem dX8_daySecondsByMinutes_1 : decode cX8_daySecondsByMinutes 1 = .ok (.iload_n 1, 1) := by decide +kernel
theorem dX8_daySecondsByMinutes_2 : decode cX8_daySecondsByMinutes 2 = .ok (.invokevirtual 105, 3) := by decide +kernel
theorem dX8_daySecondsByMinutes_5 : decode cX8_daySecondsByMinutes 5 = .ok (.astore_n 3, 1) := by decide +kernel
theorem dX8_daySecondsByMinutes_6 : decode cX8_daySecondsByMinutes 6 = .ok (.aload_n 0, 1) := by decide +kernel
theorem dX8_daySecondsByMinutes_7 : decode cX8_daySecondsByMinutes 7 = .ok (.iload_n 2, 1) := by decide +kernel
theorem dX8_daySecondsByMinutes_8 : decode cX8_daySecondsByMinutes 8 = .ok (.invokevirtual 229, 3) := by decide +kernel
theorem dX8_daySecondsByMinutes_11 : decode cX8_daySecondsByMinutes 11 = .ok (.aload_n 0, 1) := by decide +kernel
theorem dX8_daySecondsByMinutes_12 : decode cX8_daySecondsByMinutes 12 = .ok (.getfield 25, 3) := by decide +kernel
theorem dX8_daySecondsByMinutes_15 : decode cX8_daySecondsByMinutes 15 = .ok (.aload_n 0, 1) := by decide +kernel
theorem dX8_daySecondsByMinutes_16 : decode cX8_daySecondsByMinutes 16 = .ok (.iload_n 2, 1) := by decide +kernel
theorem dX8_daySecondsByMinutes_17 : decode cX8_daySecondsByMinutes 17 = .ok (.invokevirtual 232, 3) := by decide +kernel
theorem dX8_daySecondsByMinutes_20 : decode cX8_daySecondsByMinutes 20 = .ok (.aload_n 0, 1) := by decide +kernel
theorem dX8_daySecondsByMinutes_21 : decode cX8_daySecondsByMinutes 21 = .ok (.iload_n 2, 1) := by decide +kernel
theorem dX8_daySecondsByMinutes_22 : decode cX8_daySecondsByMinutes 22 = .ok (.invokevirtual 235, 3) := by decide +kernel
theorem dX8_daySecondsByMinutes_25 : decode cX8_daySecondsByMinutes 25 = .ok (.invokevirtual 181, 3) := by decide +kernel
theorem dX8_daySecondsByMinutes_28 : decode cX8_daySecondsByMinutes 28 = .ok (.aload_n 0, 1) := by decide +kernel
theorem dX8_daySecondsByMinutes_29 : decode cX8_daySecondsByMinutes 29 = .ok (.getfield 25, 3) := by decide +kernel
theorem dX8_daySecondsByMinutes_32 : decode cX8_daySecondsByMinutes 32 = .ok (.aload_n 3, 1) := by decide +kernel
theorem dX8_daySecondsByMinutes_33 : decode cX8_daySecondsByMinutes 33 = .ok (.iload_n 2, 1) := by decide +kernel
theorem dX8_daySecondsByMinutes_34 : decode cX8_daySecondsByMinutes 34 = .ok (.invokevirtual 238, 3) := by decide +kernel
theorem dX8_daySecondsByMinutes_37 : decode cX8_daySecondsByMinutes 37 = .ok (.ireturn, 1) := by decide +kernel
theorem dX8_openMinutes_0 : decode cX8_openMinutes 0 = .ok (.aload_n 0, 1) := by decide +kernel
theorem dX8_openMinutes_1 : decode cX8_openMinutes 1 = .ok (.iload_n 1, 1) := by decide +kernel
theorem dX8_openMinutes_2 : decode cX8_openMinutes 2 = .ok (.invokevirtual 105, 3) := by decide +kernel
theorem dX8_openMinutes_5 : decode cX8_openMinutes 5 = .ok (.astore_n 2, 1) := by decide +kernel
theorem dX8_openMinutes_6 : decode cX8_openMinutes 6 = .ok (.aload_n 0, 1) := by decide +kernel
theorem dX8_openMinutes_7 : decode cX8_openMinutes 7 = .ok (.getfield 33, 3) := by decide +kernel
theorem dX8_openMinutes_10 : decode cX8_openMinutes 10 = .ok (.aload_n 2, 1) := by decide +kernel
theorem dX8_openMinutes_11 : decode cX8_openMinutes 11 = .ok (.iconst 1, 1) := by decide +kernel
theorem dX8_openMinutes_12 : decode cX8_openMinutes 12 = .ok (.invokevirtual 218, 3) := by decide +kernel
theorem dX8_openMinutes_15 : decode cX8_openMinutes 15 = .ok (.aload_n 0, 1) := by decide +kernel
theorem dX8_openMinutes_16 : decode cX8_openMinutes 16 = .ok (.getfield 33, 3) := by decide +kernel
theorem dX8_openMinutes_19 : decode cX8_openMinutes 19 = .ok (.aload_n 2, 1) := by decide +kernel
theorem dX8_openMinutes_20 : decode cX8_openMinutes 20 = .ok (.invokevirtual 242, 3) := by decide +kernel
theorem dX8_openMinutes_23 : decode cX8_openMinutes 23 = .ok (.ireturn, 1) := by decide +kernel
theorem dX8_openMinutesByLines_0 : decode cX8_openMinutesByLines 0 = .ok (.aload_n 0, 1) := by decide +kernel
theorem dX8_openMinutesByLines_1 : decode cX8_openMinutesByLines 1 = .ok (.iload_n 1, 1) := by decide +kernel
theorem dX8_openMinutesByLines_2 : decode cX8_openMinutesByLines 2 = .ok (.invokevirtual 105, 3) := by decide +kernel
theorem dX8_openMinutesByLines_5 : decode cX8_openMinutesByLines 5 = .ok (.astore_n 2, 1) := by decide +kernel
theorem dX8_openMinutesByLines_6 : decode cX8_openMinutesByLines 6 = .ok (.aload_n 0, 1) := by decide +kernel
theorem dX8_openMinutesByLines_7 : decode cX8_openMinutesByLines 7 = .ok (.getfield 33, 3) := by decide +kernel
theorem dX8_openMinutesByLines_10 : decode cX8_openMinutesByLines 10 = .ok (.aload_n 2, 1) := by decide +kernel
theorem dX8_openMinutesByLines_11 : decode cX8_openMinutesByLines 11 = .ok (.iconst 1, 1) := by decide +kernel
theorem dX8_openMinutesByLines_12 : decode cX8_openMinutesByLines 12 = .ok (.invokevirtual 218, 3) := by decide +kernel
theorem dX8_openMinutesByLines_15 : decode cX8_openMinutesByLines 15 = .ok (.aload_n 0, 1) := by decide +kernel
theorem dX8_openMinutesByLines_16 : decode cX8_openMinutesByLines 16 = .ok (.getfield 33, 3) := by decide +kernel
theorem dX8_openMinutesByLines_19 : decode cX8_openMinutesByLines 19 = .ok (.aload_n 2, 1) := by decide +kernel
theorem dX8_openMinutesByLines_20 : decode cX8_openMinutesByLines 20 = .ok (.invokevirtual 246, 3) := by decide +kernel
theorem dX8_openMinutesByLines_23 : decode cX8_openMinutesByLines 23 = .ok (.ireturn, 1) := by decide +kernel
theorem dX8_invoice_0 : decode cX8_invoice 0 = .ok (.aload_n 0, 1) := by decide +kernel
theorem dX8_invoice_1 : decode cX8_invoice 1 = .ok (.iload_n 1, 1) := by decide +kernel
theorem dX8_invoice_2 : decode cX8_invoice 2 = .ok (.invokevirtual 105, 3) := by decide +kernel
theorem dX8_invoice_5 : decode cX8_invoice 5 = .ok (.astore_n 2, 1) := by decide +kernel
theorem dX8_invoice_6 : decode cX8_invoice 6 = .ok (.aload_n 0, 1) := by decide +kernel
theorem dX8_invoice_7 : decode cX8_invoice 7 = .ok (.getfield 44, 3) := by decide +kernel
theorem dX8_invoice_10 : decode cX8_invoice 10 = .ok (.invokevirtual 90, 3) := by decide +kernel
theorem dX8_invoice_13 : decode cX8_invoice 13 = .ok (.bipush 8, 2) := by decide +kernel
theorem dX8_invoice_15 : decode cX8_invoice 15 = .ok (.if_icmp .lt 13, 3) := by decide +kernel
theorem dX8_invoice_18 : decode cX8_invoice 18 = .ok (.new 68, 3) := by decide +kernel
theorem dX8_invoice_21 : decode cX8_invoice 21 = .ok (.dup, 1) := by decide +kernel
theorem dX8_invoice_22 : decode cX8_invoice 22 = .ok (.ldc 249, 2) := by decide +kernel
theorem dX8_invoice_24 : decode cX8_invoice 24 = .ok (.invokespecial 72, 3) := by decide +kernel
theorem dX8_invoice_27 : decode cX8_invoice 27 = .ok (.athrow, 1) := by decide +kernel
theorem dX8_invoice_28 : decode cX8_invoice 28 = .ok (.aload_n 0, 1) := by decide +kernel
theorem dX8_invoice_29 : decode cX8_invoice 29 = .ok (.getfield 33, 3) := by decide +kernel
theorem dX8_invoice_32 : decode cX8_invoice 32 = .ok (.aload_n 2, 1) := by decide +kernel
theorem dX8_invoice_33 : decode cX8_invoice 33 = .ok (.iconst 0, 1) := by decide +kernel
theorem dX8_invoice_34 : decode cX8_invoice 34 = .ok (.invokevirtual 218, 3) := by decide +kernel
theorem dX8_invoice_37 : decode cX8_invoice 37 = .ok (.aload_n 0, 1) := by decide +kernel
theorem dX8_invoice_38 : decode cX8_invoice 38 = .ok (.getfield 33, 3) := by decide +kernel
theorem dX8_invoice_41 : decode cX8_invoice 41 = .ok (.getfield 251, 3) := by decide +kernel
theorem dX8_invoice_44 : decode cX8_invoice 44 = .ok (.invokevirtual 254, 3) := by decide +kernel
theorem dX8_invoice_47 : decode cX8_invoice 47 = .ok (.ifCond .eq 22, 3) := by decide +kernel
theorem dX8_invoice_50 : decode cX8_invoice 50 = .ok (.aload_n 0, 1) := by decide +kernel
theorem dX8_invoice_51 : decode cX8_invoice 51 = .ok (.aload_n 2, 1) := by decide +kernel
theorem dX8_invoice_52 : decode cX8_invoice 52 = .ok (.invokevirtual 258, 3) := by decide +kernel
theorem dX8_invoice_55 : decode cX8_invoice 55 = .ok (.ifCond .ne 14, 3) := by decide +kernel
theorem dX8_invoice_58 : decode cX8_invoice 58 = .ok (.new 68, 3) := by decide +kernel
theorem dX8_invoice_61 : decode cX8_invoice 61 = .ok (.dup, 1) := by decide +kernel
theorem dX8_invoice_62 : decode cX8_invoice 62 = .ok (.ldc_w 262, 3) := by decide +kernel
theorem dX8_invoice_65 : decode cX8_invoice 65 = .ok (.invokespecial 72, 3) := by decide +kernel
theorem dX8_invoice_68 : decode cX8_invoice 68 = .ok (.athrow, 1) := by decide +kernel
theorem dX8_invoice_69 : decode cX8_invoice 69 = .ok (.new 264, 3) := by decide +kernel
theorem dX8_invoice_72 : decode cX8_invoice 72 = .ok (.dup, 1) := by decide +kernel
theorem dX8_invoice_73 : decode cX8_invoice 73 = .ok (.aload_n 2, 1) := by decide +kernel
theorem dX8_invoice_74 : decode cX8_invoice 74 = .ok (.invokespecial 266, 3) := by decide +kernel
theorem dX8_invoice_77 : decode cX8_invoice 77 = .ok (.astore_n 3, 1) := by decide +kernel
theorem dX8_invoice_78 : decode cX8_invoice 78 = .ok (.aload_n 2, 1) := by decide +kernel
theorem dX8_invoice_79 : decode cX8_invoice 79 = .ok (.getfield 115, 3) := by decide +kernel
theorem dX8_invoice_82 : decode cX8_invoice 82 = .ok (.bipush 100, 2) := by decide +kernel
theorem dX8_invoice_84 : decode cX8_invoice 84 = .ok (.if_icmp .ne 11, 3) := by decide +kernel
theorem dX8_invoice_87 : decode cX8_invoice 87 = .ok (.aload_n 0, 1) := by decide +kernel
theorem dX8_invoice_88 : decode cX8_invoice 88 = .ok (.aload_n 3, 1) := by decide +kernel
theorem dX8_invoice_89 : decode cX8_invoice 89 = .ok (.invokevirtual 269, 3) := by decide +kernel
theorem dX8_invoice_92 : decode cX8_invoice 92 = .ok (.goto 8, 3) := by decide +kernel
theorem dX8_invoice_95 : decode cX8_invoice 95 = .ok (.aload_n 0, 1) := by decide +kernel
theorem dX8_invoice_96 : decode cX8_invoice 96 = .ok (.aload_n 3, 1) := by decide +kernel
theorem dX8_invoice_97 : decode cX8_invoice 97 = .ok (.invokevirtual 273, 3) := by decide +kernel
theorem dX8_invoice_100 : decode cX8_invoice 100 = .ok (.aload_n 0, 1) := by decide +kernel
theorem dX8_invoice_101 : decode cX8_invoice 101 = .ok (.aload_n 3, 1) := by decide +kernel
theorem dX8_invoice_102 : decode cX8_invoice 102 = .ok (.invokevirtual 276, 3) := by decide +kernel
theorem dX8_invoice_105 : decode cX8_invoice 105 = .ok (.aload_n 0, 1) := by decide +kernel
theorem dX8_invoice_106 : decode cX8_invoice 106 = .ok (.getfield 33, 3) := by decide +kernel
theorem dX8_invoice_109 : decode cX8_invoice 109 = .ok (.invokevirtual 279, 3) := by decide +kernel
theorem dX8_invoice_112 : decode cX8_invoice 112 = .ok (.aload_n 0, 1) := by decide +kernel
theorem dX8_invoice_113 : decode cX8_invoice 113 = .ok (.getfield 44, 3) := by decide +kernel
theorem dX8_invoice_116 : decode cX8_invoice 116 = .ok (.aload_n 3, 1) := by decide +kernel
theorem dX8_invoice_117 : decode cX8_invoice 117 = .ok (.invokevirtual 101, 3) := by decide +kernel
theorem dX8_invoice_120 : decode cX8_invoice 120 = .ok (.pop, 1) := by decide +kernel
theorem dX8_invoice_121 : decode cX8_invoice 121 = .ok (.aload_n 0, 1) := by decide +kernel
theorem dX8_invoice_122 : decode cX8_invoice 122 = .ok (.getfield 44, 3) := by decide +kernel
theorem dX8_invoice_125 : decode cX8_invoice 125 = .ok (.invokevirtual 90, 3) := by decide +kernel
theorem dX8_invoice_128 : decode cX8_invoice 128 = .ok (.iconst 1, 1) := by decide +kernel
theorem dX8_invoice_129 : decode cX8_invoice 129 = .ok (.isub, 1) := by decide +kernel
theorem dX8_invoice_130 : decode cX8_invoice 130 = .ok (.ireturn, 1) := by decide +kernel
theorem dX8_invoices_0 : decode cX8_invoices 0 = .ok (.aload_n 0, 1) := by decide +kernel
theorem dX8_invoices_1 : decode cX8_invoices 1 = .ok (.getfield 44, 3) := by decide +kernel
theorem dX8_invoices_4 : decode cX8_invoices 4 = .ok (.invokevirtual 90, 3) := by decide +kernel
theorem dX8_invoices_7 : decode cX8_invoices 7 = .ok (.ireturn, 1) := by decide +kernel
theorem dX8_lines_0 : decode cX8_lines 0 = .ok (.aload_n 0, 1) := by decide +kernel
theorem dX8_lines_1 : decode cX8_lines 1 = .ok (.iload_n 1, 1) := by decide +kernel
theorem dX8_lines_2 : decode cX8_lines 2 = .ok (.invokevirtual 282, 3) := by decide +kernel
theorem dX8_lines_5 : decode cX8_lines 5 = .ok (.getfield 286, 3) := by decide +kernel
theorem dX8_lines_8 : decode cX8_lines 8 = .ok (.invokevirtual 90, 3) := by decide +kernel
theorem dX8_lines_11 : decode cX8_lines 11 = .ok (.ireturn, 1) := by decide +kernel
theorem dX8_lineKind_0 : decode cX8_lineKind 0 = .ok (.aload_n 0, 1) := by decide +kernel
theorem dX8_lineKind_1 : decode cX8_lineKind 1 = .ok (.iload_n 1, 1) := by decide +kernel
theorem dX8_lineKind_2 : decode cX8_lineKind 2 = .ok (.iload_n 2, 1) := by decide +kernel
theorem dX8_lineKind_3 : decode cX8_lineKind 3 = .ok (.invokevirtual 289, 3) := by decide +kernel
theorem dX8_lineKind_6 : decode cX8_lineKind 6 = .ok (.getfield 293, 3) := by decide +kernel
theorem dX8_lineKind_9 : decode cX8_lineKind 9 = .ok (.ireturn, 1) := by decide +kernel
theorem dX8_lineMinutes_0 : decode cX8_lineMinutes 0 = .ok (.aload_n 0, 1) := by decide +kernel
theorem dX8_lineMinutes_1 : decode cX8_lineMinutes 1 = .ok (.iload_n 1, 1) := by decide +kernel
theorem dX8_lineMinutes_2 : decode cX8_lineMinutes 2 = .ok (.iload_n 2, 1) := by decide +kernel
theorem dX8_lineMinutes_3 : decode cX8_lineMinutes 3 = .ok (.invokevirtual 289, 3) := by decide +kernel
theorem dX8_lineMinutes_6 : decode cX8_lineMinutes 6 = .ok (.getfield 298, 3) := by decide +kernel
theorem dX8_lineMinutes_9 : decode cX8_lineMinutes 9 = .ok (.ireturn, 1) := by decide +kernel
theorem dX8_lineSubject_0 : decode cX8_lineSubject 0 = .ok (.aload_n 0, 1) := by decide +kernel
theorem dX8_lineSubject_1 : decode cX8_lineSubject 1 = .ok (.iload_n 1, 1) := by decide +kernel
theorem dX8_lineSubject_2 : decode cX8_lineSubject 2 = .ok (.iload_n 2, 1) := by decide +kernel
theorem dX8_lineSubject_3 : decode cX8_lineSubject 3 = .ok (.invokevirtual 289, 3) := by decide +kernel
theorem dX8_lineSubject_6 : decode cX8_lineSubject 6 = .ok (.getfield 301, 3) := by decide +kernel
theorem dX8_lineSubject_9 : decode cX8_lineSubject 9 = .ok (.ireturn, 1) := by decide +kernel
theorem dX8_lineAmount_0 : decode cX8_lineAmount 0 = .ok (.aload_n 0, 1) := by decide +kernel
theorem dX8_lineAmount_1 : decode cX8_lineAmount 1 = .ok (.iload_n 1, 1) := by decide +kernel
theorem dX8_lineAmount_2 : decode cX8_lineAmount 2 = .ok (.iload_n 2, 1) := by decide +kernel
theorem dX8_lineAmount_3 : decode cX8_lineAmount 3 = .ok (.invokevirtual 289, 3) := by decide +kernel
theorem dX8_lineAmount_6 : decode cX8_lineAmount 6 = .ok (.getfield 304, 3) := by decide +kernel
theorem dX8_lineAmount_9 : decode cX8_lineAmount 9 = .ok (.freturn, 1) := by decide +kernel
theorem dX8_total_0 : decode cX8_total 0 = .ok (.aload_n 0, 1) := by decide +kernel
theorem dX8_total_1 : decode cX8_total 1 = .ok (.iload_n 1, 1) := by decide +kernel
theorem dX8_total_2 : decode cX8_total 2 = .ok (.invokevirtual 282, 3) := by decide +kernel
theorem dX8_total_5 : decode cX8_total 5 = .ok (.getfield 308, 3) := by decide +kernel
theorem dX8_total_8 : decode cX8_total 8 = .ok (.freturn, 1) := by decide +kernel
theorem dX8_totalBits_0 : decode cX8_totalBits 0 = .ok (.aload_n 0, 1) := by decide +kernel
theorem dX8_totalBits_1 : decode cX8_totalBits 1 = .ok (.iload_n 1, 1) := by decide +kernel
theorem dX8_totalBits_2 : decode cX8_totalBits 2 = .ok (.invokevirtual 282, 3) := by decide +kernel
theorem dX8_totalBits_5 : decode cX8_totalBits 5 = .ok (.getfield 308, 3) := by decide +kernel
theorem dX8_totalBits_8 : decode cX8_totalBits 8 = .ok (.invokestatic 311, 3) := by decide +kernel
theorem dX8_totalBits_11 : decode cX8_totalBits 11 = .ok (.ireturn, 1) := by decide +kernel
theorem dX8_totalCents_0 : decode cX8_totalCents 0 = .ok (.aload_n 0, 1) := by decide +kernel
theorem dX8_totalCents_1 : decode cX8_totalCents 1 = .ok (.iload_n 1, 1) := by decide +kernel
theorem dX8_totalCents_2 : decode cX8_totalCents 2 = .ok (.invokevirtual 282, 3) := by decide +kernel
theorem dX8_totalCents_5 : decode cX8_totalCents 5 = .ok (.getfield 308, 3) := by decide +kernel
theorem dX8_totalCents_8 : decode cX8_totalCents 8 = .ok (.f2i, 1) := by decide +kernel
theorem dX8_totalCents_9 : decode cX8_totalCents 9 = .ok (.ireturn, 1) := by decide +kernel
theorem dX8_correct_0 : decode cX8_correct 0 = .ok (.aload_n 0, 1) := by decide +kernel
theorem dX8_correct_1 : decode cX8_correct 1 = .ok (.iload_n 1, 1) := by decide +kernel
theorem dX8_correct_2 : decode cX8_correct 2 = .ok (.invokevirtual 138, 3) := by decide +kernel
theorem dX8_correct_5 : decode cX8_correct 5 = .ok (.astore_n 3, 1) := by decide +kernel
theorem dX8_correct_6 : decode cX8_correct 6 = .ok (.iload_n 2, 1) := by decide +kernel
theorem dX8_correct_7 : decode cX8_correct 7 = .ok (.sipush (-600), 3) := by decide +kernel
theorem dX8_correct_10 : decode cX8_correct 10 = .ok (.if_icmp .lt 14, 3) := by decide +kernel
theorem dX8_correct_13 : decode cX8_correct 13 = .ok (.iload_n 2, 1) := by decide +kernel
theorem dX8_correct_14 : decode cX8_correct 14 = .ok (.sipush 600, 3) := by decide +kernel
theorem dX8_correct_17 : decode cX8_correct 17 = .ok (.if_icmp .gt 7, 3) := by decide +kernel
theorem dX8_correct_20 : decode cX8_correct 20 = .ok (.iload_n 2, 1) := by decide +kernel
theorem dX8_correct_21 : decode cX8_correct 21 = .ok (.ifCond .ne 14, 3) := by decide +kernel
theorem dX8_correct_24 : decode cX8_correct 24 = .ok (.new 61, 3) := by decide +kernel
theorem dX8_correct_27 : decode cX8_correct 27 = .ok (.dup, 1) := by decide +kernel
theorem dX8_correct_28 : decode cX8_correct 28 = .ok (.ldc_w 315, 3) := by decide +kernel
theorem dX8_correct_31 : decode cX8_correct 31 = .ok (.invokespecial 65, 3) := by decide +kernel
theorem dX8_correct_34 : decode cX8_correct 34 = .ok (.athrow, 1) := by decide +kernel
theorem dX8_correct_35 : decode cX8_correct 35 = .ok (.aload_n 3, 1) := by decide +kernel
theorem dX8_correct_36 : decode cX8_correct 36 = .ok (.getfield 142, 3) := by decide +kernel
theorem dX8_correct_39 : decode cX8_correct 39 = .ok (.bipush 102, 2) := by decide +kernel
theorem dX8_correct_41 : decode cX8_correct 41 = .ok (.if_icmp .eq 14, 3) := by decide +kernel
theorem dX8_correct_44 : decode cX8_correct 44 = .ok (.new 68, 3) := by decide +kernel
theorem dX8_correct_47 : decode cX8_correct 47 = .ok (.dup, 1) := by decide +kernel
theorem dX8_correct_48 : decode cX8_correct 48 = .ok (.ldc_w 317, 3) := by decide +kernel
theorem dX8_correct_51 : decode cX8_correct 51 = .ok (.invokespecial 72, 3) := by decide +kernel
theorem dX8_correct_54 : decode cX8_correct 54 = .ok (.athrow, 1) := by decide +kernel
theorem dX8_correct_55 : decode cX8_correct 55 = .ok (.aload_n 0, 1) := by decide +kernel
theorem dX8_correct_56 : decode cX8_correct 56 = .ok (.getfield 47, 3) := by decide +kernel
theorem dX8_correct_59 : decode cX8_correct 59 = .ok (.invokevirtual 90, 3) := by decide +kernel
theorem dX8_correct_62 : decode cX8_correct 62 = .ok (.bipush 16, 2) := by decide +kernel
theorem dX8_correct_64 : decode cX8_correct 64 = .ok (.if_icmp .lt 14, 3) := by decide +kernel
theorem dX8_correct_67 : decode cX8_correct 67 = .ok (.new 68, 3) := by decide +kernel
theorem dX8_correct_70 : decode cX8_correct 70 = .ok (.dup, 1) := by decide +kernel
theorem dX8_correct_71 : decode cX8_correct 71 = .ok (.ldc_w 319, 3) := by decide +kernel
theorem dX8_correct_74 : decode cX8_correct 74 = .ok (.invokespecial 72, 3) := by decide +kernel
theorem dX8_correct_77 : decode cX8_correct 77 = .ok (.athrow, 1) := by decide +kernel
theorem dX8_correct_78 : decode cX8_correct 78 = .ok (.aload_n 0, 1) := by decide +kernel
theorem dX8_correct_79 : decode cX8_correct 79 = .ok (.getfield 47, 3) := by decide +kernel
theorem dX8_correct_82 : decode cX8_correct 82 = .ok (.new 321, 3) := by decide +kernel
theorem dX8_correct_85 : decode cX8_correct 85 = .ok (.dup, 1) := by decide +kernel
theorem dX8_correct_86 : decode cX8_correct 86 = .ok (.aload_n 3, 1) := by decide +kernel
theorem dX8_correct_87 : decode cX8_correct 87 = .ok (.iload_n 2, 1) := by decide +kernel
theorem dX8_correct_88 : decode cX8_correct 88 = .ok (.invokespecial 323, 3) := by decide +kernel
theorem dX8_correct_91 : decode cX8_correct 91 = .ok (.invokevirtual 101, 3) := by decide +kernel
theorem dX8_correct_94 : decode cX8_correct 94 = .ok (.pop, 1) := by decide +kernel
theorem dX8_correct_95 : decode cX8_correct 95 = .ok (.aload_n 0, 1) := by decide +kernel
theorem dX8_correct_96 : decode cX8_correct 96 = .ok (.aload_n 3, 1) := by decide +kernel
theorem dX8_correct_97 : decode cX8_correct 97 = .ok (.getfield 196, 3) := by decide +kernel
theorem dX8_correct_100 : decode cX8_correct 100 = .ok (.invokevirtual 326, 3) := by decide +kernel
theorem dX8_correct_103 : decode cX8_correct 103 = .ok (.ireturn, 1) := by decide +kernel
theorem dX8_usedMinutes_0 : decode cX8_usedMinutes 0 = .ok (.aload_n 0, 1) := by decide +kernel
theorem dX8_usedMinutes_1 : decode cX8_usedMinutes 1 = .ok (.iload_n 1, 1) := by decide +kernel
theorem dX8_usedMinutes_2 : decode cX8_usedMinutes 2 = .ok (.invokevirtual 105, 3) := by decide +kernel
theorem dX8_usedMinutes_5 : decode cX8_usedMinutes 5 = .ok (.astore_n 2, 1) := by decide +kernel
theorem dX8_usedMinutes_6 : decode cX8_usedMinutes 6 = .ok (.aload_n 0, 1) := by decide +kernel
theorem dX8_usedMinutes_7 : decode cX8_usedMinutes 7 = .ok (.getfield 33, 3) := by decide +kernel
theorem dX8_usedMinutes_10 : decode cX8_usedMinutes 10 = .ok (.aload_n 2, 1) := by decide +kernel
theorem dX8_usedMinutes_11 : decode cX8_usedMinutes 11 = .ok (.iconst 1, 1) := by decide +kernel
theorem dX8_usedMinutes_12 : decode cX8_usedMinutes 12 = .ok (.invokevirtual 218, 3) := by decide +kernel
theorem dX8_usedMinutes_15 : decode cX8_usedMinutes 15 = .ok (.aload_n 0, 1) := by decide +kernel
theorem dX8_usedMinutes_16 : decode cX8_usedMinutes 16 = .ok (.aload_n 2, 1) := by decide +kernel
theorem dX8_usedMinutes_17 : decode cX8_usedMinutes 17 = .ok (.invokevirtual 329, 3) := by decide +kernel
theorem dX8_usedMinutes_20 : decode cX8_usedMinutes 20 = .ok (.aload_n 0, 1) := by decide +kernel
theorem dX8_usedMinutes_21 : decode cX8_usedMinutes 21 = .ok (.getfield 33, 3) := by decide +kernel
theorem dX8_usedMinutes_24 : decode cX8_usedMinutes 24 = .ok (.aload_n 2, 1) := by decide +kernel
theorem dX8_usedMinutes_25 : decode cX8_usedMinutes 25 = .ok (.invokevirtual 242, 3) := by decide +kernel
theorem dX8_usedMinutes_28 : decode cX8_usedMinutes 28 = .ok (.iadd, 1) := by decide +kernel
theorem dX8_usedMinutes_29 : decode cX8_usedMinutes 29 = .ok (.ireturn, 1) := by decide +kernel
theorem dX8_budgetShare_0 : decode cX8_budgetShare 0 = .ok (.aload_n 0, 1) := by decide +kernel
theorem dX8_budgetShare_1 : decode cX8_budgetShare 1 = .ok (.iload_n 1, 1) := by decide +kernel
theorem dX8_budgetShare_2 : decode cX8_budgetShare 2 = .ok (.invokevirtual 105, 3) := by decide +kernel
theorem dX8_budgetShare_5 : decode cX8_budgetShare 5 = .ok (.getfield 123, 3) := by decide +kernel
theorem dX8_budgetShare_8 : decode cX8_budgetShare 8 = .ok (.istore_n 2, 1) := by decide +kernel
theorem dX8_budgetShare_9 : decode cX8_budgetShare 9 = .ok (.iload_n 2, 1) := by decide +kernel
theorem dX8_budgetShare_10 : decode cX8_budgetShare 10 = .ok (.ifCond .ne 14, 3) := by decide +kernel
theorem dX8_budgetShare_13 : decode cX8_budgetShare 13 = .ok (.new 332, 3) := by decide +kernel
theorem dX8_budgetShare_16 : decode cX8_budgetShare 16 = .ok (.dup, 1) := by decide +kernel
theorem dX8_budgetShare_17 : decode cX8_budgetShare 17 = .ok (.ldc_w 334, 3) := by decide +kernel
theorem dX8_budgetShare_20 : decode cX8_budgetShare 20 = .ok (.invokespecial 336, 3) := by decide +kernel
theorem dX8_budgetShare_23 : decode cX8_budgetShare 23 = .ok (.athrow, 1) := by decide +kernel
theorem dX8_budgetShare_24 : decode cX8_budgetShare 24 = .ok (.aload_n 0, 1) := by decide +kernel
theorem dX8_budgetShare_25 : decode cX8_budgetShare 25 = .ok (.iload_n 1, 1) := by decide +kernel
theorem dX8_budgetShare_26 : decode cX8_budgetShare 26 = .ok (.invokevirtual 337, 3) := by decide +kernel
theorem dX8_budgetShare_29 : decode cX8_budgetShare 29 = .ok (.i2f, 1) := by decide +kernel
theorem dX8_budgetShare_30 : decode cX8_budgetShare 30 = .ok (.iload_n 2, 1) := by decide +kernel
theorem dX8_budgetShare_31 : decode cX8_budgetShare 31 = .ok (.i2f, 1) := by decide +kernel
theorem dX8_budgetShare_32 : decode cX8_budgetShare 32 = .ok (.fdiv, 1) := by decide +kernel
theorem dX8_budgetShare_33 : decode cX8_budgetShare 33 = .ok (.freturn, 1) := by decide +kernel
theorem dX8_warning_0 : decode cX8_warning 0 = .ok (.aload_n 0, 1) := by decide +kernel
theorem dX8_warning_1 : decode cX8_warning 1 = .ok (.iload_n 1, 1) := by decide +kernel
theorem dX8_warning_2 : decode cX8_warning 2 = .ok (.invokevirtual 105, 3) := by decide +kernel
theorem dX8_warning_5 : decode cX8_warning 5 = .ok (.getfield 123, 3) := by decide +kernel
theorem dX8_warning_8 : decode cX8_warning 8 = .ok (.istore_n 2, 1) := by decide +kernel
theorem dX8_warning_9 : decode cX8_warning 9 = .ok (.iload_n 2, 1) := by decide +kernel
theorem dX8_warning_10 : decode cX8_warning 10 = .ok (.ifCond .ne 6, 3) := by decide +kernel
theorem dX8_warning_13 : decode cX8_warning 13 = .ok (.bipush 110, 2) := by decide +kernel
theorem dX8_warning_15 : decode cX8_warning 15 = .ok (.ireturn, 1) := by decide +kernel
theorem dX8_warning_16 : decode cX8_warning 16 = .ok (.aload_n 0, 1) := by decide +kernel
theorem dX8_warning_17 : decode cX8_warning 17 = .ok (.iload_n 1, 1) := by decide +kernel
theorem dX8_warning_18 : decode cX8_warning 18 = .ok (.invokevirtual 337, 3) := by decide +kernel
theorem dX8_warning_21 : decode cX8_warning 21 = .ok (.istore_n 3, 1) := by decide +kernel
theorem dX8_warning_22 : decode cX8_warning 22 = .ok (.iload_n 3, 1) := by decide +kernel
theorem dX8_warning_23 : decode cX8_warning 23 = .ok (.i2f, 1) := by decide +kernel
theorem dX8_warning_24 : decode cX8_warning 24 = .ok (.iload_n 2, 1) := by decide +kernel
theorem dX8_warning_25 : decode cX8_warning 25 = .ok (.i2f, 1) := by decide +kernel
theorem dX8_warning_26 : decode cX8_warning 26 = .ok (.fdiv, 1) := by decide +kernel
theorem dX8_warning_27 : decode cX8_warning 27 = .ok (.ldc_w 340, 3) := by decide +kernel
theorem dX8_warning_30 : decode cX8_warning 30 = .ok (.fcmp .g, 1) := by decide +kernel
theorem dX8_warning_31 : decode cX8_warning 31 = .ok (.ifCond .ge 6, 3) := by decide +kernel
theorem dX8_warning_34 : decode cX8_warning 34 = .ok (.bipush 110, 2) := by decide +kernel
theorem dX8_warning_36 : decode cX8_warning 36 = .ok (.ireturn, 1) := by decide +kernel
theorem dX8_warning_37 : decode cX8_warning 37 = .ok (.iload_n 3, 1) := by decide +kernel
theorem dX8_warning_38 : decode cX8_warning 38 = .ok (.iload_n 2, 1) := by decide +kernel
theorem dX8_warning_39 : decode cX8_warning 39 = .ok (.if_icmp .le 8, 3) := by decide +kernel
theorem dX8_warning_42 : decode cX8_warning 42 = .ok (.bipush 111, 2) := by decide +kernel
theorem dX8_warning_44 : decode cX8_warning 44 = .ok (.goto 5, 3) := by decide +kernel
theorem dX8_warning_47 : decode cX8_warning 47 = .ok (.bipush 119, 2) := by decide +kernel
theorem dX8_warning_49 : decode cX8_warning 49 = .ok (.ireturn, 1) := by decide +kernel
theorem dX8_meanMinutes_0 : decode cX8_meanMinutes 0 = .ok (.aload_n 0, 1) := by decide +kernel
theorem dX8_meanMinutes_1 : decode cX8_meanMinutes 1 = .ok (.getfield 10, 3) := by decide +kernel
theorem dX8_meanMinutes_4 : decode cX8_meanMinutes 4 = .ok (.invokevirtual 167, 3) := by decide +kernel
theorem dX8_meanMinutes_7 : decode cX8_meanMinutes 7 = .ok (.istore_n 1, 1) := by decide +kernel
theorem dX8_meanMinutes_8 : decode cX8_meanMinutes 8 = .ok (.iload_n 1, 1) := by decide +kernel
theorem dX8_meanMinutes_9 : decode cX8_meanMinutes 9 = .ok (.ifCond .ne 14, 3) := by decide +kernel
theorem dX8_meanMinutes_12 : decode cX8_meanMinutes 12 = .ok (.new 332, 3) := by decide +kernel
theorem dX8_meanMinutes_15 : decode cX8_meanMinutes 15 = .ok (.dup, 1) := by decide +kernel
theorem dX8_meanMinutes_16 : decode cX8_meanMinutes 16 = .ok (.ldc_w 341, 3) := by decide +kernel
theorem dX8_meanMinutes_19 : decode cX8_meanMinutes 19 = .ok (.invokespecial 336, 3) := by decide +kernel
theorem dX8_meanMinutes_22 : decode cX8_meanMinutes 22 = .ok (.athrow, 1) := by decide +kernel
theorem dX8_meanMinutes_23 : decode cX8_meanMinutes 23 = .ok (.aload_n 0, 1) := by decide +kernel
theorem dX8_meanMinutes_24 : decode cX8_meanMinutes 24 = .ok (.getfield 21, 3) := by decide +kernel
theorem dX8_meanMinutes_27 : decode cX8_meanMinutes 27 = .ok (.iconst 0, 1) := by decide +kernel
theorem dX8_meanMinutes_28 : decode cX8_meanMinutes 28 = .ok (.aload_n 0, 1) := by decide +kernel
theorem dX8_meanMinutes_29 : decode cX8_meanMinutes 29 = .ok (.getfield 10, 3) := by decide +kernel
theorem dX8_meanMinutes_32 : decode cX8_meanMinutes 32 = .ok (.getfield 57, 3) := by decide +kernel
theorem dX8_meanMinutes_35 : decode cX8_meanMinutes 35 = .ok (.invokevirtual 173, 3) := by decide +kernel
theorem dX8_meanMinutes_38 : decode cX8_meanMinutes 38 = .ok (.aload_n 0, 1) := by decide +kernel
theorem dX8_meanMinutes_39 : decode cX8_meanMinutes 39 = .ok (.getfield 21, 3) := by decide +kernel
theorem dX8_meanMinutes_42 : decode cX8_meanMinutes 42 = .ok (.invokevirtual 343, 3) := by decide +kernel
theorem dX8_meanMinutes_45 : decode cX8_meanMinutes 45 = .ok (.i2d, 1) := by decide +kernel
theorem dX8_meanMinutes_46 : decode cX8_meanMinutes 46 = .ok (.ldc2_w 346, 3) := by decide +kernel
theorem dX8_meanMinutes_49 : decode cX8_meanMinutes 49 = .ok (.ddiv, 1) := by decide +kernel
theorem dX8_meanMinutes_50 : decode cX8_meanMinutes 50 = .ok (.iload_n 1, 1) := by decide +kernel
theorem dX8_meanMinutes_51 : decode cX8_meanMinutes 51 = .ok (.i2d, 1) := by decide +kernel
theorem dX8_meanMinutes_52 : decode cX8_meanMinutes 52 = .ok (.ddiv, 1) := by decide +kernel
theorem dX8_meanMinutes_53 : decode cX8_meanMinutes 53 = .ok (.dreturn, 1) := by decide +kernel
theorem dX8_meanBits_0 : decode cX8_meanBits 0 = .ok (.aload_n 0, 1) := by decide +kernel
theorem dX8_meanBits_1 : decode cX8_meanBits 1 = .ok (.invokevirtual 348, 3) := by decide +kernel
theorem dX8_meanBits_4 : decode cX8_meanBits 4 = .ok (.invokestatic 352, 3) := by decide +kernel
theorem dX8_meanBits_7 : decode cX8_meanBits 7 = .ok (.lreturn, 1) := by decide +kernel
theorem dX8_isConsistent_0 : decode cX8_isConsistent 0 = .ok (.aload_n 0, 1) := by decide +kernel
theorem dX8_isConsistent_1 : decode cX8_isConsistent 1 = .ok (.invokevirtual 356, 3) := by decide +kernel
theorem dX8_isConsistent_4 : decode cX8_isConsistent 4 = .ok (.ifCond .eq 35, 3) := by decide +kernel
theorem dX8_isConsistent_7 : decode cX8_isConsistent 7 = .ok (.aload_n 0, 1) := by decide +kernel
theorem dX8_isConsistent_8 : decode cX8_isConsistent 8 = .ok (.invokevirtual 359, 3) := by decide +kernel
theorem dX8_isConsistent_11 : decode cX8_isConsistent 11 = .ok (.ifCond .eq 28, 3) := by decide +kernel
theorem dX8_isConsistent_14 : decode cX8_isConsistent 14 = .ok (.aload_n 0, 1) := by decide +kernel
theorem dX8_isConsistent_15 : decode cX8_isConsistent 15 = .ok (.invokevirtual 362, 3) := by decide +kernel
theorem dX8_isConsistent_18 : decode cX8_isConsistent 18 = .ok (.ifCond .eq 21, 3) := by decide +kernel
theorem dX8_isConsistent_21 : decode cX8_isConsistent 21 = .ok (.aload_n 0, 1) := by decide +kernel
theorem dX8_isConsistent_22 : decode cX8_isConsistent 22 = .ok (.invokevirtual 365, 3) := by decide +kernel
theorem dX8_isConsistent_25 : decode cX8_isConsistent 25 = .ok (.ifCond .eq 14, 3) := by decide +kernel
theorem dX8_isConsistent_28 : decode cX8_isConsistent 28 = .ok (.aload_n 0, 1) := by decide +kernel
theorem dX8_isConsistent_29 : decode cX8_isConsistent 29 = .ok (.invokevirtual 368, 3) := by decide +kernel
theorem dX8_isConsistent_32 : decode cX8_isConsistent 32 = .ok (.ifCond .eq 7, 3) := by decide +kernel
theorem dX8_isConsistent_35 : decode cX8_isConsistent 35 = .ok (.iconst 1, 1) := by decide +kernel
theorem dX8_isConsistent_36 : decode cX8_isConsistent 36 = .ok (.goto 4, 3) := by decide +kernel
theorem dX8_isConsistent_39 : decode cX8_isConsistent 39 = .ok (.iconst 0, 1) := by decide +kernel
theorem dX8_isConsistent_40 : decode cX8_isConsistent 40 = .ok (.ireturn, 1) := by decide +kernel
theorem dX8_clientAt_0 : decode cX8_clientAt 0 = .ok (.iload_n 1, 1) := by decide +kernel
theorem dX8_clientAt_1 : decode cX8_clientAt 1 = .ok (.ifCond .lt 14, 3) := by decide +kernel
theorem dX8_clientAt_4 : decode cX8_clientAt 4 = .ok (.iload_n 1, 1) := by decide +kernel
theorem dX8_clientAt_5 : decode cX8_clientAt 5 = .ok (.aload_n 0, 1) := by decide +kernel
theorem dX8_clientAt_6 : decode cX8_clientAt 6 = .ok (.getfield 40, 3) := by decide +kernel
theorem dX8_clientAt_9 : decode cX8_clientAt 9 = .ok (.invokevirtual 90, 3) := by decide +kernel
theorem dX8_clientAt_12 : decode cX8_clientAt 12 = .ok (.if_icmp .lt 14, 3) := by decide +kernel
theorem dX8_clientAt_15 : decode cX8_clientAt 15 = .ok (.new 204, 3) := by decide +kernel
theorem dX8_clientAt_18 : decode cX8_clientAt 18 = .ok (.dup, 1) := by decide +kernel
theorem dX8_clientAt_19 : decode cX8_clientAt 19 = .ok (.ldc_w 371, 3) := by decide +kernel
theorem dX8_clientAt_22 : decode cX8_clientAt 22 = .ok (.invokespecial 208, 3) := by decide +kernel
theorem dX8_clientAt_25 : decode cX8_clientAt 25 = .ok (.athrow, 1) := by decide +kernel
theorem dX8_clientAt_26 : decode cX8_clientAt 26 = .ok (.aload_n 0, 1) := by decide +kernel
theorem dX8_clientAt_27 : decode cX8_clientAt 27 = .ok (.getfield 40, 3) := by decide +kernel
theorem dX8_clientAt_30 : decode cX8_clientAt 30 = .ok (.iload_n 1, 1) := by decide +kernel
theorem dX8_clientAt_31 : decode cX8_clientAt 31 = .ok (.invokevirtual 373, 3) := by decide +kernel
theorem dX8_clientAt_34 : decode cX8_clientAt 34 = .ok (.checkcast 96, 3) := by decide +kernel
theorem dX8_clientAt_37 : decode cX8_clientAt 37 = .ok (.areturn, 1) := by decide +kernel
theorem dX8_entryAt_0 : decode cX8_entryAt 0 = .ok (.iload_n 1, 1) := by decide +kernel
theorem dX8_entryAt_1 : decode cX8_entryAt 1 = .ok (.ifCond .lt 17, 3) := by decide +kernel
theorem dX8_entryAt_4 : decode cX8_entryAt 4 = .ok (.iload_n 1, 1) := by decide +kernel
theorem dX8_entryAt_5 : decode cX8_entryAt 5 = .ok (.aload_n 0, 1) := by decide +kernel
theorem dX8_entryAt_6 : decode cX8_entryAt 6 = .ok (.getfield 10, 3) := by decide +kernel
theorem dX8_entryAt_9 : decode cX8_entryAt 9 = .ok (.getfield 170, 3) := by decide +kernel
theorem dX8_entryAt_12 : decode cX8_entryAt 12 = .ok (.invokevirtual 90, 3) := by decide +kernel
theorem dX8_entryAt_15 : decode cX8_entryAt 15 = .ok (.if_icmp .lt 14, 3) := by decide +kernel
theorem dX8_entryAt_18 : decode cX8_entryAt 18 = .ok (.new 204, 3) := by decide +kernel
theorem dX8_entryAt_21 : decode cX8_entryAt 21 = .ok (.dup, 1) := by decide +kernel
theorem dX8_entryAt_22 : decode cX8_entryAt 22 = .ok (.ldc_w 377, 3) := by decide +kernel
theorem dX8_entryAt_25 : decode cX8_entryAt 25 = .ok (.invokespecial 208, 3) := by decide +kernel
theorem dX8_entryAt_28 : decode cX8_entryAt 28 = .ok (.athrow, 1) := by decide +kernel
theorem dX8_entryAt_29 : decode cX8_entryAt 29 = .ok (.aload_n 0, 1) := by decide +kernel
theorem dX8_entryAt_30 : decode cX8_entryAt 30 = .ok (.getfield 10, 3) := by decide +kernel
theorem dX8_entryAt_33 : decode cX8_entryAt 33 = .ok (.getfield 170, 3) := by decide +kernel
theorem dX8_entryAt_36 : decode cX8_entryAt 36 = .ok (.iload_n 1, 1) := by decide +kernel
theorem dX8_entryAt_37 : decode cX8_entryAt 37 = .ok (.invokevirtual 373, 3) := by decide +kernel
theorem dX8_entryAt_40 : decode cX8_entryAt 40 = .ok (.checkcast 143, 3) := by decide +kernel
theorem dX8_entryAt_43 : decode cX8_entryAt 43 = .ok (.areturn, 1) := by decide +kernel
theorem dX8_invoiceAt_0 : decode cX8_invoiceAt 0 = .ok (.iload_n 1, 1) := by decide +kernel
theorem dX8_invoiceAt_1 : decode cX8_invoiceAt 1 = .ok (.ifCond .lt 14, 3) := by decide +kernel
theorem dX8_invoiceAt_4 : decode cX8_invoiceAt 4 = .ok (.iload_n 1, 1) := by decide +kernel
theorem dX8_invoiceAt_5 : decode cX8_invoiceAt 5 = .ok (.aload_n 0, 1) := by decide +kernel
theorem dX8_invoiceAt_6 : decode cX8_invoiceAt 6 = .ok (.getfield 44, 3) := by decide +kernel
theorem dX8_invoiceAt_9 : decode cX8_invoiceAt 9 = .ok (.invokevirtual 90, 3) := by decide +kernel
theorem dX8_invoiceAt_12 : decode cX8_invoiceAt 12 = .ok (.if_icmp .lt 14, 3) := by decide +kernel
theorem dX8_invoiceAt_15 : decode cX8_invoiceAt 15 = .ok (.new 204, 3) := by decide +kernel
theorem dX8_invoiceAt_18 : decode cX8_invoiceAt 18 = .ok (.dup, 1) := by decide +kernel
theorem dX8_invoiceAt_19 : decode cX8_invoiceAt 19 = .ok (.ldc_w 379, 3) := by decide +kernel
theorem dX8_invoiceAt_22 : decode cX8_invoiceAt 22 = .ok (.invokespecial 208, 3) := by decide +kernel
theorem dX8_invoiceAt_25 : decode cX8_invoiceAt 25 = .ok (.athrow, 1) := by decide +kernel
theorem dX8_invoiceAt_26 : decode cX8_invoiceAt 26 = .ok (.aload_n 0, 1) := by decide +kernel
theorem dX8_invoiceAt_27 : decode cX8_invoiceAt 27 = .ok (.getfield 44, 3) := by decide +kernel
theorem dX8_invoiceAt_30 : decode cX8_invoiceAt 30 = .ok (.iload_n 1, 1) := by decide +kernel
theorem dX8_invoiceAt_31 : decode cX8_invoiceAt 31 = .ok (.invokevirtual 373, 3) := by decide +kernel
theorem dX8_invoiceAt_34 : decode cX8_invoiceAt 34 = .ok (.checkcast 264, 3) := by decide +kernel
theorem dX8_invoiceAt_37 : decode cX8_invoiceAt 37 = .ok (.areturn, 1) := by decide +kernel
theorem dX8_lineAt_0 : decode cX8_lineAt 0 = .ok (.aload_n 0, 1) := by decide +kernel
theorem dX8_lineAt_1 : decode cX8_lineAt 1 = .ok (.iload_n 1, 1) := by decide +kernel
theorem dX8_lineAt_2 : decode cX8_lineAt 2 = .ok (.invokevirtual 282, 3) := by decide +kernel
theorem dX8_lineAt_5 : decode cX8_lineAt 5 = .ok (.getfield 286, 3) := by decide +kernel
theorem dX8_lineAt_8 : decode cX8_lineAt 8 = .ok (.astore_n 3, 1) := by decide +kernel
theorem dX8_lineAt_9 : decode cX8_lineAt 9 = .ok (.iload_n 2, 1) := by decide +kernel
theorem dX8_lineAt_10 : decode cX8_lineAt 10 = .ok (.ifCond .lt 11, 3) := by decide +kernel
theorem dX8_lineAt_13 : decode cX8_lineAt 13 = .ok (.iload_n 2, 1) := by decide +kernel
theorem dX8_lineAt_14 : decode cX8_lineAt 14 = .ok (.aload_n 3, 1) := by decide +kernel
theorem dX8_lineAt_15 : decode cX8_lineAt 15 = .ok (.invokevirtual 90, 3) := by decide +kernel
theorem dX8_lineAt_18 : decode cX8_lineAt 18 = .ok (.if_icmp .lt 14, 3) := by decide +kernel
theorem dX8_lineAt_21 : decode cX8_lineAt 21 = .ok (.new 204, 3) := by decide +kernel
theorem dX8_lineAt_24 : decode cX8_lineAt 24 = .ok (.dup, 1) := by decide +kernel
theorem dX8_lineAt_25 : decode cX8_lineAt 25 = .ok (.ldc_w 381, 3) := by decide +kernel
theorem dX8_lineAt_28 : decode cX8_lineAt 28 = .ok (.invokespecial 208, 3) := by decide +kernel
theorem dX8_lineAt_31 : decode cX8_lineAt 31 = .ok (.athrow, 1) := by decide +kernel
theorem dX8_lineAt_32 : decode cX8_lineAt 32 = .ok (.aload_n 3, 1) := by decide +kernel
theorem dX8_lineAt_33 : decode cX8_lineAt 33 = .ok (.iload_n 2, 1) := by decide +kernel
theorem dX8_lineAt_34 : decode cX8_lineAt 34 = .ok (.invokevirtual 373, 3) := by decide +kernel
theorem dX8_lineAt_37 : decode cX8_lineAt 37 = .ok (.checkcast 294, 3) := by decide +kernel
theorem dX8_lineAt_40 : decode cX8_lineAt 40 = .ok (.areturn, 1) := by decide +kernel
theorem dX8_requireRounding_0 : decode cX8_requireRounding 0 = .ok (.iload_n 1, 1) := by decide +kernel
theorem dX8_requireRounding_1 : decode cX8_requireRounding 1 = .ok (.iconst 1, 1) := by decide +kernel
theorem dX8_requireRounding_2 : decode cX8_requireRounding 2 = .ok (.if_icmp .lt 9, 3) := by decide +kernel
theorem dX8_requireRounding_5 : decode cX8_requireRounding 5 = .ok (.iload_n 1, 1) := by decide +kernel
theorem dX8_requireRounding_6 : decode cX8_requireRounding 6 = .ok (.bipush 60, 2) := by decide +kernel
theorem dX8_requireRounding_8 : decode cX8_requireRounding 8 = .ok (.if_icmp .le 14, 3) := by decide +kernel
theorem dX8_requireRounding_11 : decode cX8_requireRounding 11 = .ok (.new 61, 3) := by decide +kernel
theorem dX8_requireRounding_14 : decode cX8_requireRounding 14 = .ok (.dup, 1) := by decide +kernel
theorem dX8_requireRounding_15 : decode cX8_requireRounding 15 = .ok (.ldc_w 383, 3) := by decide +kernel
theorem dX8_requireRounding_18 : decode cX8_requireRounding 18 = .ok (.invokespecial 65, 3) := by decide +kernel
theorem dX8_requireRounding_21 : decode cX8_requireRounding 21 = .ok (.athrow, 1) := by decide +kernel
theorem dX8_requireRounding_22 : decode cX8_requireRounding 22 = .ok (.iload_n 2, 1) := by decide +kernel
theorem dX8_requireRounding_23 : decode cX8_requireRounding 23 = .ok (.bipush 117, 2) := by decide +kernel
theorem dX8_requireRounding_25 : decode cX8_requireRounding 25 = .ok (.if_icmp .eq 26, 3) := by decide +kernel
theorem dX8_requireRounding_28 : decode cX8_requireRounding 28 = .ok (.iload_n 2, 1) := by decide +kernel
theorem dX8_requireRounding_29 : decode cX8_requireRounding 29 = .ok (.bipush 100, 2) := by decide +kernel
theorem dX8_requireRounding_31 : decode cX8_requireRounding 31 = .ok (.if_icmp .eq 20, 3) := by decide +kernel
theorem dX8_requireRounding_34 : decode cX8_requireRounding 34 = .ok (.iload_n 2, 1) := by decide +kernel
theorem dX8_requireRounding_35 : decode cX8_requireRounding 35 = .ok (.bipush 110, 2) := by decide +kernel
theorem dX8_requireRounding_37 : decode cX8_requireRounding 37 = .ok (.if_icmp .eq 14, 3) := by decide +kernel
theorem dX8_requireRounding_40 : decode cX8_requireRounding 40 = .ok (.new 61, 3) := by decide +kernel
theorem dX8_requireRounding_43 : decode cX8_requireRounding 43 = .ok (.dup, 1) := by decide +kernel
theorem dX8_requireRounding_44 : decode cX8_requireRounding 44 = .ok (.ldc_w 385, 3) := by decide +kernel
theorem dX8_requireRounding_47 : decode cX8_requireRounding 47 = .ok (.invokespecial 65, 3) := by decide +kernel
theorem dX8_requireRounding_50 : decode cX8_requireRounding 50 = .ok (.athrow, 1) := by decide +kernel
theorem dX8_requireRounding_51 : decode cX8_requireRounding 51 = .ok (.iload_n 3, 1) := by decide +kernel
theorem dX8_requireRounding_52 : decode cX8_requireRounding 52 = .ok (.bipush 101, 2) := by decide +kernel
theorem dX8_requireRounding_54 : decode cX8_requireRounding 54 = .ok (.if_icmp .eq 26, 3) := by decide +kernel
theorem dX8_requireRounding_57 : decode cX8_requireRounding 57 = .ok (.iload_n 3, 1) := by decide +kernel
theorem dX8_requireRounding_58 : decode cX8_requireRounding 58 = .ok (.bipush 100, 2) := by decide +kernel
theorem dX8_requireRounding_60 : decode cX8_requireRounding 60 = .ok (.if_icmp .eq 20, 3) := by decide +kernel
theorem dX8_requireRounding_63 : decode cX8_requireRounding 63 = .ok (.iload_n 3, 1) := by decide +kernel
theorem dX8_requireRounding_64 : decode cX8_requireRounding 64 = .ok (.bipush 99, 2) := by decide +kernel
theorem dX8_requireRounding_66 : decode cX8_requireRounding 66 = .ok (.if_icmp .eq 14, 3) := by decide +kernel
theorem dX8_requireRounding_69 : decode cX8_requireRounding 69 = .ok (.new 61, 3) := by decide +kernel
theorem dX8_requireRounding_72 : decode cX8_requireRounding 72 = .ok (.dup, 1) := by decide +kernel
theorem dX8_requireRounding_73 : decode cX8_requireRounding 73 = .ok (.ldc_w 387, 3) := by decide +kernel
theorem dX8_requireRounding_76 : decode cX8_requireRounding 76 = .ok (.invokespecial 65, 3) := by decide +kernel
theorem dX8_requireRounding_79 : decode cX8_requireRounding 79 = .ok (.athrow, 1) := by decide +kernel
theorem dX8_requireRounding_80 : decode cX8_requireRounding 80 = .ok (.return_, 1) := by decide +kernel
theorem dX8_requireRate_0 : decode cX8_requireRate 0 = .ok (.iload_n 1, 1) := by decide +kernel
theorem dX8_requireRate_1 : decode cX8_requireRate 1 = .ok (.ifCond .lt 10, 3) := by decide +kernel
theorem dX8_requireRate_4 : decode cX8_requireRate 4 = .ok (.iload_n 1, 1) := by decide +kernel
theorem dX8_requireRate_5 : decode cX8_requireRate 5 = .ok (.ldc_w 389, 3) := by decide +kernel
theorem dX8_requireRate_8 : decode cX8_requireRate 8 = .ok (.if_icmp .le 14, 3) := by decide +kernel
theorem dX8_requireRate_11 : decode cX8_requireRate 11 = .ok (.new 61, 3) := by decide +kernel
theorem dX8_requireRate_14 : decode cX8_requireRate 14 = .ok (.dup, 1) := by decide +kernel
theorem dX8_requireRate_15 : decode cX8_requireRate 15 = .ok (.ldc_w 390, 3) := by decide +kernel
theorem dX8_requireRate_18 : decode cX8_requireRate 18 = .ok (.invokespecial 65, 3) := by decide +kernel
theorem dX8_requireRate_21 : decode cX8_requireRate 21 = .ok (.athrow, 1) := by decide +kernel
theorem dX8_requireRate_22 : decode cX8_requireRate 22 = .ok (.return_, 1) := by decide +kernel
theorem dX8_requireDay_0 : decode cX8_requireDay 0 = .ok (.iload_n 1, 1) := by decide +kernel
theorem dX8_requireDay_1 : decode cX8_requireDay 1 = .ok (.ifCond .lt 8, 3) := by decide +kernel
theorem dX8_requireDay_4 : decode cX8_requireDay 4 = .ok (.iload_n 1, 1) := by decide +kernel
theorem dX8_requireDay_5 : decode cX8_requireDay 5 = .ok (.iconst 5, 1) := by decide +kernel
theorem dX8_requireDay_6 : decode cX8_requireDay 6 = .ok (.if_icmp .lt 14, 3) := by decide +kernel
theorem dX8_requireDay_9 : decode cX8_requireDay 9 = .ok (.new 61, 3) := by decide +kernel
theorem dX8_requireDay_12 : decode cX8_requireDay 12 = .ok (.dup, 1) := by decide +kernel
theorem dX8_requireDay_13 : decode cX8_requireDay 13 = .ok (.ldc_w 392, 3) := by decide +kernel
theorem dX8_requireDay_16 : decode cX8_requireDay 16 = .ok (.invokespecial 65, 3) := by decide +kernel
theorem dX8_requireDay_19 : decode cX8_requireDay 19 = .ok (.athrow, 1) := by decide +kernel
theorem dX8_requireDay_20 : decode cX8_requireDay 20 = .ok (.return_, 1) := by decide +kernel
theorem dX8_requireOpen_0 : decode cX8_requireOpen 0 = .ok (.aload_n 1, 1) := by decide +kernel
theorem dX8_requireOpen_1 : decode cX8_requireOpen 1 = .ok (.invokevirtual 394, 3) := by decide +kernel
theorem dX8_requireOpen_4 : decode cX8_requireOpen 4 = .ok (.ifCond .ne 14, 3) := by decide +kernel
theorem dX8_requireOpen_7 : decode cX8_requireOpen 7 = .ok (.new 68, 3) := by decide +kernel
theorem dX8_requireOpen_10 : decode cX8_requireOpen 10 = .ok (.dup, 1) := by decide +kernel
theorem dX8_requireOpen_11 : decode cX8_requireOpen 11 = .ok (.ldc_w 397, 3) := by decide +kernel
theorem dX8_requireOpen_14 : decode cX8_requireOpen 14 = .ok (.invokespecial 72, 3) := by decide +kernel
theorem dX8_requireOpen_17 : decode cX8_requireOpen 17 = .ok (.athrow, 1) := by decide +kernel
theorem dX8_requireOpen_18 : decode cX8_requireOpen 18 = .ok (.return_, 1) := by decide +kernel
theorem dX8_requireRoomForEntry_0 : decode cX8_requireRoomForEntry 0 = .ok (.aload_n 0, 1) := by decide +kernel
theorem dX8_requireRoomForEntry_1 : decode cX8_requireRoomForEntry 1 = .ok (.getfield 10, 3) := by decide +kernel
theorem dX8_requireRoomForEntry_4 : decode cX8_requireRoomForEntry 4 = .ok (.getfield 170, 3) := by decide +kernel
theorem dX8_requireRoomForEntry_7 : decode cX8_requireRoomForEntry 7 = .ok (.invokevirtual 90, 3) := by decide +kernel
theorem dX8_requireRoomForEntry_10 : decode cX8_requireRoomForEntry 10 = .ok (.bipush 24, 2) := by decide +kernel
theorem dX8_requireRoomForEntry_12 : decode cX8_requireRoomForEntry 12 = .ok (.if_icmp .lt 14, 3) := by decide +kernel
theorem dX8_requireRoomForEntry_15 : decode cX8_requireRoomForEntry 15 = .ok (.new 68, 3) := by decide +kernel
theorem dX8_requireRoomForEntry_18 : decode cX8_requireRoomForEntry 18 = .ok (.dup, 1) := by decide +kernel
theorem dX8_requireRoomForEntry_19 : decode cX8_requireRoomForEntry 19 = .ok (.ldc_w 399, 3) := by decide +kernel
theorem dX8_requireRoomForEntry_22 : decode cX8_requireRoomForEntry 22 = .ok (.invokespecial 72, 3) := by decide +kernel
theorem dX8_requireRoomForEntry_25 : decode cX8_requireRoomForEntry 25 = .ok (.athrow, 1) := by decide +kernel
theorem dX8_requireRoomForEntry_26 : decode cX8_requireRoomForEntry 26 = .ok (.return_, 1) := by decide +kernel
theorem dX8_dayStart_0 : decode cX8_dayStart 0 = .ok (.iload_n 1, 1) := by decide +kernel
theorem dX8_dayStart_1 : decode cX8_dayStart 1 = .ok (.sipush 600, 3) := by decide +kernel
theorem dX8_dayStart_4 : decode cX8_dayStart 4 = .ok (.imul, 1) := by decide +kernel
theorem dX8_dayStart_5 : decode cX8_dayStart 5 = .ok (.ireturn, 1) := by decide +kernel
theorem dX8_dayEnd_0 : decode cX8_dayEnd 0 = .ok (.aload_n 0, 1) := by decide +kernel
theorem dX8_dayEnd_1 : decode cX8_dayEnd 1 = .ok (.iload_n 1, 1) := by decide +kernel
theorem dX8_dayEnd_2 : decode cX8_dayEnd 2 = .ok (.invokevirtual 232, 3) := by decide +kernel
theorem dX8_dayEnd_5 : decode cX8_dayEnd 5 = .ok (.sipush 600, 3) := by decide +kernel
theorem dX8_dayEnd_8 : decode cX8_dayEnd 8 = .ok (.iadd, 1) := by decide +kernel
theorem dX8_dayEnd_9 : decode cX8_dayEnd 9 = .ok (.aload_n 0, 1) := by decide +kernel
theorem dX8_dayEnd_10 : decode cX8_dayEnd 10 = .ok (.getfield 10, 3) := by decide +kernel
theorem dX8_dayEnd_13 : decode cX8_dayEnd 13 = .ok (.getfield 57, 3) := by decide +kernel
theorem dX8_dayEnd_16 : decode cX8_dayEnd 16 = .ok (.invokestatic 401, 3) := by decide +kernel
theorem dX8_dayEnd_19 : decode cX8_dayEnd 19 = .ok (.ireturn, 1) := by decide +kernel
theorem dX8_addEntryLines_0 : decode cX8_addEntryLines 0 = .ok (.iconst 0, 1) := by decide +kernel
theorem dX8_addEntryLines_1 : decode cX8_addEntryLines 1 = .ok (.istore_n 2, 1) := by decide +kernel
theorem dX8_addEntryLines_2 : decode cX8_addEntryLines 2 = .ok (.iload_n 2, 1) := by decide +kernel
theorem dX8_addEntryLines_3 : decode cX8_addEntryLines 3 = .ok (.aload_n 0, 1) := by decide +kernel
theorem dX8_addEntryLines_4 : decode cX8_addEntryLines 4 = .ok (.getfield 33, 3) := by decide +kernel
theorem dX8_addEntryLines_7 : decode cX8_addEntryLines 7 = .ok (.getfield 251, 3) := by decide +kernel
theorem dX8_addEntryLines_10 : decode cX8_addEntryLines 10 = .ok (.invokevirtual 90, 3) := by decide +kernel
theorem dX8_addEntryLines_13 : decode cX8_addEntryLines 13 = .ok (.if_icmp .ge 42, 3) := by decide +kernel
theorem dX8_addEntryLines_16 : decode cX8_addEntryLines 16 = .ok (.aload_n 0, 1) := by decide +kernel
theorem dX8_addEntryLines_17 : decode cX8_addEntryLines 17 = .ok (.getfield 33, 3) := by decide +kernel
theorem dX8_addEntryLines_20 : decode cX8_addEntryLines 20 = .ok (.getfield 251, 3) := by decide +kernel
theorem dX8_addEntryLines_23 : decode cX8_addEntryLines 23 = .ok (.iload_n 2, 1) := by decide +kernel
theorem dX8_addEntryLines_24 : decode cX8_addEntryLines 24 = .ok (.invokevirtual 373, 3) := by decide +kernel
theorem dX8_addEntryLines_27 : decode cX8_addEntryLines 27 = .ok (.checkcast 143, 3) := by decide +kernel
theorem dX8_addEntryLines_30 : decode cX8_addEntryLines 30 = .ok (.getfield 187, 3) := by decide +kernel
theorem dX8_addEntryLines_33 : decode cX8_addEntryLines 33 = .ok (.istore_n 3, 1) := by decide +kernel
theorem dX8_addEntryLines_34 : decode cX8_addEntryLines 34 = .ok (.aload_n 1, 1) := by decide +kernel
theorem dX8_addEntryLines_35 : decode cX8_addEntryLines 35 = .ok (.bipush 101, 2) := by decide +kernel
theorem dX8_addEntryLines_37 : decode cX8_addEntryLines 37 = .ok (.aload_n 0, 1) := by decide +kernel
theorem dX8_addEntryLines_38 : decode cX8_addEntryLines 38 = .ok (.getfield 33, 3) := by decide +kernel
theorem dX8_addEntryLines_41 : decode cX8_addEntryLines 41 = .ok (.iload_n 2, 1) := by decide +kernel
theorem dX8_addEntryLines_42 : decode cX8_addEntryLines 42 = .ok (.invokevirtual 225, 3) := by decide +kernel
theorem dX8_addEntryLines_45 : decode cX8_addEntryLines 45 = .ok (.iload_n 3, 1) := by decide +kernel
theorem dX8_addEntryLines_46 : decode cX8_addEntryLines 46 = .ok (.invokevirtual 407, 3) := by decide +kernel
theorem dX8_addEntryLines_49 : decode cX8_addEntryLines 49 = .ok (.iinc 2 1, 3) := by decide +kernel
theorem dX8_addEntryLines_52 : decode cX8_addEntryLines 52 = .ok (.goto (-50), 3) := by decide +kernel
theorem dX8_addEntryLines_55 : decode cX8_addEntryLines 55 = .ok (.return_, 1) := by decide +kernel
theorem dX8_addDayLines_0 : decode cX8_addDayLines 0 = .ok (.iconst 0, 1) := by decide +kernel
theorem dX8_addDayLines_1 : decode cX8_addDayLines 1 = .ok (.istore_n 2, 1) := by decide +kernel
theorem dX8_addDayLines_2 : decode cX8_addDayLines 2 = .ok (.iload_n 2, 1) := by decide +kernel
theorem dX8_addDayLines_3 : decode cX8_addDayLines 3 = .ok (.iconst 5, 1) := by decide +kernel
theorem dX8_addDayLines_4 : decode cX8_addDayLines 4 = .ok (.if_icmp .ge 37, 3) := by decide +kernel
theorem dX8_addDayLines_7 : decode cX8_addDayLines 7 = .ok (.aload_n 0, 1) := by decide +kernel
theorem dX8_addDayLines_8 : decode cX8_addDayLines 8 = .ok (.getfield 33, 3) := by decide +kernel
theorem dX8_addDayLines_11 : decode cX8_addDayLines 11 = .ok (.iload_n 2, 1) := by decide +kernel
theorem dX8_addDayLines_12 : decode cX8_addDayLines 12 = .ok (.invokevirtual 411, 3) := by decide +kernel
theorem dX8_addDayLines_15 : decode cX8_addDayLines 15 = .ok (.istore_n 3, 1) := by decide +kernel
theorem dX8_addDayLines_16 : decode cX8_addDayLines 16 = .ok (.iload_n 3, 1) := by decide +kernel
theorem dX8_addDayLines_17 : decode cX8_addDayLines 17 = .ok (.ifCond .le 18, 3) := by decide +kernel
theorem dX8_addDayLines_20 : decode cX8_addDayLines 20 = .ok (.aload_n 1, 1) := by decide +kernel
theorem dX8_addDayLines_21 : decode cX8_addDayLines 21 = .ok (.bipush 100, 2) := by decide +kernel
theorem dX8_addDayLines_23 : decode cX8_addDayLines 23 = .ok (.aload_n 1, 1) := by decide +kernel
theorem dX8_addDayLines_24 : decode cX8_addDayLines 24 = .ok (.getfield 414, 3) := by decide +kernel
theorem dX8_addDayLines_27 : decode cX8_addDayLines 27 = .ok (.iload_n 3, 1) := by decide +kernel
theorem dX8_addDayLines_28 : decode cX8_addDayLines 28 = .ok (.invokevirtual 415, 3) := by decide +kernel
theorem dX8_addDayLines_31 : decode cX8_addDayLines 31 = .ok (.iload_n 2, 1) := by decide +kernel
theorem dX8_addDayLines_32 : decode cX8_addDayLines 32 = .ok (.invokevirtual 407, 3) := by decide +kernel
theorem dX8_addDayLines_35 : decode cX8_addDayLines 35 = .ok (.iinc 2 1, 3) := by decide +kernel
theorem dX8_addDayLines_38 : decode cX8_addDayLines 38 = .ok (.goto (-36), 3) := by decide +kernel
theorem dX8_addDayLines_41 : decode cX8_addDayLines 41 = .ok (.return_, 1) := by decide +kernel
theorem dX8_addCorrectionLines_0 : decode cX8_addCorrectionLines 0 = .ok (.iconst 0, 1) := by decide +kernel
theorem dX8_addCorrectionLines_1 : decode cX8_addCorrectionLines 1 = .ok (.istore_n 2, 1) := by decide +kernel
theorem dX8_addCorrectionLines_2 : decode cX8_addCorrectionLines 2 = .ok (.iload_n 2, 1) := by decide +kernel
theorem dX8_addCorrectionLines_3 : decode cX8_addCorrectionLines 3 = .ok (.aload_n 0, 1) := by decide +kernel
theorem dX8_addCorrectionLines_4 : decode cX8_addCorrectionLines 4 = .ok (.getfield 47, 3) := by decide +kernel
theorem dX8_addCorrectionLines_7 : decode cX8_addCorrectionLines 7 = .ok (.invokevirtual 90, 3) := by decide +kernel
theorem dX8_addCorrectionLines_10 : decode cX8_addCorrectionLines 10 = .ok (.if_icmp .ge 54, 3) := by decide +kernel
theorem dX8_addCorrectionLines_13 : decode cX8_addCorrectionLines 13 = .ok (.aload_n 0, 1) := by decide +kernel
theorem dX8_addCorrectionLines_14 : decode cX8_addCorrectionLines 14 = .ok (.getfield 47, 3) := by decide +kernel
theorem dX8_addCorrectionLines_17 : decode cX8_addCorrectionLines 17 = .ok (.iload_n 2, 1) := by decide +kernel
theorem dX8_addCorrectionLines_18 : decode cX8_addCorrectionLines 18 = .ok (.invokevirtual 373, 3) := by decide +kernel
theorem dX8_addCorrectionLines_21 : decode cX8_addCorrectionLines 21 = .ok (.checkcast 321, 3) := by decide +kernel
theorem dX8_addCorrectionLines_24 : decode cX8_addCorrectionLines 24 = .ok (.astore_n 3, 1) := by decide +kernel
theorem dX8_addCorrectionLines_25 : decode cX8_addCorrectionLines 25 = .ok (.aload_n 3, 1) := by decide +kernel
theorem dX8_addCorrectionLines_26 : decode cX8_addCorrectionLines 26 = .ok (.aload_n 1, 1) := by decide +kernel
theorem dX8_addCorrectionLines_27 : decode cX8_addCorrectionLines 27 = .ok (.getfield 414, 3) := by decide +kernel
theorem dX8_addCorrectionLines_30 : decode cX8_addCorrectionLines 30 = .ok (.invokevirtual 418, 3) := by decide +kernel
theorem dX8_addCorrectionLines_33 : decode cX8_addCorrectionLines 33 = .ok (.ifCond .eq 25, 3) := by decide +kernel
theorem dX8_addCorrectionLines_36 : decode cX8_addCorrectionLines 36 = .ok (.aload_n 1, 1) := by decide +kernel
theorem dX8_addCorrectionLines_37 : decode cX8_addCorrectionLines 37 = .ok (.bipush 99, 2) := by decide +kernel
theorem dX8_addCorrectionLines_39 : decode cX8_addCorrectionLines 39 = .ok (.aload_n 3, 1) := by decide +kernel
theorem dX8_addCorrectionLines_40 : decode cX8_addCorrectionLines 40 = .ok (.getfield 421, 3) := by decide +kernel
theorem dX8_addCorrectionLines_43 : decode cX8_addCorrectionLines 43 = .ok (.aload_n 3, 1) := by decide +kernel
theorem dX8_addCorrectionLines_44 : decode cX8_addCorrectionLines 44 = .ok (.getfield 422, 3) := by decide +kernel
theorem dX8_addCorrectionLines_47 : decode cX8_addCorrectionLines 47 = .ok (.getfield 187, 3) := by decide +kernel
theorem dX8_addCorrectionLines_50 : decode cX8_addCorrectionLines 50 = .ok (.invokevirtual 407, 3) := by decide +kernel
theorem dX8_addCorrectionLines_53 : decode cX8_addCorrectionLines 53 = .ok (.aload_n 3, 1) := by decide +kernel
theorem dX8_addCorrectionLines_54 : decode cX8_addCorrectionLines 54 = .ok (.iconst 1, 1) := by decide +kernel
theorem dX8_addCorrectionLines_55 : decode cX8_addCorrectionLines 55 = .ok (.putfield 426, 3) := by decide +kernel
theorem dX8_addCorrectionLines_58 : decode cX8_addCorrectionLines 58 = .ok (.iinc 2 1, 3) := by decide +kernel
theorem dX8_addCorrectionLines_61 : decode cX8_addCorrectionLines 61 = .ok (.goto (-59), 3) := by decide +kernel
theorem dX8_addCorrectionLines_64 : decode cX8_addCorrectionLines 64 = .ok (.return_, 1) := by decide +kernel
theorem dX8_hasWaitingCorrection_0 : decode cX8_hasWaitingCorrection 0 = .ok (.iconst 0, 1) := by decide +kernel
theorem dX8_hasWaitingCorrection_1 : decode cX8_hasWaitingCorrection 1 = .ok (.istore_n 2, 1) := by decide +kernel
theorem dX8_hasWaitingCorrection_2 : decode cX8_hasWaitingCorrection 2 = .ok (.iload_n 2, 1) := by decide +kernel
theorem dX8_hasWaitingCorrection_3 : decode cX8_hasWaitingCorrection 3 = .ok (.aload_n 0, 1) := by decide +kernel
theorem dX8_hasWaitingCorrection_4 : decode cX8_hasWaitingCorrection 4 = .ok (.getfield 47, 3) := by decide +kernel
theorem dX8_hasWaitingCorrection_7 : decode cX8_hasWaitingCorrection 7 = .ok (.invokevirtual 90, 3) := by decide +kernel
theorem dX8_hasWaitingCorrection_10 : decode cX8_hasWaitingCorrection 10 = .ok (.if_icmp .ge 29, 3) := by decide +kernel
theorem dX8_hasWaitingCorrection_13 : decode cX8_hasWaitingCorrection 13 = .ok (.aload_n 0, 1) := by decide +kernel
theorem dX8_hasWaitingCorrection_14 : decode cX8_hasWaitingCorrection 14 = .ok (.getfield 47, 3) := by decide +kernel
theorem dX8_hasWaitingCorrection_17 : decode cX8_hasWaitingCorrection 17 = .ok (.iload_n 2, 1) := by decide +kernel
theorem dX8_hasWaitingCorrection_18 : decode cX8_hasWaitingCorrection 18 = .ok (.invokevirtual 373, 3) := by decide +kernel
theorem dX8_hasWaitingCorrection_21 : decode cX8_hasWaitingCorrection 21 = .ok (.checkcast 321, 3) := by decide +kernel
theorem dX8_hasWaitingCorrection_24 : decode cX8_hasWaitingCorrection 24 = .ok (.aload_n 1, 1) := by decide +kernel
theorem dX8_hasWaitingCorrection_25 : decode cX8_hasWaitingCorrection 25 = .ok (.invokevirtual 418, 3) := by decide +kernel
theorem dX8_hasWaitingCorrection_28 : decode cX8_hasWaitingCorrection 28 = .ok (.ifCond .eq 5, 3) := by decide +kernel
theorem dX8_hasWaitingCorrection_31 : decode cX8_hasWaitingCorrection 31 = .ok (.iconst 1, 1) := by decide +kernel
theorem dX8_hasWaitingCorrection_32 : decode cX8_hasWaitingCorrection 32 = .ok (.ireturn, 1) := by decide +kernel
theorem dX8_hasWaitingCorrection_33 : decode cX8_hasWaitingCorrection 33 = .ok (.iinc 2 1, 3) := by decide +kernel
theorem dX8_hasWaitingCorrection_36 : decode cX8_hasWaitingCorrection 36 = .ok (.goto (-34), 3) := by decide +kernel
theorem dX8_hasWaitingCorrection_39 : decode cX8_hasWaitingCorrection 39 = .ok (.iconst 0, 1) := by decide +kernel
theorem dX8_hasWaitingCorrection_40 : decode cX8_hasWaitingCorrection 40 = .ok (.ireturn, 1) := by decide +kernel
theorem dX8_waitingMinutes_0 : decode cX8_waitingMinutes 0 = .ok (.iconst 0, 1) := by decide +kernel
theorem dX8_waitingMinutes_1 : decode cX8_waitingMinutes 1 = .ok (.istore_n 2, 1) := by decide +kernel
theorem dX8_waitingMinutes_2 : decode cX8_waitingMinutes 2 = .ok (.iconst 0, 1) := by decide +kernel
theorem dX8_waitingMinutes_3 : decode cX8_waitingMinutes 3 = .ok (.istore_n 3, 1) := by decide +kernel
theorem dX8_waitingMinutes_4 : decode cX8_waitingMinutes 4 = .ok (.iload_n 3, 1) := by decide +kernel
theorem dX8_waitingMinutes_5 : decode cX8_waitingMinutes 5 = .ok (.aload_n 0, 1) := by decide +kernel
theorem dX8_waitingMinutes_6 : decode cX8_waitingMinutes 6 = .ok (.getfield 47, 3) := by decide +kernel
theorem dX8_waitingMinutes_9 : decode cX8_waitingMinutes 9 = .ok (.invokevirtual 90, 3) := by decide +kernel
theorem dX8_waitingMinutes_12 : decode cX8_waitingMinutes 12 = .ok (.if_icmp .ge 39, 3) := by decide +kernel
theorem dX8_waitingMinutes_15 : decode cX8_waitingMinutes 15 = .ok (.aload_n 0, 1) := by decide +kernel
theorem dX8_waitingMinutes_16 : decode cX8_waitingMinutes 16 = .ok (.getfield 47, 3) := by decide +kernel
theorem dX8_waitingMinutes_19 : decode cX8_waitingMinutes 19 = .ok (.iload_n 3, 1) := by decide +kernel
theorem dX8_waitingMinutes_20 : decode cX8_waitingMinutes 20 = .ok (.invokevirtual 373, 3) := by decide +kernel
theorem dX8_waitingMinutes_23 : decode cX8_waitingMinutes 23 = .ok (.checkcast 321, 3) := by decide +kernel
theorem dX8_waitingMinutes_26 : decode cX8_waitingMinutes 26 = .ok (.astore 4, 2) := by decide +kernel
theorem dX8_waitingMinutes_28 : decode cX8_waitingMinutes 28 = .ok (.aload 4, 2) := by decide +kernel
theorem dX8_waitingMinutes_30 : decode cX8_waitingMinutes 30 = .ok (.aload_n 1, 1) := by decide +kernel
theorem dX8_waitingMinutes_31 : decode cX8_waitingMinutes 31 = .ok (.invokevirtual 418, 3) := by decide +kernel
theorem dX8_waitingMinutes_34 : decode cX8_waitingMinutes 34 = .ok (.ifCond .eq 11, 3) := by decide +kernel
theorem dX8_waitingMinutes_37 : decode cX8_waitingMinutes 37 = .ok (.iload_n 2, 1) := by decide +kernel
theorem dX8_waitingMinutes_38 : decode cX8_waitingMinutes 38 = .ok (.aload 4, 2) := by decide +kernel
theorem dX8_waitingMinutes_40 : decode cX8_waitingMinutes 40 = .ok (.getfield 421, 3) := by decide +kernel
theorem dX8_waitingMinutes_43 : decode cX8_waitingMinutes 43 = .ok (.iadd, 1) := by decide +kernel
theorem dX8_waitingMinutes_44 : decode cX8_waitingMinutes 44 = .ok (.istore_n 2, 1) := by decide +kernel
theorem dX8_waitingMinutes_45 : decode cX8_waitingMinutes 45 = .ok (.iinc 3 1, 3) := by decide +kernel
theorem dX8_waitingMinutes_48 : decode cX8_waitingMinutes 48 = .ok (.goto (-44), 3) := by decide +kernel
theorem dX8_waitingMinutes_51 : decode cX8_waitingMinutes 51 = .ok (.iload_n 2, 1) := by decide +kernel
theorem dX8_waitingMinutes_52 : decode cX8_waitingMinutes 52 = .ok (.ireturn, 1) := by decide +kernel
theorem dX8_invoicedMinutes_0 : decode cX8_invoicedMinutes 0 = .ok (.iconst 0, 1) := by decide +kernel
theorem dX8_invoicedMinutes_1 : decode cX8_invoicedMinutes 1 = .ok (.istore_n 2, 1) := by decide +kernel
theorem dX8_invoicedMinutes_2 : decode cX8_invoicedMinutes 2 = .ok (.iconst 0, 1) := by decide +kernel
theorem dX8_invoicedMinutes_3 : decode cX8_invoicedMinutes 3 = .ok (.istore_n 3, 1) := by decide +kernel
theorem dX8_invoicedMinutes_4 : decode cX8_invoicedMinutes 4 = .ok (.iload_n 3, 1) := by decide +kernel
theorem dX8_invoicedMinutes_5 : decode cX8_invoicedMinutes 5 = .ok (.aload_n 0, 1) := by decide +kernel
theorem dX8_invoicedMinutes_6 : decode cX8_invoicedMinutes 6 = .ok (.getfield 44, 3) := by decide +kernel
theorem dX8_invoicedMinutes_9 : decode cX8_invoicedMinutes 9 = .ok (.invokevirtual 90, 3) := by decide +kernel
theorem dX8_invoicedMinutes_12 : decode cX8_invoicedMinutes 12 = .ok (.if_icmp .ge 39, 3) := by decide +kernel
theorem dX8_invoicedMinutes_15 : decode cX8_invoicedMinutes 15 = .ok (.aload_n 0, 1) := by decide +kernel
theorem dX8_invoicedMinutes_16 : decode cX8_invoicedMinutes 16 = .ok (.getfield 44, 3) := by decide +kernel
theorem dX8_invoicedMinutes_19 : decode cX8_invoicedMinutes 19 = .ok (.iload_n 3, 1) := by decide +kernel
theorem dX8_invoicedMinutes_20 : decode cX8_invoicedMinutes 20 = .ok (.invokevirtual 373, 3) := by decide +kernel
theorem dX8_invoicedMinutes_23 : decode cX8_invoicedMinutes 23 = .ok (.checkcast 264, 3) := by decide +kernel
theorem dX8_invoicedMinutes_26 : decode cX8_invoicedMinutes 26 = .ok (.astore 4, 2) := by decide +kernel
theorem dX8_invoicedMinutes_28 : decode cX8_invoicedMinutes 28 = .ok (.aload 4, 2) := by decide +kernel
theorem dX8_invoicedMinutes_30 : decode cX8_invoicedMinutes 30 = .ok (.getfield 414, 3) := by decide +kernel
theorem dX8_invoicedMinutes_33 : decode cX8_invoicedMinutes 33 = .ok (.aload_n 1, 1) := by decide +kernel
theorem dX8_invoicedMinutes_34 : decode cX8_invoicedMinutes 34 = .ok (.if_acmp .ne 11, 3) := by decide +kernel
theorem dX8_invoicedMinutes_37 : decode cX8_invoicedMinutes 37 = .ok (.iload_n 2, 1) := by decide +kernel
theorem dX8_invoicedMinutes_38 : decode cX8_invoicedMinutes 38 = .ok (.aload 4, 2) := by decide +kernel
theorem dX8_invoicedMinutes_40 : decode cX8_invoicedMinutes 40 = .ok (.getfield 430, 3) := by decide +kernel
theorem dX8_invoicedMinutes_43 : decode cX8_invoicedMinutes 43 = .ok (.iadd, 1) := by decide +kernel
theorem dX8_invoicedMinutes_44 : decode cX8_invoicedMinutes 44 = .ok (.istore_n 2, 1) := by decide +kernel
theorem dX8_invoicedMinutes_45 : decode cX8_invoicedMinutes 45 = .ok (.iinc 3 1, 3) := by decide +kernel
theorem dX8_invoicedMinutes_48 : decode cX8_invoicedMinutes 48 = .ok (.goto (-44), 3) := by decide +kernel
theorem dX8_invoicedMinutes_51 : decode cX8_invoicedMinutes 51 = .ok (.iload_n 2, 1) := by decide +kernel
theorem dX8_invoicedMinutes_52 : decode cX8_invoicedMinutes 52 = .ok (.ireturn, 1) := by decide +kernel
theorem dX8_entriesHold_0 : decode cX8_entriesHold 0 = .ok (.iconst 0, 1) := by decide +kernel
theorem dX8_entriesHold_1 : decode cX8_entriesHold 1 = .ok (.istore_n 1, 1) := by decide +kernel
theorem dX8_entriesHold_2 : decode cX8_entriesHold 2 = .ok (.iload_n 1, 1) := by decide +kernel
theorem dX8_entriesHold_3 : decode cX8_entriesHold 3 = .ok (.aload_n 0, 1) := by decide +kernel
theorem dX8_entriesHold_4 : decode cX8_entriesHold 4 = .ok (.getfield 10, 3) := by decide +kernel
theorem dX8_entriesHold_7 : decode cX8_entriesHold 7 = .ok (.getfield 170, 3) := by decide +kernel
theorem dX8_entriesHold_10 : decode cX8_entriesHold 10 = .ok (.invokevirtual 90, 3) := by decide +kernel
theorem dX8_entriesHold_13 : decode cX8_entriesHold 13 = .ok (.if_icmp .ge 91, 3) := by decide +kernel
theorem dX8_entriesHold_16 : decode cX8_entriesHold 16 = .ok (.aload_n 0, 1) := by decide +kernel
theorem dX8_entriesHold_17 : decode cX8_entriesHold 17 = .ok (.getfield 10, 3) := by decide +kernel
theorem dX8_entriesHold_20 : decode cX8_entriesHold 20 = .ok (.getfield 170, 3) := by decide +kernel
theorem dX8_entriesHold_23 : decode cX8_entriesHold 23 = .ok (.iload_n 1, 1) := by decide +kernel
theorem dX8_entriesHold_24 : decode cX8_entriesHold 24 = .ok (.invokevirtual 373, 3) := by decide +kernel
theorem dX8_entriesHold_27 : decode cX8_entriesHold 27 = .ok (.checkcast 143, 3) := by decide +kernel
theorem dX8_entriesHold_30 : decode cX8_entriesHold 30 = .ok (.astore_n 2, 1) := by decide +kernel
theorem dX8_entriesHold_31 : decode cX8_entriesHold 31 = .ok (.aload_n 2, 1) := by decide +kernel
theorem dX8_entriesHold_32 : decode cX8_entriesHold 32 = .ok (.getfield 187, 3) := by decide +kernel
theorem dX8_entriesHold_35 : decode cX8_entriesHold 35 = .ok (.iload_n 1, 1) := by decide +kernel
theorem dX8_entriesHold_36 : decode cX8_entriesHold 36 = .ok (.if_icmp .ne 35, 3) := by decide +kernel
theorem dX8_entriesHold_39 : decode cX8_entriesHold 39 = .ok (.aload_n 2, 1) := by decide +kernel
theorem dX8_entriesHold_40 : decode cX8_entriesHold 40 = .ok (.getfield 152, 3) := by decide +kernel
theorem dX8_entriesHold_43 : decode cX8_entriesHold 43 = .ok (.ifCond .lt 28, 3) := by decide +kernel
theorem dX8_entriesHold_46 : decode cX8_entriesHold 46 = .ok (.aload_n 2, 1) := by decide +kernel
theorem dX8_entriesHold_47 : decode cX8_entriesHold 47 = .ok (.getfield 149, 3) := by decide +kernel
theorem dX8_entriesHold_50 : decode cX8_entriesHold 50 = .ok (.aload_n 2, 1) := by decide +kernel
theorem dX8_entriesHold_51 : decode cX8_entriesHold 51 = .ok (.getfield 152, 3) := by decide +kernel
theorem dX8_entriesHold_54 : decode cX8_entriesHold 54 = .ok (.if_icmp .lt 17, 3) := by decide +kernel
theorem dX8_entriesHold_57 : decode cX8_entriesHold 57 = .ok (.aload_n 2, 1) := by decide +kernel
theorem dX8_entriesHold_58 : decode cX8_entriesHold 58 = .ok (.getfield 149, 3) := by decide +kernel
theorem dX8_entriesHold_61 : decode cX8_entriesHold 61 = .ok (.aload_n 0, 1) := by decide +kernel
theorem dX8_entriesHold_62 : decode cX8_entriesHold 62 = .ok (.getfield 10, 3) := by decide +kernel
theorem dX8_entriesHold_65 : decode cX8_entriesHold 65 = .ok (.getfield 57, 3) := by decide +kernel
theorem dX8_entriesHold_68 : decode cX8_entriesHold 68 = .ok (.if_icmp .le 5, 3) := by decide +kernel
theorem dX8_entriesHold_71 : decode cX8_entriesHold 71 = .ok (.iconst 0, 1) := by decide +kernel
theorem dX8_entriesHold_72 : decode cX8_entriesHold 72 = .ok (.ireturn, 1) := by decide +kernel
theorem dX8_entriesHold_73 : decode cX8_entriesHold 73 = .ok (.aload_n 2, 1) := by decide +kernel
theorem dX8_entriesHold_74 : decode cX8_entriesHold 74 = .ok (.getfield 142, 3) := by decide +kernel
theorem dX8_entriesHold_77 : decode cX8_entriesHold 77 = .ok (.bipush 114, 2) := by decide +kernel
theorem dX8_entriesHold_79 : decode cX8_entriesHold 79 = .ok (.if_icmp .ne 19, 3) := by decide +kernel
theorem dX8_entriesHold_82 : decode cX8_entriesHold 82 = .ok (.aload_n 2, 1) := by decide +kernel
theorem dX8_entriesHold_83 : decode cX8_entriesHold 83 = .ok (.getfield 149, 3) := by decide +kernel
theorem dX8_entriesHold_86 : decode cX8_entriesHold 86 = .ok (.aload_n 0, 1) := by decide +kernel
theorem dX8_entriesHold_87 : decode cX8_entriesHold 87 = .ok (.getfield 10, 3) := by decide +kernel
theorem dX8_entriesHold_90 : decode cX8_entriesHold 90 = .ok (.getfield 57, 3) := by decide +kernel
theorem dX8_entriesHold_93 : decode cX8_entriesHold 93 = .ok (.if_icmp .eq 5, 3) := by decide +kernel
theorem dX8_entriesHold_96 : decode cX8_entriesHold 96 = .ok (.iconst 0, 1) := by decide +kernel
theorem dX8_entriesHold_97 : decode cX8_entriesHold 97 = .ok (.ireturn, 1) := by decide +kernel
theorem dX8_entriesHold_98 : decode cX8_entriesHold 98 = .ok (.iinc 1 1, 3) := by decide +kernel
theorem dX8_entriesHold_101 : decode cX8_entriesHold 101 = .ok (.goto (-99), 3) := by decide +kernel
theorem dX8_entriesHold_104 : decode cX8_entriesHold 104 = .ok (.aload_n 0, 1) := by decide +kernel
theorem dX8_entriesHold_105 : decode cX8_entriesHold 105 = .ok (.getfield 10, 3) := by decide +kernel
theorem dX8_entriesHold_108 : decode cX8_entriesHold 108 = .ok (.getfield 57, 3) := by decide +kernel
theorem dX8_entriesHold_111 : decode cX8_entriesHold 111 = .ok (.sipush 2999, 3) := by decide +kernel
theorem dX8_entriesHold_114 : decode cX8_entriesHold 114 = .ok (.if_icmp .gt 33, 3) := by decide +kernel
theorem dX8_entriesHold_117 : decode cX8_entriesHold 117 = .ok (.aload_n 0, 1) := by decide +kernel
theorem dX8_entriesHold_118 : decode cX8_entriesHold 118 = .ok (.getfield 10, 3) := by decide +kernel
theorem dX8_entriesHold_121 : decode cX8_entriesHold 121 = .ok (.getfield 170, 3) := by decide +kernel
theorem dX8_entriesHold_124 : decode cX8_entriesHold 124 = .ok (.invokevirtual 90, 3) := by decide +kernel
theorem dX8_entriesHold_127 : decode cX8_entriesHold 127 = .ok (.bipush 24, 2) := by decide +kernel
theorem dX8_entriesHold_129 : decode cX8_entriesHold 129 = .ok (.if_icmp .gt 18, 3) := by decide +kernel
theorem dX8_entriesHold_132 : decode cX8_entriesHold 132 = .ok (.aload_n 0, 1) := by decide +kernel
theorem dX8_entriesHold_133 : decode cX8_entriesHold 133 = .ok (.getfield 10, 3) := by decide +kernel
theorem dX8_entriesHold_136 : decode cX8_entriesHold 136 = .ok (.invokevirtual 129, 3) := by decide +kernel
theorem dX8_entriesHold_139 : decode cX8_entriesHold 139 = .ok (.iconst 4, 1) := by decide +kernel
theorem dX8_entriesHold_140 : decode cX8_entriesHold 140 = .ok (.if_icmp .gt 7, 3) := by decide +kernel
theorem dX8_entriesHold_143 : decode cX8_entriesHold 143 = .ok (.iconst 1, 1) := by decide +kernel
theorem dX8_entriesHold_144 : decode cX8_entriesHold 144 = .ok (.goto 4, 3) := by decide +kernel
theorem dX8_entriesHold_147 : decode cX8_entriesHold 147 = .ok (.iconst 0, 1) := by decide +kernel
theorem dX8_entriesHold_148 : decode cX8_entriesHold 148 = .ok (.ireturn, 1) := by decide +kernel
theorem dX8_clientsHold_0 : decode cX8_clientsHold 0 = .ok (.iconst 0, 1) := by decide +kernel
theorem dX8_clientsHold_1 : decode cX8_clientsHold 1 = .ok (.istore_n 1, 1) := by decide +kernel
theorem dX8_clientsHold_2 : decode cX8_clientsHold 2 = .ok (.iload_n 1, 1) := by decide +kernel
theorem dX8_clientsHold_3 : decode cX8_clientsHold 3 = .ok (.aload_n 0, 1) := by decide +kernel
theorem dX8_clientsHold_4 : decode cX8_clientsHold 4 = .ok (.getfield 40, 3) := by decide +kernel
theorem dX8_clientsHold_7 : decode cX8_clientsHold 7 = .ok (.invokevirtual 90, 3) := by decide +kernel
theorem dX8_clientsHold_10 : decode cX8_clientsHold 10 = .ok (.if_icmp .ge 59, 3) := by decide +kernel
theorem dX8_clientsHold_13 : decode cX8_clientsHold 13 = .ok (.aload_n 0, 1) := by decide +kernel
theorem dX8_clientsHold_14 : decode cX8_clientsHold 14 = .ok (.getfield 40, 3) := by decide +kernel
theorem dX8_clientsHold_17 : decode cX8_clientsHold 17 = .ok (.iload_n 1, 1) := by decide +kernel
theorem dX8_clientsHold_18 : decode cX8_clientsHold 18 = .ok (.invokevirtual 373, 3) := by decide +kernel
theorem dX8_clientsHold_21 : decode cX8_clientsHold 21 = .ok (.checkcast 96, 3) := by decide +kernel
theorem dX8_clientsHold_24 : decode cX8_clientsHold 24 = .ok (.astore_n 2, 1) := by decide +kernel
theorem dX8_clientsHold_25 : decode cX8_clientsHold 25 = .ok (.aload_n 0, 1) := by decide +kernel
theorem dX8_clientsHold_26 : decode cX8_clientsHold 26 = .ok (.getfield 33, 3) := by decide +kernel
theorem dX8_clientsHold_29 : decode cX8_clientsHold 29 = .ok (.aload_n 2, 1) := by decide +kernel
theorem dX8_clientsHold_30 : decode cX8_clientsHold 30 = .ok (.iconst 1, 1) := by decide +kernel
theorem dX8_clientsHold_31 : decode cX8_clientsHold 31 = .ok (.invokevirtual 218, 3) := by decide +kernel
theorem dX8_clientsHold_34 : decode cX8_clientsHold 34 = .ok (.aload_n 2, 1) := by decide +kernel
theorem dX8_clientsHold_35 : decode cX8_clientsHold 35 = .ok (.getfield 200, 3) := by decide +kernel
theorem dX8_clientsHold_38 : decode cX8_clientsHold 38 = .ok (.iload_n 1, 1) := by decide +kernel
theorem dX8_clientsHold_39 : decode cX8_clientsHold 39 = .ok (.if_icmp .ne 22, 3) := by decide +kernel
theorem dX8_clientsHold_42 : decode cX8_clientsHold 42 = .ok (.aload_n 0, 1) := by decide +kernel
theorem dX8_clientsHold_43 : decode cX8_clientsHold 43 = .ok (.getfield 33, 3) := by decide +kernel
theorem dX8_clientsHold_46 : decode cX8_clientsHold 46 = .ok (.aload_n 2, 1) := by decide +kernel
theorem dX8_clientsHold_47 : decode cX8_clientsHold 47 = .ok (.invokevirtual 242, 3) := by decide +kernel
theorem dX8_clientsHold_50 : decode cX8_clientsHold 50 = .ok (.aload_n 0, 1) := by decide +kernel
theorem dX8_clientsHold_51 : decode cX8_clientsHold 51 = .ok (.getfield 33, 3) := by decide +kernel
theorem dX8_clientsHold_54 : decode cX8_clientsHold 54 = .ok (.aload_n 2, 1) := by decide +kernel
theorem dX8_clientsHold_55 : decode cX8_clientsHold 55 = .ok (.invokevirtual 246, 3) := by decide +kernel
theorem dX8_clientsHold_58 : decode cX8_clientsHold 58 = .ok (.if_icmp .eq 5, 3) := by decide +kernel
theorem dX8_clientsHold_61 : decode cX8_clientsHold 61 = .ok (.iconst 0, 1) := by decide +kernel
theorem dX8_clientsHold_62 : decode cX8_clientsHold 62 = .ok (.ireturn, 1) := by decide +kernel
theorem dX8_clientsHold_63 : decode cX8_clientsHold 63 = .ok (.iinc 1 1, 3) := by decide +kernel
theorem dX8_clientsHold_66 : decode cX8_clientsHold 66 = .ok (.goto (-64), 3) := by decide +kernel
theorem dX8_clientsHold_69 : decode cX8_clientsHold 69 = .ok (.aload_n 0, 1) := by decide +kernel
theorem dX8_clientsHold_70 : decode cX8_clientsHold 70 = .ok (.getfield 40, 3) := by decide +kernel
theorem dX8_clientsHold_73 : decode cX8_clientsHold 73 = .ok (.invokevirtual 90, 3) := by decide +kernel
theorem dX8_clientsHold_76 : decode cX8_clientsHold 76 = .ok (.iconst 5, 1) := by decide +kernel
theorem dX8_clientsHold_77 : decode cX8_clientsHold 77 = .ok (.if_icmp .gt 7, 3) := by decide +kernel
theorem dX8_clientsHold_80 : decode cX8_clientsHold 80 = .ok (.iconst 1, 1) := by decide +kernel
theorem dX8_clientsHold_81 : decode cX8_clientsHold 81 = .ok (.goto 4, 3) := by decide +kernel
theorem dX8_clientsHold_84 : decode cX8_clientsHold 84 = .ok (.iconst 0, 1) := by decide +kernel
theorem dX8_clientsHold_85 : decode cX8_clientsHold 85 = .ok (.ireturn, 1) := by decide +kernel
theorem dX8_correctionsHold_0 : decode cX8_correctionsHold 0 = .ok (.iconst 0, 1) := by decide +kernel
theorem dX8_correctionsHold_1 : decode cX8_correctionsHold 1 = .ok (.istore_n 1, 1) := by decide +kernel
theorem dX8_correctionsHold_2 : decode cX8_correctionsHold 2 = .ok (.iload_n 1, 1) := by decide +kernel
theorem dX8_correctionsHold_3 : decode cX8_correctionsHold 3 = .ok (.aload_n 0, 1) := by decide +kernel
theorem dX8_correctionsHold_4 : decode cX8_correctionsHold 4 = .ok (.getfield 47, 3) := by decide +kernel
theorem dX8_correctionsHold_7 : decode cX8_correctionsHold 7 = .ok (.invokevirtual 90, 3) := by decide +kernel
theorem dX8_correctionsHold_10 : decode cX8_correctionsHold 10 = .ok (.if_icmp .ge 33, 3) := by decide +kernel
theorem dX8_correctionsHold_13 : decode cX8_correctionsHold 13 = .ok (.aload_n 0, 1) := by decide +kernel
theorem dX8_correctionsHold_14 : decode cX8_correctionsHold 14 = .ok (.getfield 47, 3) := by decide +kernel
theorem dX8_correctionsHold_17 : decode cX8_correctionsHold 17 = .ok (.iload_n 1, 1) := by decide +kernel
theorem dX8_correctionsHold_18 : decode cX8_correctionsHold 18 = .ok (.invokevirtual 373, 3) := by decide +kernel
theorem dX8_correctionsHold_21 : decode cX8_correctionsHold 21 = .ok (.checkcast 321, 3) := by decide +kernel
theorem dX8_correctionsHold_24 : decode cX8_correctionsHold 24 = .ok (.getfield 422, 3) := by decide +kernel
theorem dX8_correctionsHold_27 : decode cX8_correctionsHold 27 = .ok (.getfield 142, 3) := by decide +kernel
theorem dX8_correctionsHold_30 : decode cX8_correctionsHold 30 = .ok (.bipush 102, 2) := by decide +kernel
theorem dX8_correctionsHold_32 : decode cX8_correctionsHold 32 = .ok (.if_icmp .eq 5, 3) := by decide +kernel
theorem dX8_correctionsHold_35 : decode cX8_correctionsHold 35 = .ok (.iconst 0, 1) := by decide +kernel
theorem dX8_correctionsHold_36 : decode cX8_correctionsHold 36 = .ok (.ireturn, 1) := by decide +kernel
theorem dX8_correctionsHold_37 : decode cX8_correctionsHold 37 = .ok (.iinc 1 1, 3) := by decide +kernel
theorem dX8_correctionsHold_40 : decode cX8_correctionsHold 40 = .ok (.goto (-38), 3) := by decide +kernel
theorem dX8_correctionsHold_43 : decode cX8_correctionsHold 43 = .ok (.aload_n 0, 1) := by decide +kernel
theorem dX8_correctionsHold_44 : decode cX8_correctionsHold 44 = .ok (.getfield 47, 3) := by decide +kernel
theorem dX8_correctionsHold_47 : decode cX8_correctionsHold 47 = .ok (.invokevirtual 90, 3) := by decide +kernel
theorem dX8_correctionsHold_50 : decode cX8_correctionsHold 50 = .ok (.bipush 16, 2) := by decide +kernel
theorem dX8_correctionsHold_52 : decode cX8_correctionsHold 52 = .ok (.if_icmp .gt 7, 3) := by decide +kernel
theorem dX8_correctionsHold_55 : decode cX8_correctionsHold 55 = .ok (.iconst 1, 1) := by decide +kernel
theorem dX8_correctionsHold_56 : decode cX8_correctionsHold 56 = .ok (.goto 4, 3) := by decide +kernel
theorem dX8_correctionsHold_59 : decode cX8_correctionsHold 59 = .ok (.iconst 0, 1) := by decide +kernel
theorem dX8_correctionsHold_60 : decode cX8_correctionsHold 60 = .ok (.ireturn, 1) := by decide +kernel
theorem dX8_invoicesHold_0 : decode cX8_invoicesHold 0 = .ok (.iconst 0, 1) := by decide +kernel
theorem dX8_invoicesHold_1 : decode cX8_invoicesHold 1 = .ok (.istore_n 1, 1) := by decide +kernel
theorem dX8_invoicesHold_2 : decode cX8_invoicesHold 2 = .ok (.iload_n 1, 1) := by decide +kernel
theorem dX8_invoicesHold_3 : decode cX8_invoicesHold 3 = .ok (.aload_n 0, 1) := by decide +kernel
theorem dX8_invoicesHold_4 : decode cX8_invoicesHold 4 = .ok (.getfield 44, 3) := by decide +kernel
theorem dX8_invoicesHold_7 : decode cX8_invoicesHold 7 = .ok (.invokevirtual 90, 3) := by decide +kernel
theorem dX8_invoicesHold_10 : decode cX8_invoicesHold 10 = .ok (.if_icmp .ge 46, 3) := by decide +kernel
theorem dX8_invoicesHold_13 : decode cX8_invoicesHold 13 = .ok (.aload_n 0, 1) := by decide +kernel
theorem dX8_invoicesHold_14 : decode cX8_invoicesHold 14 = .ok (.getfield 44, 3) := by decide +kernel
theorem dX8_invoicesHold_17 : decode cX8_invoicesHold 17 = .ok (.iload_n 1, 1) := by decide +kernel
theorem dX8_invoicesHold_18 : decode cX8_invoicesHold 18 = .ok (.invokevirtual 373, 3) := by decide +kernel
theorem dX8_invoicesHold_21 : decode cX8_invoicesHold 21 = .ok (.checkcast 264, 3) := by decide +kernel
theorem dX8_invoicesHold_24 : decode cX8_invoicesHold 24 = .ok (.astore_n 2, 1) := by decide +kernel
theorem dX8_invoicesHold_25 : decode cX8_invoicesHold 25 = .ok (.aload_n 2, 1) := by decide +kernel
theorem dX8_invoicesHold_26 : decode cX8_invoicesHold 26 = .ok (.invokevirtual 431, 3) := by decide +kernel
theorem dX8_invoicesHold_29 : decode cX8_invoicesHold 29 = .ok (.aload_n 2, 1) := by decide +kernel
theorem dX8_invoicesHold_30 : decode cX8_invoicesHold 30 = .ok (.getfield 308, 3) := by decide +kernel
theorem dX8_invoicesHold_33 : decode cX8_invoicesHold 33 = .ok (.fcmp .l, 1) := by decide +kernel
theorem dX8_invoicesHold_34 : decode cX8_invoicesHold 34 = .ok (.ifCond .ne 14, 3) := by decide +kernel
theorem dX8_invoicesHold_37 : decode cX8_invoicesHold 37 = .ok (.aload_n 2, 1) := by decide +kernel
theorem dX8_invoicesHold_38 : decode cX8_invoicesHold 38 = .ok (.invokevirtual 435, 3) := by decide +kernel
theorem dX8_invoicesHold_41 : decode cX8_invoicesHold 41 = .ok (.aload_n 2, 1) := by decide +kernel
theorem dX8_invoicesHold_42 : decode cX8_invoicesHold 42 = .ok (.getfield 430, 3) := by decide +kernel
theorem dX8_invoicesHold_45 : decode cX8_invoicesHold 45 = .ok (.if_icmp .eq 5, 3) := by decide +kernel
theorem dX8_invoicesHold_48 : decode cX8_invoicesHold 48 = .ok (.iconst 0, 1) := by decide +kernel
theorem dX8_invoicesHold_49 : decode cX8_invoicesHold 49 = .ok (.ireturn, 1) := by decide +kernel
theorem dX8_invoicesHold_50 : decode cX8_invoicesHold 50 = .ok (.iinc 1 1, 3) := by decide +kernel
theorem dX8_invoicesHold_53 : decode cX8_invoicesHold 53 = .ok (.goto (-51), 3) := by decide +kernel
theorem dX8_invoicesHold_56 : decode cX8_invoicesHold 56 = .ok (.aload_n 0, 1) := by decide +kernel
theorem dX8_invoicesHold_57 : decode cX8_invoicesHold 57 = .ok (.getfield 44, 3) := by decide +kernel
theorem dX8_invoicesHold_60 : decode cX8_invoicesHold 60 = .ok (.invokevirtual 90, 3) := by decide +kernel
theorem dX8_invoicesHold_63 : decode cX8_invoicesHold 63 = .ok (.bipush 8, 2) := by decide +kernel
theorem dX8_invoicesHold_65 : decode cX8_invoicesHold 65 = .ok (.if_icmp .gt 7, 3) := by decide +kernel
theorem dX8_invoicesHold_68 : decode cX8_invoicesHold 68 = .ok (.iconst 1, 1) := by decide +kernel
theorem dX8_invoicesHold_69 : decode cX8_invoicesHold 69 = .ok (.goto 4, 3) := by decide +kernel
theorem dX8_invoicesHold_72 : decode cX8_invoicesHold 72 = .ok (.iconst 0, 1) := by decide +kernel
theorem dX8_invoicesHold_73 : decode cX8_invoicesHold 73 = .ok (.ireturn, 1) := by decide +kernel
theorem dX8_waysAgree_0 : decode cX8_waysAgree 0 = .ok (.aload_n 0, 1) := by decide +kernel
theorem dX8_waysAgree_1 : decode cX8_waysAgree 1 = .ok (.getfield 21, 3) := by decide +kernel
theorem dX8_waysAgree_4 : decode cX8_waysAgree 4 = .ok (.iconst 0, 1) := by decide +kernel
theorem dX8_waysAgree_5 : decode cX8_waysAgree 5 = .ok (.aload_n 0, 1) := by decide +kernel
theorem dX8_waysAgree_6 : decode cX8_waysAgree 6 = .ok (.getfield 10, 3) := by decide +kernel
theorem dX8_waysAgree_9 : decode cX8_waysAgree 9 = .ok (.getfield 57, 3) := by decide +kernel
theorem dX8_waysAgree_12 : decode cX8_waysAgree 12 = .ok (.invokevirtual 173, 3) := by decide +kernel
theorem dX8_waysAgree_15 : decode cX8_waysAgree 15 = .ok (.aload_n 0, 1) := by decide +kernel
theorem dX8_waysAgree_16 : decode cX8_waysAgree 16 = .ok (.getfield 25, 3) := by decide +kernel
theorem dX8_waysAgree_19 : decode cX8_waysAgree 19 = .ok (.iconst 0, 1) := by decide +kernel
theorem dX8_waysAgree_20 : decode cX8_waysAgree 20 = .ok (.aload_n 0, 1) := by decide +kernel
theorem dX8_waysAgree_21 : decode cX8_waysAgree 21 = .ok (.getfield 10, 3) := by decide +kernel
theorem dX8_waysAgree_24 : decode cX8_waysAgree 24 = .ok (.getfield 57, 3) := by decide +kernel
theorem dX8_waysAgree_27 : decode cX8_waysAgree 27 = .ok (.invokevirtual 181, 3) := by decide +kernel
theorem dX8_waysAgree_30 : decode cX8_waysAgree 30 = .ok (.aload_n 0, 1) := by decide +kernel
theorem dX8_waysAgree_31 : decode cX8_waysAgree 31 = .ok (.getfield 21, 3) := by decide +kernel
theorem dX8_waysAgree_34 : decode cX8_waysAgree 34 = .ok (.aload_n 0, 1) := by decide +kernel
theorem dX8_waysAgree_35 : decode cX8_waysAgree 35 = .ok (.getfield 25, 3) := by decide +kernel
theorem dX8_waysAgree_38 : decode cX8_waysAgree 38 = .ok (.invokevirtual 438, 3) := by decide +kernel
theorem dX8_waysAgree_41 : decode cX8_waysAgree 41 = .ok (.ireturn, 1) := by decide +kernel
theorem dX8_bitsOfFloat_0 : decode cX8_bitsOfFloat 0 = .ok (.fload_n 0, 1) := by decide +kernel
theorem dX8_bitsOfFloat_1 : decode cX8_bitsOfFloat 1 = .ok (.fconst 0, 1) := by decide +kernel
theorem dX8_bitsOfFloat_2 : decode cX8_bitsOfFloat 2 = .ok (.fcmp .l, 1) := by decide +kernel
theorem dX8_bitsOfFloat_3 : decode cX8_bitsOfFloat 3 = .ok (.ifCond .ne 5, 3) := by decide +kernel
theorem dX8_bitsOfFloat_6 : decode cX8_bitsOfFloat 6 = .ok (.iconst 0, 1) := by decide +kernel
theorem dX8_bitsOfFloat_7 : decode cX8_bitsOfFloat 7 = .ok (.ireturn, 1) := by decide +kernel
theorem dX8_bitsOfFloat_8 : decode cX8_bitsOfFloat 8 = .ok (.fload_n 0, 1) := by decide +kernel
theorem dX8_bitsOfFloat_9 : decode cX8_bitsOfFloat 9 = .ok (.fconst 0, 1) := by decide +kernel
theorem dX8_bitsOfFloat_10 : decode cX8_bitsOfFloat 10 = .ok (.fcmp .g, 1) := by decide +kernel
theorem dX8_bitsOfFloat_11 : decode cX8_bitsOfFloat 11 = .ok (.ifCond .ge 8, 3) := by decide +kernel
theorem dX8_bitsOfFloat_14 : decode cX8_bitsOfFloat 14 = .ok (.fload_n 0, 1) := by decide +kernel
theorem dX8_bitsOfFloat_15 : decode cX8_bitsOfFloat 15 = .ok (.fneg, 1) := by decide +kernel
theorem dX8_bitsOfFloat_16 : decode cX8_bitsOfFloat 16 = .ok (.goto 4, 3) := by decide +kernel
theorem dX8_bitsOfFloat_19 : decode cX8_bitsOfFloat 19 = .ok (.fload_n 0, 1) := by decide +kernel
theorem dX8_bitsOfFloat_20 : decode cX8_bitsOfFloat 20 = .ok (.fstore_n 1, 1) := by decide +kernel
theorem dX8_bitsOfFloat_21 : decode cX8_bitsOfFloat 21 = .ok (.bipush 127, 2) := by decide +kernel
theorem dX8_bitsOfFloat_23 : decode cX8_bitsOfFloat 23 = .ok (.istore_n 2, 1) := by decide +kernel
theorem dX8_bitsOfFloat_24 : decode cX8_bitsOfFloat 24 = .ok (.fload_n 1, 1) := by decide +kernel
theorem dX8_bitsOfFloat_25 : decode cX8_bitsOfFloat 25 = .ok (.fconst 2, 1) := by decide +kernel
theorem dX8_bitsOfFloat_26 : decode cX8_bitsOfFloat 26 = .ok (.fcmp .l, 1) := by decide +kernel
theorem dX8_bitsOfFloat_27 : decode cX8_bitsOfFloat 27 = .ok (.ifCond .lt 20, 3) := by decide +kernel
theorem dX8_bitsOfFloat_30 : decode cX8_bitsOfFloat 30 = .ok (.iload_n 2, 1) := by decide +kernel
theorem dX8_bitsOfFloat_31 : decode cX8_bitsOfFloat 31 = .ok (.sipush 254, 3) := by decide +kernel
theorem dX8_bitsOfFloat_34 : decode cX8_bitsOfFloat 34 = .ok (.if_icmp .ge 13, 3) := by decide +kernel
theorem dX8_bitsOfFloat_37 : decode cX8_bitsOfFloat 37 = .ok (.fload_n 1, 1) := by decide +kernel
theorem dX8_bitsOfFloat_38 : decode cX8_bitsOfFloat 38 = .ok (.fconst 2, 1) := by decide +kernel
theorem dX8_bitsOfFloat_39 : decode cX8_bitsOfFloat 39 = .ok (.fdiv, 1) := by decide +kernel
theorem dX8_bitsOfFloat_40 : decode cX8_bitsOfFloat 40 = .ok (.fstore_n 1, 1) := by decide +kernel
theorem dX8_bitsOfFloat_41 : decode cX8_bitsOfFloat 41 = .ok (.iinc 2 1, 3) := by decide +kernel
theorem dX8_bitsOfFloat_44 : decode cX8_bitsOfFloat 44 = .ok (.goto (-20), 3) := by decide +kernel
theorem dX8_bitsOfFloat_47 : decode cX8_bitsOfFloat 47 = .ok (.fload_n 1, 1) := by decide +kernel
theorem dX8_bitsOfFloat_48 : decode cX8_bitsOfFloat 48 = .ok (.fconst 1, 1) := by decide +kernel
theorem dX8_bitsOfFloat_49 : decode cX8_bitsOfFloat 49 = .ok (.fcmp .g, 1) := by decide +kernel
theorem dX8_bitsOfFloat_50 : decode cX8_bitsOfFloat 50 = .ok (.ifCond .ge 18, 3) := by decide +kernel
theorem dX8_bitsOfFloat_53 : decode cX8_bitsOfFloat 53 = .ok (.iload_n 2, 1) := by decide +kernel
theorem dX8_bitsOfFloat_54 : decode cX8_bitsOfFloat 54 = .ok (.iconst 1, 1) := by decide +kernel
theorem dX8_bitsOfFloat_55 : decode cX8_bitsOfFloat 55 = .ok (.if_icmp .le 13, 3) := by decide +kernel
theorem dX8_bitsOfFloat_58 : decode cX8_bitsOfFloat 58 = .ok (.fload_n 1, 1) := by decide +kernel
theorem dX8_bitsOfFloat_59 : decode cX8_bitsOfFloat 59 = .ok (.fconst 2, 1) := by decide +kernel
theorem dX8_bitsOfFloat_60 : decode cX8_bitsOfFloat 60 = .ok (.fmul, 1) := by decide +kernel
theorem dX8_bitsOfFloat_61 : decode cX8_bitsOfFloat 61 = .ok (.fstore_n 1, 1) := by decide +kernel
theorem dX8_bitsOfFloat_62 : decode cX8_bitsOfFloat 62 = .ok (.iinc 2 (-1), 3) := by decide +kernel
theorem dX8_bitsOfFloat_65 : decode cX8_bitsOfFloat 65 = .ok (.goto (-18), 3) := by decide +kernel
theorem dX8_bitsOfFloat_68 : decode cX8_bitsOfFloat 68 = .ok (.fload_n 1, 1) := by decide +kernel
theorem dX8_bitsOfFloat_69 : decode cX8_bitsOfFloat 69 = .ok (.fconst 1, 1) := by decide +kernel
theorem dX8_bitsOfFloat_70 : decode cX8_bitsOfFloat 70 = .ok (.fsub, 1) := by decide +kernel
theorem dX8_bitsOfFloat_71 : decode cX8_bitsOfFloat 71 = .ok (.ldc_w 442, 3) := by decide +kernel
theorem dX8_bitsOfFloat_74 : decode cX8_bitsOfFloat 74 = .ok (.fmul, 1) := by decide +kernel
theorem dX8_bitsOfFloat_75 : decode cX8_bitsOfFloat 75 = .ok (.f2i, 1) := by decide +kernel
theorem dX8_bitsOfFloat_76 : decode cX8_bitsOfFloat 76 = .ok (.istore_n 3, 1) := by decide +kernel
theorem dX8_bitsOfFloat_77 : decode cX8_bitsOfFloat 77 = .ok (.fload_n 0, 1) := by decide +kernel
theorem dX8_bitsOfFloat_78 : decode cX8_bitsOfFloat 78 = .ok (.fconst 0, 1) := by decide +kernel
theorem dX8_bitsOfFloat_79 : decode cX8_bitsOfFloat 79 = .ok (.fcmp .g, 1) := by decide +kernel
theorem dX8_bitsOfFloat_80 : decode cX8_bitsOfFloat 80 = .ok (.ifCond .ge 9, 3) := by decide +kernel
theorem dX8_bitsOfFloat_83 : decode cX8_bitsOfFloat 83 = .ok (.ldc_w 443, 3) := by decide +kernel
theorem dX8_bitsOfFloat_86 : decode cX8_bitsOfFloat 86 = .ok (.goto 4, 3) := by decide +kernel
theorem dX8_bitsOfFloat_89 : decode cX8_bitsOfFloat 89 = .ok (.iconst 0, 1) := by decide +kernel
theorem dX8_bitsOfFloat_90 : decode cX8_bitsOfFloat 90 = .ok (.istore 4, 2) := by decide +kernel
theorem dX8_bitsOfFloat_92 : decode cX8_bitsOfFloat 92 = .ok (.iload 4, 2) := by decide +kernel
theorem dX8_bitsOfFloat_94 : decode cX8_bitsOfFloat 94 = .ok (.iload_n 2, 1) := by decide +kernel
theorem dX8_bitsOfFloat_95 : decode cX8_bitsOfFloat 95 = .ok (.bipush 23, 2) := by decide +kernel
theorem dX8_bitsOfFloat_97 : decode cX8_bitsOfFloat 97 = .ok (.ishl, 1) := by decide +kernel
theorem dX8_bitsOfFloat_98 : decode cX8_bitsOfFloat 98 = .ok (.ior, 1) := by decide +kernel
theorem dX8_bitsOfFloat_99 : decode cX8_bitsOfFloat 99 = .ok (.iload_n 3, 1) := by decide +kernel
theorem dX8_bitsOfFloat_100 : decode cX8_bitsOfFloat 100 = .ok (.ior, 1) := by decide +kernel
theorem dX8_bitsOfFloat_101 : decode cX8_bitsOfFloat 101 = .ok (.ireturn, 1) := by decide +kernel
theorem dX8_bitsOfDouble_0 : decode cX8_bitsOfDouble 0 = .ok (.dload_n 0, 1) := by decide +kernel
theorem dX8_bitsOfDouble_1 : decode cX8_bitsOfDouble 1 = .ok (.dconst 0, 1) := by decide +kernel
theorem dX8_bitsOfDouble_2 : decode cX8_bitsOfDouble 2 = .ok (.dcmp .g, 1) := by decide +kernel
theorem dX8_bitsOfDouble_3 : decode cX8_bitsOfDouble 3 = .ok (.ifCond .gt 5, 3) := by decide +kernel
theorem dX8_bitsOfDouble_6 : decode cX8_bitsOfDouble 6 = .ok (.lconst 0, 1) := by decide +kernel
theorem dX8_bitsOfDouble_7 : decode cX8_bitsOfDouble 7 = .ok (.lreturn, 1) := by decide +kernel
theorem dX8_bitsOfDouble_8 : decode cX8_bitsOfDouble 8 = .ok (.dload_n 0, 1) := by decide +kernel
theorem dX8_bitsOfDouble_9 : decode cX8_bitsOfDouble 9 = .ok (.dstore_n 2, 1) := by decide +kernel
theorem dX8_bitsOfDouble_10 : decode cX8_bitsOfDouble 10 = .ok (.ldc2_w 444, 3) := by decide +kernel
theorem dX8_bitsOfDouble_13 : decode cX8_bitsOfDouble 13 = .ok (.lstore 4, 2) := by decide +kernel
theorem dX8_bitsOfDouble_15 : decode cX8_bitsOfDouble 15 = .ok (.dload_n 2, 1) := by decide +kernel
theorem dX8_bitsOfDouble_16 : decode cX8_bitsOfDouble 16 = .ok (.ldc2_w 446, 3) := by decide +kernel
theorem dX8_bitsOfDouble_19 : decode cX8_bitsOfDouble 19 = .ok (.dcmp .l, 1) := by decide +kernel
theorem dX8_bitsOfDouble_20 : decode cX8_bitsOfDouble 20 = .ok (.ifCond .lt 27, 3) := by decide +kernel
theorem dX8_bitsOfDouble_23 : decode cX8_bitsOfDouble 23 = .ok (.lload 4, 2) := by decide +kernel
theorem dX8_bitsOfDouble_25 : decode cX8_bitsOfDouble 25 = .ok (.ldc2_w 448, 3) := by decide +kernel
theorem dX8_bitsOfDouble_28 : decode cX8_bitsOfDouble 28 = .ok (.lcmp, 1) := by decide +kernel
theorem dX8_bitsOfDouble_29 : decode cX8_bitsOfDouble 29 = .ok (.ifCond .ge 18, 3) := by decide +kernel
theorem dX8_bitsOfDouble_32 : decode cX8_bitsOfDouble 32 = .ok (.dload_n 2, 1) := by decide +kernel
theorem dX8_bitsOfDouble_33 : decode cX8_bitsOfDouble 33 = .ok (.ldc2_w 446, 3) := by decide +kernel
theorem dX8_bitsOfDouble_36 : decode cX8_bitsOfDouble 36 = .ok (.ddiv, 1) := by decide +kernel
theorem dX8_bitsOfDouble_37 : decode cX8_bitsOfDouble 37 = .ok (.dstore_n 2, 1) := by decide +kernel
theorem dX8_bitsOfDouble_38 : decode cX8_bitsOfDouble 38 = .ok (.lload 4, 2) := by decide +kernel
theorem dX8_bitsOfDouble_40 : decode cX8_bitsOfDouble 40 = .ok (.lconst 1, 1) := by decide +kernel
theorem dX8_bitsOfDouble_41 : decode cX8_bitsOfDouble 41 = .ok (.ladd, 1) := by decide +kernel
theorem dX8_bitsOfDouble_42 : decode cX8_bitsOfDouble 42 = .ok (.lstore 4, 2) := by decide +kernel
theorem dX8_bitsOfDouble_44 : decode cX8_bitsOfDouble 44 = .ok (.goto (-29), 3) := by decide +kernel
theorem dX8_bitsOfDouble_47 : decode cX8_bitsOfDouble 47 = .ok (.dload_n 2, 1) := by decide +kernel
theorem dX8_bitsOfDouble_48 : decode cX8_bitsOfDouble 48 = .ok (.dconst 1, 1) := by decide +kernel
theorem dX8_bitsOfDouble_49 : decode cX8_bitsOfDouble 49 = .ok (.dcmp .g, 1) := by decide +kernel
theorem dX8_bitsOfDouble_50 : decode cX8_bitsOfDouble 50 = .ok (.ifCond .ge 25, 3) := by decide +kernel
theorem dX8_bitsOfDouble_53 : decode cX8_bitsOfDouble 53 = .ok (.lload 4, 2) := by decide +kernel
theorem dX8_bitsOfDouble_55 : decode cX8_bitsOfDouble 55 = .ok (.lconst 1, 1) := by decide +kernel
theorem dX8_bitsOfDouble_56 : decode cX8_bitsOfDouble 56 = .ok (.lcmp, 1) := by decide +kernel
theorem dX8_bitsOfDouble_57 : decode cX8_bitsOfDouble 57 = .ok (.ifCond .le 18, 3) := by decide +kernel
theorem dX8_bitsOfDouble_60 : decode cX8_bitsOfDouble 60 = .ok (.dload_n 2, 1) := by decide +kernel
theorem dX8_bitsOfDouble_61 : decode cX8_bitsOfDouble 61 = .ok (.ldc2_w 446, 3) := by decide +kernel
theorem dX8_bitsOfDouble_64 : decode cX8_bitsOfDouble 64 = .ok (.dmul, 1) := by decide +kernel
theorem dX8_bitsOfDouble_65 : decode cX8_bitsOfDouble 65 = .ok (.dstore_n 2, 1) := by decide +kernel
theorem dX8_bitsOfDouble_66 : decode cX8_bitsOfDouble 66 = .ok (.lload 4, 2) := by decide +kernel
theorem dX8_bitsOfDouble_68 : decode cX8_bitsOfDouble 68 = .ok (.lconst 1, 1) := by decide +kernel
theorem dX8_bitsOfDouble_69 : decode cX8_bitsOfDouble 69 = .ok (.lsub, 1) := by decide +kernel
theorem dX8_bitsOfDouble_70 : decode cX8_bitsOfDouble 70 = .ok (.lstore 4, 2) := by decide +kernel
theorem dX8_bitsOfDouble_72 : decode cX8_bitsOfDouble 72 = .ok (.goto (-25), 3) := by decide +kernel
theorem dX8_bitsOfDouble_75 : decode cX8_bitsOfDouble 75 = .ok (.dload_n 2, 1) := by decide +kernel
theorem dX8_bitsOfDouble_76 : decode cX8_bitsOfDouble 76 = .ok (.dconst 1, 1) := by decide +kernel
theorem dX8_bitsOfDouble_77 : decode cX8_bitsOfDouble 77 = .ok (.dsub, 1) := by decide +kernel
theorem dX8_bitsOfDouble_78 : decode cX8_bitsOfDouble 78 = .ok (.ldc2_w 450, 3) := by decide +kernel
theorem dX8_bitsOfDouble_81 : decode cX8_bitsOfDouble 81 = .ok (.dmul, 1) := by decide +kernel
theorem dX8_bitsOfDouble_82 : decode cX8_bitsOfDouble 82 = .ok (.d2l, 1) := by decide +kernel
theorem dX8_bitsOfDouble_83 : decode cX8_bitsOfDouble 83 = .ok (.lstore 6, 2) := by decide +kernel
theorem dX8_bitsOfDouble_85 : decode cX8_bitsOfDouble 85 = .ok (.lload 4, 2) := by decide +kernel
theorem dX8_bitsOfDouble_87 : decode cX8_bitsOfDouble 87 = .ok (.bipush 52, 2) := by decide +kernel
theorem dX8_bitsOfDouble_89 : decode cX8_bitsOfDouble 89 = .ok (.lshl, 1) := by decide +kernel
theorem dX8_bitsOfDouble_90 : decode cX8_bitsOfDouble 90 = .ok (.lload 6, 2) := by decide +kernel
theorem dX8_bitsOfDouble_92 : decode cX8_bitsOfDouble 92 = .ok (.lor, 1) := by decide +kernel
theorem dX8_bitsOfDouble_93 : decode cX8_bitsOfDouble 93 = .ok (.lreturn, 1) := by decide +kernel
theorem dX9_init_0 : decode cX9_init 0 = .ok (.aload_n 0, 1) := by decide +kernel
theorem dX9_init_1 : decode cX9_init 1 = .ok (.invokespecial 1, 3) := by decide +kernel
theorem dX9_init_4 : decode cX9_init 4 = .ok (.aload_n 0, 1) := by decide +kernel
theorem dX9_init_5 : decode cX9_init 5 = .ok (.bipush 102, 2) := by decide +kernel
theorem dX9_init_7 : decode cX9_init 7 = .ok (.putfield 7, 3) := by decide +kernel
theorem dX9_init_10 : decode cX9_init 10 = .ok (.aload_n 0, 1) := by decide +kernel
theorem dX9_init_11 : decode cX9_init 11 = .ok (.iconst 5, 1) := by decide +kernel
theorem dX9_init_12 : decode cX9_init 12 = .ok (.newarray .int, 2) := by decide +kernel
theorem dX9_init_14 : decode cX9_init 14 = .ok (.putfield 13, 3) := by decide +kernel
theorem dX9_init_17 : decode cX9_init 17 = .ok (.aload_n 0, 1) := by decide +kernel
theorem dX9_init_18 : decode cX9_init 18 = .ok (.iconst 5, 1) := by decide +kernel
theorem dX9_init_19 : decode cX9_init 19 = .ok (.newarray .char, 2) := by decide +kernel
theorem dX9_init_21 : decode cX9_init 21 = .ok (.putfield 17, 3) := by decide +kernel
theorem dX9_init_24 : decode cX9_init 24 = .ok (.aload_n 0, 1) := by decide +kernel
theorem dX9_init_25 : decode cX9_init 25 = .ok (.iconst 5, 1) := by decide +kernel
theorem dX9_init_26 : decode cX9_init 26 = .ok (.newarray .char, 2) := by decide +kernel
theorem dX9_init_28 : decode cX9_init 28 = .ok (.putfield 21, 3) := by decide +kernel
theorem dX9_init_31 : decode cX9_init 31 = .ok (.aload_n 0, 1) := by decide +kernel
theorem dX9_init_32 : decode cX9_init 32 = .ok (.iconst 5, 1) := by decide +kernel
theorem dX9_init_33 : decode cX9_init 33 = .ok (.newarray .int, 2) := by decide +kernel
theorem dX9_init_35 : decode cX9_init 35 = .ok (.putfield 24, 3) := by decide +kernel
theorem dX9_init_38 : decode cX9_init 38 = .ok (.aload_n 0, 1) := by decide +kernel
theorem dX9_init_39 : decode cX9_init 39 = .ok (.iconst 5, 1) := by decide +kernel
theorem dX9_init_40 : decode cX9_init 40 = .ok (.newarray .int, 2) := by decide +kernel
theorem dX9_init_42 : decode cX9_init 42 = .ok (.putfield 27, 3) := by decide +kernel
theorem dX9_init_45 : decode cX9_init 45 = .ok (.aload_n 0, 1) := by decide +kernel
theorem dX9_init_46 : decode cX9_init 46 = .ok (.bipush 24, 2) := by decide +kernel
theorem dX9_init_48 : decode cX9_init 48 = .ok (.newarray .int, 2) := by decide +kernel
theorem dX9_init_50 : decode cX9_init 50 = .ok (.putfield 30, 3) := by decide +kernel
theorem dX9_init_53 : decode cX9_init 53 = .ok (.aload_n 0, 1) := by decide +kernel
theorem dX9_init_54 : decode cX9_init 54 = .ok (.bipush 24, 2) := by decide +kernel
theorem dX9_init_56 : decode cX9_init 56 = .ok (.newarray .int, 2) := by decide +kernel
theorem dX9_init_58 : decode cX9_init 58 = .ok (.putfield 33, 3) := by decide +kernel
theorem dX9_init_61 : decode cX9_init 61 = .ok (.aload_n 0, 1) := by decide +kernel
theorem dX9_init_62 : decode cX9_init 62 = .ok (.bipush 24, 2) := by decide +kernel
theorem dX9_init_64 : decode cX9_init 64 = .ok (.newarray .int, 2) := by decide +kernel
theorem dX9_init_66 : decode cX9_init 66 = .ok (.putfield 36, 3) := by decide +kernel
theorem dX9_init_69 : decode cX9_init 69 = .ok (.aload_n 0, 1) := by decide +kernel
theorem dX9_init_70 : decode cX9_init 70 = .ok (.bipush 24, 2) := by decide +kernel
theorem dX9_init_72 : decode cX9_init 72 = .ok (.newarray .char, 2) := by decide +kernel
theorem dX9_init_74 : decode cX9_init 74 = .ok (.putfield 39, 3) := by decide +kernel
theorem dX9_init_77 : decode cX9_init 77 = .ok (.aload_n 0, 1) := by decide +kernel
theorem dX9_init_78 : decode cX9_init 78 = .ok (.bipush 24, 2) := by decide +kernel
theorem dX9_init_80 : decode cX9_init 80 = .ok (.newarray .int, 2) := by decide +kernel
theorem dX9_init_82 : decode cX9_init 82 = .ok (.putfield 42, 3) := by decide +kernel
theorem dX9_init_85 : decode cX9_init 85 = .ok (.aload_n 0, 1) := by decide +kernel
theorem dX9_init_86 : decode cX9_init 86 = .ok (.bipush 24, 2) := by decide +kernel
theorem dX9_init_88 : decode cX9_init 88 = .ok (.newarray .int, 2) := by decide +kernel
theorem dX9_init_90 : decode cX9_init 90 = .ok (.putfield 45, 3) := by decide +kernel
theorem dX9_init_93 : decode cX9_init 93 = .ok (.aload_n 0, 1) := by decide +kernel
theorem dX9_init_94 : decode cX9_init 94 = .ok (.bipush 120, 2) := by decide +kernel
theorem dX9_init_96 : decode cX9_init 96 = .ok (.newarray .int, 2) := by decide +kernel
theorem dX9_init_98 : decode cX9_init 98 = .ok (.putfield 48, 3) := by decide +kernel
theorem dX9_init_101 : decode cX9_init 101 = .ok (.aload_n 0, 1) := by decide +kernel
theorem dX9_init_102 : decode cX9_init 102 = .ok (.bipush 8, 2) := by decide +kernel
theorem dX9_init_104 : decode cX9_init 104 = .ok (.newarray .int, 2) := by decide +kernel
theorem dX9_init_106 : decode cX9_init 106 = .ok (.putfield 51, 3) := by decide +kernel
theorem dX9_init_109 : decode cX9_init 109 = .ok (.aload_n 0, 1) := by decide +kernel
theorem dX9_init_110 : decode cX9_init 110 = .ok (.bipush 8, 2) := by decide +kernel
theorem dX9_init_112 : decode cX9_init 112 = .ok (.newarray .int, 2) := by decide +kernel
theorem dX9_init_114 : decode cX9_init 114 = .ok (.putfield 54, 3) := by decide +kernel
theorem dX9_init_117 : decode cX9_init 117 = .ok (.aload_n 0, 1) := by decide +kernel
theorem dX9_init_118 : decode cX9_init 118 = .ok (.sipush 320, 3) := by decide +kernel
theorem dX9_init_121 : decode cX9_init 121 = .ok (.newarray .char, 2) := by decide +kernel
theorem dX9_init_123 : decode cX9_init 123 = .ok (.putfield 57, 3) := by decide +kernel
theorem dX9_init_126 : decode cX9_init 126 = .ok (.aload_n 0, 1) := by decide +kernel
theorem dX9_init_127 : decode cX9_init 127 = .ok (.sipush 320, 3) := by decide +kernel
theorem dX9_init_130 : decode cX9_init 130 = .ok (.newarray .int, 2) := by decide +kernel
theorem dX9_init_132 : decode cX9_init 132 = .ok (.putfield 60, 3) := by decide +kernel
theorem dX9_init_135 : decode cX9_init 135 = .ok (.aload_n 0, 1) := by decide +kernel
theorem dX9_init_136 : decode cX9_init 136 = .ok (.sipush 320, 3) := by decide +kernel
theorem dX9_init_139 : decode cX9_init 139 = .ok (.newarray .int, 2) := by decide +kernel
theorem dX9_init_141 : decode cX9_init 141 = .ok (.putfield 63, 3) := by decide +kernel
theorem dX9_init_144 : decode cX9_init 144 = .ok (.aload_n 0, 1) := by decide +kernel
theorem dX9_init_145 : decode cX9_init 145 = .ok (.sipush 320, 3) := by decide +kernel
theorem dX9_init_148 : decode cX9_init 148 = .ok (.newarray .float, 2) := by decide +kernel
theorem dX9_init_150 : decode cX9_init 150 = .ok (.putfield 66, 3) := by decide +kernel
theorem dX9_init_153 : decode cX9_init 153 = .ok (.aload_n 0, 1) := by decide +kernel
theorem dX9_init_154 : decode cX9_init 154 = .ok (.bipush 8, 2) := by decide +kernel
theorem dX9_init_156 : decode cX9_init 156 = .ok (.newarray .float, 2) := by decide +kernel
theorem dX9_init_158 : decode cX9_init 158 = .ok (.putfield 70, 3) := by decide +kernel
theorem dX9_init_161 : decode cX9_init 161 = .ok (.aload_n 0, 1) := by decide +kernel
theorem dX9_init_162 : decode cX9_init 162 = .ok (.bipush 16, 2) := by decide +kernel
theorem dX9_init_164 : decode cX9_init 164 = .ok (.newarray .int, 2) := by decide +kernel
theorem dX9_init_166 : decode cX9_init 166 = .ok (.putfield 73, 3) := by decide +kernel
theorem dX9_init_169 : decode cX9_init 169 = .ok (.aload_n 0, 1) := by decide +kernel
theorem dX9_init_170 : decode cX9_init 170 = .ok (.bipush 16, 2) := by decide +kernel
theorem dX9_init_172 : decode cX9_init 172 = .ok (.newarray .int, 2) := by decide +kernel
theorem dX9_init_174 : decode cX9_init 174 = .ok (.putfield 76, 3) := by decide +kernel
theorem dX9_init_177 : decode cX9_init 177 = .ok (.aload_n 0, 1) := by decide +kernel
theorem dX9_init_178 : decode cX9_init 178 = .ok (.bipush 16, 2) := by decide +kernel
theorem dX9_init_180 : decode cX9_init 180 = .ok (.newarray .boolean, 2) := by decide +kernel
theorem dX9_init_182 : decode cX9_init 182 = .ok (.putfield 79, 3) := by decide +kernel
theorem dX9_init_185 : decode cX9_init 185 = .ok (.aload_n 0, 1) := by decide +kernel
theorem dX9_init_186 : decode cX9_init 186 = .ok (.bipush 60, 2) := by decide +kernel
theorem dX9_init_188 : decode cX9_init 188 = .ok (.newarray .char, 2) := by decide +kernel
theorem dX9_init_190 : decode cX9_init 190 = .ok (.putfield 83, 3) := by decide +kernel
theorem dX9_init_193 : decode cX9_init 193 = .ok (.return_, 1) := by decide +kernel
theorem dX9_thrown_0 : decode cX9_thrown 0 = .ok (.aload_n 0, 1) := by decide +kernel
theorem dX9_thrown_1 : decode cX9_thrown 1 = .ok (.getfield 86, 3) := by decide +kernel
theorem dX9_thrown_4 : decode cX9_thrown 4 = .ok (.ireturn, 1) := by decide +kernel
theorem dX9_fails_0 : decode cX9_fails 0 = .ok (.aload_n 0, 1) := by decide +kernel
theorem dX9_fails_1 : decode cX9_fails 1 = .ok (.iload_n 1, 1) := by decide +kernel
theorem dX9_fails_2 : decode cX9_fails 2 = .ok (.putfield 86, 3) := by decide +kernel
theorem dX9_fails_5 : decode cX9_fails 5 = .ok (.iload_n 1, 1) := by decide +kernel
theorem dX9_fails_6 : decode cX9_fails 6 = .ok (.ifCond .le 7, 3) := by decide +kernel
theorem dX9_fails_9 : decode cX9_fails 9 = .ok (.iconst 1, 1) := by decide +kernel
theorem dX9_fails_10 : decode cX9_fails 10 = .ok (.goto 4, 3) := by decide +kernel
theorem dX9_fails_13 : decode cX9_fails 13 = .ok (.iconst 0, 1) := by decide +kernel
theorem dX9_fails_14 : decode cX9_fails 14 = .ok (.ireturn, 1) := by decide +kernel
theorem dX9_tells_0 : decode cX9_tells 0 = .ok (.aload_n 0, 1) := by decide +kernel
theorem dX9_tells_1 : decode cX9_tells 1 = .ok (.iconst 0, 1) := by decide +kernel
theorem dX9_tells_2 : decode cX9_tells 2 = .ok (.putfield 86, 3) := by decide +kernel
theorem dX9_tells_5 : decode cX9_tells 5 = .ok (.iload_n 1, 1) := by decide +kernel
theorem dX9_tells_6 : decode cX9_tells 6 = .ok (.ireturn, 1) := by decide +kernel
theorem dX9_in_0 : decode cX9_in 0 = .ok (.iload_n 0, 1) := by decide +kernel
theorem dX9_in_1 : decode cX9_in 1 = .ok (.iload_n 1, 1) := by decide +kernel
theorem dX9_in_2 : decode cX9_in 2 = .ok (.if_icmp .lt 12, 3) := by decide +kernel
theorem dX9_in_5 : decode cX9_in 5 = .ok (.iload_n 0, 1) := by decide +kernel
theorem dX9_in_6 : decode cX9_in 6 = .ok (.iload_n 2, 1) := by decide +kernel
theorem dX9_in_7 : decode cX9_in 7 = .ok (.if_icmp .gt 7, 3) := by decide +kernel
theorem dX9_in_10 : decode cX9_in 10 = .ok (.iconst 1, 1) := by decide +kernel
theorem dX9_in_11 : decode cX9_in 11 = .ok (.goto 4, 3) := by decide +kernel
theorem dX9_in_14 : decode cX9_in 14 = .ok (.iconst 0, 1) := by decide +kernel
theorem dX9_in_15 : decode cX9_in 15 = .ok (.ireturn, 1) := by decide +kernel
theorem dX9_isNoClient_0 : decode cX9_isNoClient 0 = .ok (.iload_n 1, 1) := by decide +kernel
theorem dX9_isNoClient_1 : decode cX9_isNoClient 1 = .ok (.iconst 0, 1) := by decide +kernel
theorem dX9_isNoClient_2 : decode cX9_isNoClient 2 = .ok (.aload_n 0, 1) := by decide +kernel
theorem dX9_isNoClient_3 : decode cX9_isNoClient 3 = .ok (.getfield 90, 3) := by decide +kernel
theorem dX9_isNoClient_6 : decode cX9_isNoClient 6 = .ok (.iconst 1, 1) := by decide +kernel
theorem dX9_isNoClient_7 : decode cX9_isNoClient 7 = .ok (.isub, 1) := by decide +kernel
theorem dX9_isNoClient_8 : decode cX9_isNoClient 8 = .ok (.invokestatic 93, 3) := by decide +kernel
theorem dX9_isNoClient_11 : decode cX9_isNoClient 11 = .ok (.ifCond .ne 7, 3) := by decide +kernel
theorem dX9_isNoClient_14 : decode cX9_isNoClient 14 = .ok (.iconst 1, 1) := by decide +kernel
theorem dX9_isNoClient_15 : decode cX9_isNoClient 15 = .ok (.goto 4, 3) := by decide +kernel
theorem dX9_isNoClient_18 : decode cX9_isNoClient 18 = .ok (.iconst 0, 1) := by decide +kernel
theorem dX9_isNoClient_19 : decode cX9_isNoClient 19 = .ok (.ireturn, 1) := by decide +kernel
theorem dX9_isNone_0 : decode cX9_isNone 0 = .ok (.iload_n 1, 1) := by decide +kernel
theorem dX9_isNone_1 : decode cX9_isNone 1 = .ok (.iconst 0, 1) := by decide +kernel
theorem dX9_isNone_2 : decode cX9_isNone 2 = .ok (.aload_n 0, 1) := by decide +kernel
theorem dX9_isNone_3 : decode cX9_isNone 3 = .ok (.getfield 97, 3) := by decide +kernel
theorem dX9_isNone_6 : decode cX9_isNone 6 = .ok (.iconst 1, 1) := by decide +kernel
theorem dX9_isNone_7 : decode cX9_isNone 7 = .ok (.isub, 1) := by decide +kernel
theorem dX9_isNone_8 : decode cX9_isNone 8 = .ok (.invokestatic 93, 3) := by decide +kernel
theorem dX9_isNone_11 : decode cX9_isNone 11 = .ok (.ifCond .ne 7, 3) := by decide +kernel
theorem dX9_isNone_14 : decode cX9_isNone 14 = .ok (.iconst 1, 1) := by decide +kernel
theorem dX9_isNone_15 : decode cX9_isNone 15 = .ok (.goto 4, 3) := by decide +kernel
theorem dX9_isNone_18 : decode cX9_isNone 18 = .ok (.iconst 0, 1) := by decide +kernel
theorem dX9_isNone_19 : decode cX9_isNone 19 = .ok (.ireturn, 1) := by decide +kernel
theorem dX9_now_0 : decode cX9_now 0 = .ok (.aload_n 0, 1) := by decide +kernel
theorem dX9_now_1 : decode cX9_now 1 = .ok (.aload_n 0, 1) := by decide +kernel
theorem dX9_now_2 : decode cX9_now 2 = .ok (.getfield 100, 3) := by decide +kernel
theorem dX9_now_5 : decode cX9_now 5 = .ok (.invokevirtual 103, 3) := by decide +kernel
theorem dX9_now_8 : decode cX9_now 8 = .ok (.ireturn, 1) := by decide +kernel
theorem dX9_pass_0 : decode cX9_pass 0 = .ok (.aload_n 0, 1) := by decide +kernel
theorem dX9_pass_1 : decode cX9_pass 1 = .ok (.iload_n 1, 1) := by decide +kernel
theorem dX9_pass_2 : decode cX9_pass 2 = .ok (.iconst 1, 1) := by decide +kernel
theorem dX9_pass_3 : decode cX9_pass 3 = .ok (.sipush 600, 3) := by decide +kernel
theorem dX9_pass_6 : decode cX9_pass 6 = .ok (.invokestatic 93, 3) := by decide +kernel
theorem dX9_pass_9 : decode cX9_pass 9 = .ok (.ifCond .ne 7, 3) := by decide +kernel
theorem dX9_pass_12 : decode cX9_pass 12 = .ok (.iconst 1, 1) := by decide +kernel
theorem dX9_pass_13 : decode cX9_pass 13 = .ok (.goto 20, 3) := by decide +kernel
theorem dX9_pass_16 : decode cX9_pass 16 = .ok (.aload_n 0, 1) := by decide +kernel
theorem dX9_pass_17 : decode cX9_pass 17 = .ok (.getfield 100, 3) := by decide +kernel
theorem dX9_pass_20 : decode cX9_pass 20 = .ok (.iload_n 1, 1) := by decide +kernel
theorem dX9_pass_21 : decode cX9_pass 21 = .ok (.iadd, 1) := by decide +kernel
theorem dX9_pass_22 : decode cX9_pass 22 = .ok (.sipush 2999, 3) := by decide +kernel
theorem dX9_pass_25 : decode cX9_pass 25 = .ok (.if_icmp .le 7, 3) := by decide +kernel
theorem dX9_pass_28 : decode cX9_pass 28 = .ok (.iconst 2, 1) := by decide +kernel
theorem dX9_pass_29 : decode cX9_pass 29 = .ok (.goto 4, 3) := by decide +kernel
theorem dX9_pass_32 : decode cX9_pass 32 = .ok (.iconst 0, 1) := by decide +kernel
theorem dX9_pass_33 : decode cX9_pass 33 = .ok (.invokevirtual 107, 3) := by decide +kernel
theorem dX9_pass_36 : decode cX9_pass 36 = .ok (.ifCond .eq 5, 3) := by decide +kernel
theorem dX9_pass_39 : decode cX9_pass 39 = .ok (.iconst 0, 1) := by decide +kernel
theorem dX9_pass_40 : decode cX9_pass 40 = .ok (.ireturn, 1) := by decide +kernel
theorem dX9_pass_41 : decode cX9_pass 41 = .ok (.aload_n 0, 1) := by decide +kernel
theorem dX9_pass_42 : decode cX9_pass 42 = .ok (.dup, 1) := by decide +kernel
theorem dX9_pass_43 : decode cX9_pass 43 = .ok (.getfield 100, 3) := by decide +kernel
theorem dX9_pass_46 : decode cX9_pass 46 = .ok (.iload_n 1, 1) := by decide +kernel
theorem dX9_pass_47 : decode cX9_pass 47 = .ok (.iadd, 1) := by decide +kernel
theorem dX9_pass_48 : decode cX9_pass 48 = .ok (.putfield 100, 3) := by decide +kernel
theorem dX9_pass_51 : decode cX9_pass 51 = .ok (.aload_n 0, 1) := by decide +kernel
theorem dX9_pass_52 : decode cX9_pass 52 = .ok (.getfield 100, 3) := by decide +kernel
theorem dX9_pass_55 : decode cX9_pass 55 = .ok (.ireturn, 1) := by decide +kernel
theorem dX9_setRule_0 : decode cX9_setRule 0 = .ok (.aload_n 0, 1) := by decide +kernel
theorem dX9_setRule_1 : decode cX9_setRule 1 = .ok (.iload_n 1, 1) := by decide +kernel
theorem dX9_setRule_2 : decode cX9_setRule 2 = .ok (.bipush 102, 2) := by decide +kernel
theorem dX9_setRule_4 : decode cX9_setRule 4 = .ok (.if_icmp .eq 19, 3) := by decide +kernel
theorem dX9_setRule_7 : decode cX9_setRule 7 = .ok (.iload_n 1, 1) := by decide +kernel
theorem dX9_setRule_8 : decode cX9_setRule 8 = .ok (.bipush 108, 2) := by decide +kernel
theorem dX9_setRule_10 : decode cX9_setRule 10 = .ok (.if_icmp .eq 13, 3) := by decide +kernel
theorem dX9_setRule_13 : decode cX9_setRule 13 = .ok (.iload_n 1, 1) := by decide +kernel
theorem dX9_setRule_14 : decode cX9_setRule 14 = .ok (.bipush 115, 2) := by decide +kernel
theorem dX9_setRule_16 : decode cX9_setRule 16 = .ok (.if_icmp .eq 7, 3) := by decide +kernel
theorem dX9_setRule_19 : decode cX9_setRule 19 = .ok (.iconst 1, 1) := by decide +kernel
theorem dX9_setRule_20 : decode cX9_setRule 20 = .ok (.goto 4, 3) := by decide +kernel
theorem dX9_setRule_23 : decode cX9_setRule 23 = .ok (.iconst 0, 1) := by decide +kernel
theorem dX9_setRule_24 : decode cX9_setRule 24 = .ok (.invokevirtual 107, 3) := by decide +kernel
theorem dX9_setRule_27 : decode cX9_setRule 27 = .ok (.ifCond .eq 6, 3) := by decide +kernel
theorem dX9_setRule_30 : decode cX9_setRule 30 = .ok (.bipush 32, 2) := by decide +kernel
theorem dX9_setRule_32 : decode cX9_setRule 32 = .ok (.ireturn, 1) := by decide +kernel
theorem dX9_setRule_33 : decode cX9_setRule 33 = .ok (.aload_n 0, 1) := by decide +kernel
theorem dX9_setRule_34 : decode cX9_setRule 34 = .ok (.getfield 7, 3) := by decide +kernel
theorem dX9_setRule_37 : decode cX9_setRule 37 = .ok (.istore_n 2, 1) := by decide +kernel
theorem dX9_setRule_38 : decode cX9_setRule 38 = .ok (.aload_n 0, 1) := by decide +kernel
theorem dX9_setRule_39 : decode cX9_setRule 39 = .ok (.iload_n 1, 1) := by decide +kernel
theorem dX9_setRule_40 : decode cX9_setRule 40 = .ok (.putfield 7, 3) := by decide +kernel
theorem dX9_setRule_43 : decode cX9_setRule 43 = .ok (.iload_n 2, 1) := by decide +kernel
theorem dX9_setRule_44 : decode cX9_setRule 44 = .ok (.ireturn, 1) := by decide +kernel
theorem dX9_isRounding_0 : decode cX9_isRounding 0 = .ok (.iload_n 0, 1) := by decide +kernel
theorem dX9_isRounding_1 : decode cX9_isRounding 1 = .ok (.iconst 1, 1) := by decide +kernel
theorem dX9_isRounding_2 : decode cX9_isRounding 2 = .ok (.bipush 60, 2) := by decide +kernel
theorem dX9_isRounding_4 : decode cX9_isRounding 4 = .ok (.invokestatic 93, 3) := by decide +kernel
theorem dX9_isRounding_7 : decode cX9_isRounding 7 = .ok (.ifCond .eq 43, 3) := by decide +kernel
theorem dX9_isRounding_10 : decode cX9_isRounding 10 = .ok (.iload_n 1, 1) := by decide +kernel
theorem dX9_isRounding_11 : decode cX9_isRounding 11 = .ok (.bipush 117, 2) := by decide +kernel
theorem dX9_isRounding_13 : decode cX9_isRounding 13 = .ok (.if_icmp .eq 15, 3) := by decide +kernel
theorem dX9_isRounding_16 : decode cX9_isRounding 16 = .ok (.iload_n 1, 1) := by decide +kernel
theorem dX9_isRounding_17 : decode cX9_isRounding 17 = .ok (.bipush 100, 2) := by decide +kernel
theorem dX9_isRounding_19 : decode cX9_isRounding 19 = .ok (.if_icmp .eq 9, 3) := by decide +kernel
theorem dX9_isRounding_22 : decode cX9_isRounding 22 = .ok (.iload_n 1, 1) := by decide +kernel
theorem dX9_isRounding_23 : decode cX9_isRounding 23 = .ok (.bipush 110, 2) := by decide +kernel
theorem dX9_isRounding_25 : decode cX9_isRounding 25 = .ok (.if_icmp .ne 25, 3) := by decide +kernel
theorem dX9_isRounding_28 : decode cX9_isRounding 28 = .ok (.iload_n 2, 1) := by decide +kernel
theorem dX9_isRounding_29 : decode cX9_isRounding 29 = .ok (.bipush 101, 2) := by decide +kernel
theorem dX9_isRounding_31 : decode cX9_isRounding 31 = .ok (.if_icmp .eq 15, 3) := by decide +kernel
theorem dX9_isRounding_34 : decode cX9_isRounding 34 = .ok (.iload_n 2, 1) := by decide +kernel
theorem dX9_isRounding_35 : decode cX9_isRounding 35 = .ok (.bipush 100, 2) := by decide +kernel
theorem dX9_isRounding_37 : decode cX9_isRounding 37 = .ok (.if_icmp .eq 9, 3) := by decide +kernel
theorem dX9_isRounding_40 : decode cX9_isRounding 40 = .ok (.iload_n 2, 1) := by decide +kernel
theorem dX9_isRounding_41 : decode cX9_isRounding 41 = .ok (.bipush 99, 2) := by decide +kernel
theorem dX9_isRounding_43 : decode cX9_isRounding 43 = .ok (.if_icmp .ne 7, 3) := by decide +kernel
theorem dX9_isRounding_46 : decode cX9_isRounding 46 = .ok (.iconst 1, 1) := by decide +kernel
theorem dX9_isRounding_47 : decode cX9_isRounding 47 = .ok (.goto 4, 3) := by decide +kernel
theorem dX9_isRounding_50 : decode cX9_isRounding 50 = .ok (.iconst 0, 1) := by decide +kernel
theorem dX9_isRounding_51 : decode cX9_isRounding 51 = .ok (.ireturn, 1) := by decide +kernel
theorem dX9_addClient_0 : decode cX9_addClient 0 = .ok (.aload_n 0, 1) := by decide +kernel
theorem dX9_addClient_1 : decode cX9_addClient 1 = .ok (.iload_n 1, 1) := by decide +kernel
theorem dX9_addClient_2 : decode cX9_addClient 2 = .ok (.iload_n 2, 1) := by decide +kernel
theorem dX9_addClient_3 : decode cX9_addClient 3 = .ok (.iload_n 3, 1) := by decide +kernel
theorem dX9_addClient_4 : decode cX9_addClient 4 = .ok (.invokestatic 111, 3) := by decide +kernel
theorem dX9_addClient_7 : decode cX9_addClient 7 = .ok (.ifCond .eq 14, 3) := by decide +kernel
theorem dX9_addClient_10 : decode cX9_addClient 10 = .ok (.iload 4, 2) := by decide +kernel
theorem dX9_addClient_12 : decode cX9_addClient 12 = .ok (.iconst 0, 1) := by decide +kernel
theorem dX9_addClient_13 : decode cX9_addClient 13 = .ok (.ldc 115, 2) := by decide +kernel
theorem dX9_addClient_15 : decode cX9_addClient 15 = .ok (.invokestatic 93, 3) := by decide +kernel
theorem dX9_addClient_18 : decode cX9_addClient 18 = .ok (.ifCond .ne 7, 3) := by decide +kernel
theorem dX9_addClient_21 : decode cX9_addClient 21 = .ok (.iconst 1, 1) := by decide +kernel
theorem dX9_addClient_22 : decode cX9_addClient 22 = .ok (.goto 16, 3) := by decide +kernel
theorem dX9_addClient_25 : decode cX9_addClient 25 = .ok (.aload_n 0, 1) := by decide +kernel
theorem dX9_addClient_26 : decode cX9_addClient 26 = .ok (.getfield 90, 3) := by decide +kernel
theorem dX9_addClient_29 : decode cX9_addClient 29 = .ok (.iconst 5, 1) := by decide +kernel
theorem dX9_addClient_30 : decode cX9_addClient 30 = .ok (.if_icmp .ne 7, 3) := by decide +kernel
theorem dX9_addClient_33 : decode cX9_addClient 33 = .ok (.iconst 2, 1) := by decide +kernel
theorem dX9_addClient_34 : decode cX9_addClient 34 = .ok (.goto 4, 3) := by decide +kernel
theorem dX9_addClient_37 : decode cX9_addClient 37 = .ok (.iconst 0, 1) := by decide +kernel
theorem dX9_addClient_38 : decode cX9_addClient 38 = .ok (.invokevirtual 107, 3) := by decide +kernel
theorem dX9_addClient_41 : decode cX9_addClient 41 = .ok (.ifCond .eq 5, 3) := by decide +kernel
theorem dX9_addClient_44 : decode cX9_addClient 44 = .ok (.iconst 0, 1) := by decide +kernel
theorem dX9_addClient_45 : decode cX9_addClient 45 = .ok (.ireturn, 1) := by decide +kernel
theorem dX9_addClient_46 : decode cX9_addClient 46 = .ok (.aload_n 0, 1) := by decide +kernel
theorem dX9_addClient_47 : decode cX9_addClient 47 = .ok (.aload_n 0, 1) := by decide +kernel
theorem dX9_addClient_48 : decode cX9_addClient 48 = .ok (.getfield 90, 3) := by decide +kernel
theorem dX9_addClient_51 : decode cX9_addClient 51 = .ok (.iload_n 1, 1) := by decide +kernel
theorem dX9_addClient_52 : decode cX9_addClient 52 = .ok (.iload_n 2, 1) := by decide +kernel
theorem dX9_addClient_53 : decode cX9_addClient 53 = .ok (.iload_n 3, 1) := by decide +kernel
theorem dX9_addClient_54 : decode cX9_addClient 54 = .ok (.invokevirtual 116, 3) := by decide +kernel
theorem dX9_addClient_57 : decode cX9_addClient 57 = .ok (.aload_n 0, 1) := by decide +kernel
theorem dX9_addClient_58 : decode cX9_addClient 58 = .ok (.getfield 24, 3) := by decide +kernel
theorem dX9_addClient_61 : decode cX9_addClient 61 = .ok (.aload_n 0, 1) := by decide +kernel
theorem dX9_addClient_62 : decode cX9_addClient 62 = .ok (.getfield 90, 3) := by decide +kernel
theorem dX9_addClient_65 : decode cX9_addClient 65 = .ok (.iload 4, 2) := by decide +kernel
theorem dX9_addClient_67 : decode cX9_addClient 67 = .ok (.iastore, 1) := by decide +kernel
theorem dX9_addClient_68 : decode cX9_addClient 68 = .ok (.aload_n 0, 1) := by decide +kernel
theorem dX9_addClient_69 : decode cX9_addClient 69 = .ok (.dup, 1) := by decide +kernel
theorem dX9_addClient_70 : decode cX9_addClient 70 = .ok (.getfield 90, 3) := by decide +kernel
theorem dX9_addClient_73 : decode cX9_addClient 73 = .ok (.iconst 1, 1) := by decide +kernel
theorem dX9_addClient_74 : decode cX9_addClient 74 = .ok (.iadd, 1) := by decide +kernel
theorem dX9_addClient_75 : decode cX9_addClient 75 = .ok (.putfield 90, 3) := by decide +kernel
theorem dX9_addClient_78 : decode cX9_addClient 78 = .ok (.aload_n 0, 1) := by decide +kernel
theorem dX9_addClient_79 : decode cX9_addClient 79 = .ok (.getfield 90, 3) := by decide +kernel
theorem dX9_addClient_82 : decode cX9_addClient 82 = .ok (.iconst 1, 1) := by decide +kernel
theorem dX9_addClient_83 : decode cX9_addClient 83 = .ok (.isub, 1) := by decide +kernel
theorem dX9_addClient_84 : decode cX9_addClient 84 = .ok (.ireturn, 1) := by decide +kernel
theorem dX9_rounds_0 : decode cX9_rounds 0 = .ok (.aload_n 0, 1) := by decide +kernel
theorem dX9_rounds_1 : decode cX9_rounds 1 = .ok (.getfield 13, 3) := by decide +kernel
theorem dX9_rounds_4 : decode cX9_rounds 4 = .ok (.iload_n 1, 1) := by decide +kernel
theorem dX9_rounds_5 : decode cX9_rounds 5 = .ok (.iload_n 2, 1) := by decide +kernel
theorem dX9_rounds_6 : decode cX9_rounds 6 = .ok (.iastore, 1) := by decide +kernel
theorem dX9_rounds_7 : decode cX9_rounds 7 = .ok (.aload_n 0, 1) := by decide +kernel
theorem dX9_rounds_8 : decode cX9_rounds 8 = .ok (.getfield 17, 3) := by decide +kernel
theorem dX9_rounds_11 : decode cX9_rounds 11 = .ok (.iload_n 1, 1) := by decide +kernel
theorem dX9_rounds_12 : decode cX9_rounds 12 = .ok (.iload_n 3, 1) := by decide +kernel
theorem dX9_rounds_13 : decode cX9_rounds 13 = .ok (.castore, 1) := by decide +kernel
theorem dX9_rounds_14 : decode cX9_rounds 14 = .ok (.aload_n 0, 1) := by decide +kernel
theorem dX9_rounds_15 : decode cX9_rounds 15 = .ok (.getfield 21, 3) := by decide +kernel
theorem dX9_rounds_18 : decode cX9_rounds 18 = .ok (.iload_n 1, 1) := by decide +kernel
theorem dX9_rounds_19 : decode cX9_rounds 19 = .ok (.iload 4, 2) := by decide +kernel
theorem dX9_rounds_21 : decode cX9_rounds 21 = .ok (.castore, 1) := by decide +kernel
theorem dX9_rounds_22 : decode cX9_rounds 22 = .ok (.return_, 1) := by decide +kernel
theorem dX9_clients_0 : decode cX9_clients 0 = .ok (.aload_n 0, 1) := by decide +kernel
theorem dX9_clients_1 : decode cX9_clients 1 = .ok (.aload_n 0, 1) := by decide +kernel
theorem dX9_clients_2 : decode cX9_clients 2 = .ok (.getfield 90, 3) := by decide +kernel
theorem dX9_clients_5 : decode cX9_clients 5 = .ok (.invokevirtual 103, 3) := by decide +kernel
theorem dX9_clients_8 : decode cX9_clients 8 = .ok (.ireturn, 1) := by decide +kernel
theorem dX9_setRounding_0 : decode cX9_setRounding 0 = .ok (.aload_n 0, 1) := by decide +kernel
theorem dX9_setRounding_1 : decode cX9_setRounding 1 = .ok (.aload_n 0, 1) := by decide +kernel
theorem dX9_setRounding_2 : decode cX9_setRounding 2 = .ok (.iload_n 1, 1) := by decide +kernel
theorem dX9_setRounding_3 : decode cX9_setRounding 3 = .ok (.invokevirtual 120, 3) := by decide +kernel
theorem dX9_setRounding_6 : decode cX9_setRounding 6 = .ok (.ifCond .eq 7, 3) := by decide +kernel
theorem dX9_setRounding_9 : decode cX9_setRounding 9 = .ok (.iconst 1, 1) := by decide +kernel
theorem dX9_setRounding_10 : decode cX9_setRounding 10 = .ok (.goto 18, 3) := by decide +kernel
theorem dX9_setRounding_13 : decode cX9_setRounding 13 = .ok (.iload_n 2, 1) := by decide +kernel
theorem dX9_setRounding_14 : decode cX9_setRounding 14 = .ok (.iload_n 3, 1) := by decide +kernel
theorem dX9_setRounding_15 : decode cX9_setRounding 15 = .ok (.iload 4, 2) := by decide +kernel
theorem dX9_setRounding_17 : decode cX9_setRounding 17 = .ok (.invokestatic 111, 3) := by decide +kernel
theorem dX9_setRounding_20 : decode cX9_setRounding 20 = .ok (.ifCond .eq 7, 3) := by decide +kernel
theorem dX9_setRounding_23 : decode cX9_setRounding 23 = .ok (.iconst 0, 1) := by decide +kernel
theorem dX9_setRounding_24 : decode cX9_setRounding 24 = .ok (.goto 4, 3) := by decide +kernel
theorem dX9_setRounding_27 : decode cX9_setRounding 27 = .ok (.iconst 2, 1) := by decide +kernel
theorem dX9_setRounding_28 : decode cX9_setRounding 28 = .ok (.invokevirtual 107, 3) := by decide +kernel
theorem dX9_setRounding_31 : decode cX9_setRounding 31 = .ok (.ifCond .eq 5, 3) := by decide +kernel
theorem dX9_setRounding_34 : decode cX9_setRounding 34 = .ok (.iconst 0, 1) := by decide +kernel
theorem dX9_setRounding_35 : decode cX9_setRounding 35 = .ok (.ireturn, 1) := by decide +kernel
theorem dX9_setRounding_36 : decode cX9_setRounding 36 = .ok (.aload_n 0, 1) := by decide +kernel
theorem dX9_setRounding_37 : decode cX9_setRounding 37 = .ok (.getfield 13, 3) := by decide +kernel
theorem dX9_setRounding_40 : decode cX9_setRounding 40 = .ok (.iload_n 1, 1) := by decide +kernel
theorem dX9_setRounding_41 : decode cX9_setRounding 41 = .ok (.iaload, 1) := by decide +kernel
theorem dX9_setRounding_42 : decode cX9_setRounding 42 = .ok (.istore 5, 2) := by decide +kernel
theorem dX9_setRounding_44 : decode cX9_setRounding 44 = .ok (.aload_n 0, 1) := by decide +kernel
theorem dX9_setRounding_45 : decode cX9_setRounding 45 = .ok (.iload_n 1, 1) := by decide +kernel
theorem dX9_setRounding_46 : decode cX9_setRounding 46 = .ok (.iload_n 2, 1) := by decide +kernel
theorem dX9_setRounding_47 : decode cX9_setRounding 47 = .ok (.iload_n 3, 1) := by decide +kernel
theorem dX9_setRounding_48 : decode cX9_setRounding 48 = .ok (.iload 4, 2) := by decide +kernel
theorem dX9_setRounding_50 : decode cX9_setRounding 50 = .ok (.invokevirtual 116, 3) := by decide +kernel
theorem dX9_setRounding_53 : decode cX9_setRounding 53 = .ok (.iload 5, 2) := by decide +kernel
theorem dX9_setRounding_55 : decode cX9_setRounding 55 = .ok (.ireturn, 1) := by decide +kernel
theorem dX9_setRate_0 : decode cX9_setRate 0 = .ok (.aload_n 0, 1) := by decide +kernel
theorem dX9_setRate_1 : decode cX9_setRate 1 = .ok (.aload_n 0, 1) := by decide +kernel
theorem dX9_setRate_2 : decode cX9_setRate 2 = .ok (.iload_n 1, 1) := by decide +kernel
theorem dX9_setRate_3 : decode cX9_setRate 3 = .ok (.invokevirtual 120, 3) := by decide +kernel
theorem dX9_setRate_6 : decode cX9_setRate 6 = .ok (.ifCond .eq 7, 3) := by decide +kernel
theorem dX9_setRate_9 : decode cX9_setRate 9 = .ok (.iconst 1, 1) := by decide +kernel
theorem dX9_setRate_10 : decode cX9_setRate 10 = .ok (.goto 18, 3) := by decide +kernel
theorem dX9_setRate_13 : decode cX9_setRate 13 = .ok (.iload_n 2, 1) := by decide +kernel
theorem dX9_setRate_14 : decode cX9_setRate 14 = .ok (.iconst 0, 1) := by decide +kernel
theorem dX9_setRate_15 : decode cX9_setRate 15 = .ok (.ldc 115, 2) := by decide +kernel
theorem dX9_setRate_17 : decode cX9_setRate 17 = .ok (.invokestatic 93, 3) := by decide +kernel
theorem dX9_setRate_20 : decode cX9_setRate 20 = .ok (.ifCond .eq 7, 3) := by decide +kernel
theorem dX9_setRate_23 : decode cX9_setRate 23 = .ok (.iconst 0, 1) := by decide +kernel
theorem dX9_setRate_24 : decode cX9_setRate 24 = .ok (.goto 4, 3) := by decide +kernel
theorem dX9_setRate_27 : decode cX9_setRate 27 = .ok (.iconst 2, 1) := by decide +kernel
theorem dX9_setRate_28 : decode cX9_setRate 28 = .ok (.invokevirtual 107, 3) := by decide +kernel
theorem dX9_setRate_31 : decode cX9_setRate 31 = .ok (.ifCond .eq 5, 3) := by decide +kernel
theorem dX9_setRate_34 : decode cX9_setRate 34 = .ok (.iconst 0, 1) := by decide +kernel
theorem dX9_setRate_35 : decode cX9_setRate 35 = .ok (.ireturn, 1) := by decide +kernel
theorem dX9_setRate_36 : decode cX9_setRate 36 = .ok (.aload_n 0, 1) := by decide +kernel
theorem dX9_setRate_37 : decode cX9_setRate 37 = .ok (.getfield 24, 3) := by decide +kernel
theorem dX9_setRate_40 : decode cX9_setRate 40 = .ok (.iload_n 1, 1) := by decide +kernel
theorem dX9_setRate_41 : decode cX9_setRate 41 = .ok (.iaload, 1) := by decide +kernel
theorem dX9_setRate_42 : decode cX9_setRate 42 = .ok (.istore_n 3, 1) := by decide +kernel
theorem dX9_setRate_43 : decode cX9_setRate 43 = .ok (.aload_n 0, 1) := by decide +kernel
theorem dX9_setRate_44 : decode cX9_setRate 44 = .ok (.getfield 24, 3) := by decide +kernel
theorem dX9_setRate_47 : decode cX9_setRate 47 = .ok (.iload_n 1, 1) := by decide +kernel
theorem dX9_setRate_48 : decode cX9_setRate 48 = .ok (.iload_n 2, 1) := by decide +kernel
theorem dX9_setRate_49 : decode cX9_setRate 49 = .ok (.iastore, 1) := by decide +kernel
theorem dX9_setRate_50 : decode cX9_setRate 50 = .ok (.iload_n 3, 1) := by decide +kernel
theorem dX9_setRate_51 : decode cX9_setRate 51 = .ok (.ireturn, 1) := by decide +kernel
theorem dX9_setBudget_0 : decode cX9_setBudget 0 = .ok (.aload_n 0, 1) := by decide +kernel
theorem dX9_setBudget_1 : decode cX9_setBudget 1 = .ok (.aload_n 0, 1) := by decide +kernel
theorem dX9_setBudget_2 : decode cX9_setBudget 2 = .ok (.iload_n 1, 1) := by decide +kernel
theorem dX9_setBudget_3 : decode cX9_setBudget 3 = .ok (.invokevirtual 120, 3) := by decide +kernel
theorem dX9_setBudget_6 : decode cX9_setBudget 6 = .ok (.ifCond .eq 7, 3) := by decide +kernel
theorem dX9_setBudget_9 : decode cX9_setBudget 9 = .ok (.iconst 1, 1) := by decide +kernel
theorem dX9_setBudget_10 : decode cX9_setBudget 10 = .ok (.goto 19, 3) := by decide +kernel
theorem dX9_setBudget_13 : decode cX9_setBudget 13 = .ok (.iload_n 2, 1) := by decide +kernel
theorem dX9_setBudget_14 : decode cX9_setBudget 14 = .ok (.iconst 0, 1) := by decide +kernel
theorem dX9_setBudget_15 : decode cX9_setBudget 15 = .ok (.sipush 9999, 3) := by decide +kernel
theorem dX9_setBudget_18 : decode cX9_setBudget 18 = .ok (.invokestatic 93, 3) := by decide +kernel
theorem dX9_setBudget_21 : decode cX9_setBudget 21 = .ok (.ifCond .eq 7, 3) := by decide +kernel
theorem dX9_setBudget_24 : decode cX9_setBudget 24 = .ok (.iconst 0, 1) := by decide +kernel
theorem dX9_setBudget_25 : decode cX9_setBudget 25 = .ok (.goto 4, 3) := by decide +kernel
theorem dX9_setBudget_28 : decode cX9_setBudget 28 = .ok (.iconst 2, 1) := by decide +kernel
theorem dX9_setBudget_29 : decode cX9_setBudget 29 = .ok (.invokevirtual 107, 3) := by decide +kernel
theorem dX9_setBudget_32 : decode cX9_setBudget 32 = .ok (.ifCond .eq 5, 3) := by decide +kernel
theorem dX9_setBudget_35 : decode cX9_setBudget 35 = .ok (.iconst 0, 1) := by decide +kernel
theorem dX9_setBudget_36 : decode cX9_setBudget 36 = .ok (.ireturn, 1) := by decide +kernel
theorem dX9_setBudget_37 : decode cX9_setBudget 37 = .ok (.aload_n 0, 1) := by decide +kernel
theorem dX9_setBudget_38 : decode cX9_setBudget 38 = .ok (.getfield 27, 3) := by decide +kernel
theorem dX9_setBudget_41 : decode cX9_setBudget 41 = .ok (.iload_n 1, 1) := by decide +kernel
theorem dX9_setBudget_42 : decode cX9_setBudget 42 = .ok (.iaload, 1) := by decide +kernel
theorem dX9_setBudget_43 : decode cX9_setBudget 43 = .ok (.istore_n 3, 1) := by decide +kernel
theorem dX9_setBudget_44 : decode cX9_setBudget 44 = .ok (.aload_n 0, 1) := by decide +kernel
theorem dX9_setBudget_45 : decode cX9_setBudget 45 = .ok (.getfield 27, 3) := by decide +kernel
theorem dX9_setBudget_48 : decode cX9_setBudget 48 = .ok (.iload_n 1, 1) := by decide +kernel
theorem dX9_setBudget_49 : decode cX9_setBudget 49 = .ok (.iload_n 2, 1) := by decide +kernel
theorem dX9_setBudget_50 : decode cX9_setBudget 50 = .ok (.iastore, 1) := by decide +kernel
theorem dX9_setBudget_51 : decode cX9_setBudget 51 = .ok (.iload_n 3, 1) := by decide +kernel
theorem dX9_setBudget_52 : decode cX9_setBudget 52 = .ok (.ireturn, 1) := by decide +kernel
theorem dX9_endsAt_0 : decode cX9_endsAt 0 = .ok (.aload_n 0, 1) := by decide +kernel
theorem dX9_endsAt_1 : decode cX9_endsAt 1 = .ok (.getfield 39, 3) := by decide +kernel
theorem dX9_endsAt_4 : decode cX9_endsAt 4 = .ok (.iload_n 1, 1) := by decide +kernel
theorem dX9_endsAt_5 : decode cX9_endsAt 5 = .ok (.caload, 1) := by decide +kernel
theorem dX9_endsAt_6 : decode cX9_endsAt 6 = .ok (.bipush 114, 2) := by decide +kernel
theorem dX9_endsAt_8 : decode cX9_endsAt 8 = .ok (.if_icmp .ne 10, 3) := by decide +kernel
theorem dX9_endsAt_11 : decode cX9_endsAt 11 = .ok (.aload_n 0, 1) := by decide +kernel
theorem dX9_endsAt_12 : decode cX9_endsAt 12 = .ok (.getfield 100, 3) := by decide +kernel
theorem dX9_endsAt_15 : decode cX9_endsAt 15 = .ok (.goto 9, 3) := by decide +kernel
theorem dX9_endsAt_18 : decode cX9_endsAt 18 = .ok (.aload_n 0, 1) := by decide +kernel
theorem dX9_endsAt_19 : decode cX9_endsAt 19 = .ok (.getfield 36, 3) := by decide +kernel
theorem dX9_endsAt_22 : decode cX9_endsAt 22 = .ok (.iload_n 1, 1) := by decide +kernel
theorem dX9_endsAt_23 : decode cX9_endsAt 23 = .ok (.iaload, 1) := by decide +kernel
theorem dX9_endsAt_24 : decode cX9_endsAt 24 = .ok (.ireturn, 1) := by decide +kernel
theorem dX9_inState_0 : decode cX9_inState 0 = .ok (.iconst 0, 1) := by decide +kernel
theorem dX9_inState_1 : decode cX9_inState 1 = .ok (.istore_n 2, 1) := by decide +kernel
theorem dX9_inState_2 : decode cX9_inState 2 = .ok (.iconst 0, 1) := by decide +kernel
theorem dX9_inState_3 : decode cX9_inState 3 = .ok (.istore_n 3, 1) := by decide +kernel
theorem dX9_inState_4 : decode cX9_inState 4 = .ok (.iload_n 3, 1) := by decide +kernel
theorem dX9_inState_5 : decode cX9_inState 5 = .ok (.aload_n 0, 1) := by decide +kernel
theorem dX9_inState_6 : decode cX9_inState 6 = .ok (.getfield 97, 3) := by decide +kernel
theorem dX9_inState_9 : decode cX9_inState 9 = .ok (.if_icmp .ge 27, 3) := by decide +kernel
theorem dX9_inState_12 : decode cX9_inState 12 = .ok (.iload_n 2, 1) := by decide +kernel
theorem dX9_inState_13 : decode cX9_inState 13 = .ok (.aload_n 0, 1) := by decide +kernel
theorem dX9_inState_14 : decode cX9_inState 14 = .ok (.getfield 39, 3) := by decide +kernel
theorem dX9_inState_17 : decode cX9_inState 17 = .ok (.iload_n 3, 1) := by decide +kernel
theorem dX9_inState_18 : decode cX9_inState 18 = .ok (.caload, 1) := by decide +kernel
theorem dX9_inState_19 : decode cX9_inState 19 = .ok (.iload_n 1, 1) := by decide +kernel
theorem dX9_inState_20 : decode cX9_inState 20 = .ok (.if_icmp .ne 7, 3) := by decide +kernel
theorem dX9_inState_23 : decode cX9_inState 23 = .ok (.iconst 1, 1) := by decide +kernel
theorem dX9_inState_24 : decode cX9_inState 24 = .ok (.goto 4, 3) := by decide +kernel
theorem dX9_inState_27 : decode cX9_inState 27 = .ok (.iconst 0, 1) := by decide +kernel
theorem dX9_inState_28 : decode cX9_inState 28 = .ok (.iadd, 1) := by decide +kernel
theorem dX9_inState_29 : decode cX9_inState 29 = .ok (.istore_n 2, 1) := by decide +kernel
theorem dX9_inState_30 : decode cX9_inState 30 = .ok (.iinc 3 1, 3) := by decide +kernel
theorem dX9_inState_33 : decode cX9_inState 33 = .ok (.goto (-29), 3) := by decide +kernel
theorem dX9_inState_36 : decode cX9_inState 36 = .ok (.iload_n 2, 1) := by decide +kernel
theorem dX9_inState_37 : decode cX9_inState 37 = .ok (.ireturn, 1) := by decide +kernel
theorem dX9_makes_0 : decode cX9_makes 0 = .ok (.aload_n 0, 1) := by decide +kernel
theorem dX9_makes_1 : decode cX9_makes 1 = .ok (.getfield 30, 3) := by decide +kernel
theorem dX9_makes_4 : decode cX9_makes 4 = .ok (.aload_n 0, 1) := by decide +kernel
theorem dX9_makes_5 : decode cX9_makes 5 = .ok (.getfield 97, 3) := by decide +kernel
theorem dX9_makes_8 : decode cX9_makes 8 = .ok (.iload_n 1, 1) := by decide +kernel
theorem dX9_makes_9 : decode cX9_makes 9 = .ok (.iastore, 1) := by decide +kernel
theorem dX9_makes_10 : decode cX9_makes 10 = .ok (.aload_n 0, 1) := by decide +kernel
theorem dX9_makes_11 : decode cX9_makes 11 = .ok (.getfield 33, 3) := by decide +kernel
theorem dX9_makes_14 : decode cX9_makes 14 = .ok (.aload_n 0, 1) := by decide +kernel
theorem dX9_makes_15 : decode cX9_makes 15 = .ok (.getfield 97, 3) := by decide +kernel
theorem dX9_makes_18 : decode cX9_makes 18 = .ok (.iload_n 2, 1) := by decide +kernel
theorem dX9_makes_19 : decode cX9_makes 19 = .ok (.iastore, 1) := by decide +kernel
theorem dX9_makes_20 : decode cX9_makes 20 = .ok (.aload_n 0, 1) := by decide +kernel
theorem dX9_makes_21 : decode cX9_makes 21 = .ok (.getfield 36, 3) := by decide +kernel
theorem dX9_makes_24 : decode cX9_makes 24 = .ok (.aload_n 0, 1) := by decide +kernel
theorem dX9_makes_25 : decode cX9_makes 25 = .ok (.getfield 97, 3) := by decide +kernel
theorem dX9_makes_28 : decode cX9_makes 28 = .ok (.iload_n 3, 1) := by decide +kernel
theorem dX9_makes_29 : decode cX9_makes 29 = .ok (.iastore, 1) := by decide +kernel
theorem dX9_makes_30 : decode cX9_makes 30 = .ok (.aload_n 0, 1) := by decide +kernel
theorem dX9_makes_31 : decode cX9_makes 31 = .ok (.getfield 39, 3) := by decide +kernel
theorem dX9_makes_34 : decode cX9_makes 34 = .ok (.aload_n 0, 1) := by decide +kernel
theorem dX9_makes_35 : decode cX9_makes 35 = .ok (.getfield 97, 3) := by decide +kernel
theorem dX9_makes_38 : decode cX9_makes 38 = .ok (.iload 4, 2) := by decide +kernel
theorem dX9_makes_40 : decode cX9_makes 40 = .ok (.castore, 1) := by decide +kernel
theorem dX9_makes_41 : decode cX9_makes 41 = .ok (.aload_n 0, 1) := by decide +kernel
theorem dX9_makes_42 : decode cX9_makes 42 = .ok (.dup, 1) := by decide +kernel
theorem dX9_makes_43 : decode cX9_makes 43 = .ok (.getfield 97, 3) := by decide +kernel
theorem dX9_makes_46 : decode cX9_makes 46 = .ok (.iconst 1, 1) := by decide +kernel
theorem dX9_makes_47 : decode cX9_makes 47 = .ok (.iadd, 1) := by decide +kernel
theorem dX9_makes_48 : decode cX9_makes 48 = .ok (.putfield 97, 3) := by decide +kernel
theorem dX9_makes_51 : decode cX9_makes 51 = .ok (.aload_n 0, 1) := by decide +kernel
theorem dX9_makes_52 : decode cX9_makes 52 = .ok (.getfield 97, 3) := by decide +kernel
theorem dX9_makes_55 : decode cX9_makes 55 = .ok (.iconst 1, 1) := by decide +kernel
theorem dX9_makes_56 : decode cX9_makes 56 = .ok (.isub, 1) := by decide +kernel
theorem dX9_makes_57 : decode cX9_makes 57 = .ok (.ireturn, 1) := by decide +kernel
theorem dX9_start_0 : decode cX9_start 0 = .ok (.aload_n 0, 1) := by decide +kernel
theorem dX9_start_1 : decode cX9_start 1 = .ok (.aload_n 0, 1) := by decide +kernel
theorem dX9_start_2 : decode cX9_start 2 = .ok (.iload_n 1, 1) := by decide +kernel
theorem dX9_start_3 : decode cX9_start 3 = .ok (.invokevirtual 120, 3) := by decide +kernel
theorem dX9_start_6 : decode cX9_start 6 = .ok (.ifCond .eq 7, 3) := by decide +kernel
theorem dX9_start_9 : decode cX9_start 9 = .ok (.iconst 1, 1) := by decide +kernel
theorem dX9_start_10 : decode cX9_start 10 = .ok (.goto 27, 3) := by decide +kernel
theorem dX9_start_13 : decode cX9_start 13 = .ok (.aload_n 0, 1) := by decide +kernel
theorem dX9_start_14 : decode cX9_start 14 = .ok (.getfield 97, 3) := by decide +kernel
theorem dX9_start_17 : decode cX9_start 17 = .ok (.bipush 24, 2) := by decide +kernel
theorem dX9_start_19 : decode cX9_start 19 = .ok (.if_icmp .eq 13, 3) := by decide +kernel
theorem dX9_start_22 : decode cX9_start 22 = .ok (.aload_n 0, 1) := by decide +kernel
theorem dX9_start_23 : decode cX9_start 23 = .ok (.bipush 114, 2) := by decide +kernel
theorem dX9_start_25 : decode cX9_start 25 = .ok (.invokevirtual 123, 3) := by decide +kernel
theorem dX9_start_28 : decode cX9_start 28 = .ok (.iconst 4, 1) := by decide +kernel
theorem dX9_start_29 : decode cX9_start 29 = .ok (.if_icmp .ne 7, 3) := by decide +kernel
theorem dX9_start_32 : decode cX9_start 32 = .ok (.iconst 2, 1) := by decide +kernel
theorem dX9_start_33 : decode cX9_start 33 = .ok (.goto 4, 3) := by decide +kernel
theorem dX9_start_36 : decode cX9_start 36 = .ok (.iconst 0, 1) := by decide +kernel
theorem dX9_start_37 : decode cX9_start 37 = .ok (.invokevirtual 107, 3) := by decide +kernel
theorem dX9_start_40 : decode cX9_start 40 = .ok (.ifCond .eq 7, 3) := by decide +kernel
theorem dX9_start_43 : decode cX9_start 43 = .ok (.iconst 0, 1) := by decide +kernel
theorem dX9_start_44 : decode cX9_start 44 = .ok (.goto 18, 3) := by decide +kernel
theorem dX9_start_47 : decode cX9_start 47 = .ok (.aload_n 0, 1) := by decide +kernel
theorem dX9_start_48 : decode cX9_start 48 = .ok (.iload_n 1, 1) := by decide +kernel
theorem dX9_start_49 : decode cX9_start 49 = .ok (.aload_n 0, 1) := by decide +kernel
theorem dX9_start_50 : decode cX9_start 50 = .ok (.getfield 100, 3) := by decide +kernel
theorem dX9_start_53 : decode cX9_start 53 = .ok (.aload_n 0, 1) := by decide +kernel
theorem dX9_start_54 : decode cX9_start 54 = .ok (.getfield 100, 3) := by decide +kernel
theorem dX9_start_57 : decode cX9_start 57 = .ok (.bipush 114, 2) := by decide +kernel
theorem dX9_start_59 : decode cX9_start 59 = .ok (.invokevirtual 127, 3) := by decide +kernel
theorem dX9_start_62 : decode cX9_start 62 = .ok (.ireturn, 1) := by decide +kernel
theorem dX9_stop_0 : decode cX9_stop 0 = .ok (.aload_n 0, 1) := by decide +kernel
theorem dX9_stop_1 : decode cX9_stop 1 = .ok (.aload_n 0, 1) := by decide +kernel
theorem dX9_stop_2 : decode cX9_stop 2 = .ok (.iload_n 1, 1) := by decide +kernel
theorem dX9_stop_3 : decode cX9_stop 3 = .ok (.invokevirtual 131, 3) := by decide +kernel
theorem dX9_stop_6 : decode cX9_stop 6 = .ok (.ifCond .eq 7, 3) := by decide +kernel
theorem dX9_stop_9 : decode cX9_stop 9 = .ok (.iconst 1, 1) := by decide +kernel
theorem dX9_stop_10 : decode cX9_stop 10 = .ok (.goto 19, 3) := by decide +kernel
theorem dX9_stop_13 : decode cX9_stop 13 = .ok (.aload_n 0, 1) := by decide +kernel
theorem dX9_stop_14 : decode cX9_stop 14 = .ok (.getfield 39, 3) := by decide +kernel
theorem dX9_stop_17 : decode cX9_stop 17 = .ok (.iload_n 1, 1) := by decide +kernel
theorem dX9_stop_18 : decode cX9_stop 18 = .ok (.caload, 1) := by decide +kernel
theorem dX9_stop_19 : decode cX9_stop 19 = .ok (.bipush 114, 2) := by decide +kernel
theorem dX9_stop_21 : decode cX9_stop 21 = .ok (.if_icmp .eq 7, 3) := by decide +kernel
theorem dX9_stop_24 : decode cX9_stop 24 = .ok (.iconst 2, 1) := by decide +kernel
theorem dX9_stop_25 : decode cX9_stop 25 = .ok (.goto 4, 3) := by decide +kernel
theorem dX9_stop_28 : decode cX9_stop 28 = .ok (.iconst 0, 1) := by decide +kernel
theorem dX9_stop_29 : decode cX9_stop 29 = .ok (.invokevirtual 107, 3) := by decide +kernel
theorem dX9_stop_32 : decode cX9_stop 32 = .ok (.ifCond .eq 5, 3) := by decide +kernel
theorem dX9_stop_35 : decode cX9_stop 35 = .ok (.iconst 0, 1) := by decide +kernel
theorem dX9_stop_36 : decode cX9_stop 36 = .ok (.ireturn, 1) := by decide +kernel
theorem dX9_stop_37 : decode cX9_stop 37 = .ok (.aload_n 0, 1) := by decide +kernel
theorem dX9_stop_38 : decode cX9_stop 38 = .ok (.getfield 39, 3) := by decide +kernel
theorem dX9_stop_41 : decode cX9_stop 41 = .ok (.iload_n 1, 1) := by decide +kernel
theorem dX9_stop_42 : decode cX9_stop 42 = .ok (.bipush 101, 2) := by decide +kernel
theorem dX9_stop_44 : decode cX9_stop 44 = .ok (.castore, 1) := by decide +kernel
theorem dX9_stop_45 : decode cX9_stop 45 = .ok (.aload_n 0, 1) := by decide +kernel
theorem dX9_stop_46 : decode cX9_stop 46 = .ok (.getfield 36, 3) := by decide +kernel
theorem dX9_stop_49 : decode cX9_stop 49 = .ok (.iload_n 1, 1) := by decide +kernel
theorem dX9_stop_50 : decode cX9_stop 50 = .ok (.aload_n 0, 1) := by decide +kernel
theorem dX9_stop_51 : decode cX9_stop 51 = .ok (.getfield 100, 3) := by decide +kernel
theorem dX9_stop_54 : decode cX9_stop 54 = .ok (.iastore, 1) := by decide +kernel
theorem dX9_stop_55 : decode cX9_stop 55 = .ok (.aload_n 0, 1) := by decide +kernel
theorem dX9_stop_56 : decode cX9_stop 56 = .ok (.getfield 100, 3) := by decide +kernel
theorem dX9_stop_59 : decode cX9_stop 59 = .ok (.aload_n 0, 1) := by decide +kernel
theorem dX9_stop_60 : decode cX9_stop 60 = .ok (.getfield 33, 3) := by decide +kernel
theorem dX9_stop_63 : decode cX9_stop 63 = .ok (.iload_n 1, 1) := by decide +kernel
theorem dX9_stop_64 : decode cX9_stop 64 = .ok (.iaload, 1) := by decide +kernel
theorem dX9_stop_65 : decode cX9_stop 65 = .ok (.isub, 1) := by decide +kernel
theorem dX9_stop_66 : decode cX9_stop 66 = .ok (.ireturn, 1) := by decide +kernel
theorem dX9_addEntry_0 : decode cX9_addEntry 0 = .ok (.aload_n 0, 1) := by decide +kernel
theorem dX9_addEntry_1 : decode cX9_addEntry 1 = .ok (.aload_n 0, 1) := by decide +kernel
theorem dX9_addEntry_2 : decode cX9_addEntry 2 = .ok (.iload_n 1, 1) := by decide +kernel
theorem dX9_addEntry_3 : decode cX9_addEntry 3 = .ok (.invokevirtual 120, 3) := by decide +kernel
theorem dX9_addEntry_6 : decode cX9_addEntry 6 = .ok (.ifCond .eq 7, 3) := by decide +kernel
theorem dX9_addEntry_9 : decode cX9_addEntry 9 = .ok (.iconst 1, 1) := by decide +kernel
theorem dX9_addEntry_10 : decode cX9_addEntry 10 = .ok (.goto 38, 3) := by decide +kernel
theorem dX9_addEntry_13 : decode cX9_addEntry 13 = .ok (.iload_n 2, 1) := by decide +kernel
theorem dX9_addEntry_14 : decode cX9_addEntry 14 = .ok (.ifCond .lt 16, 3) := by decide +kernel
theorem dX9_addEntry_17 : decode cX9_addEntry 17 = .ok (.iload_n 3, 1) := by decide +kernel
theorem dX9_addEntry_18 : decode cX9_addEntry 18 = .ok (.iload_n 2, 1) := by decide +kernel
theorem dX9_addEntry_19 : decode cX9_addEntry 19 = .ok (.if_icmp .lt 11, 3) := by decide +kernel
theorem dX9_addEntry_22 : decode cX9_addEntry 22 = .ok (.iload_n 3, 1) := by decide +kernel
theorem dX9_addEntry_23 : decode cX9_addEntry 23 = .ok (.aload_n 0, 1) := by decide +kernel
theorem dX9_addEntry_24 : decode cX9_addEntry 24 = .ok (.getfield 100, 3) := by decide +kernel
theorem dX9_addEntry_27 : decode cX9_addEntry 27 = .ok (.if_icmp .le 7, 3) := by decide +kernel
theorem dX9_addEntry_30 : decode cX9_addEntry 30 = .ok (.iconst 2, 1) := by decide +kernel
theorem dX9_addEntry_31 : decode cX9_addEntry 31 = .ok (.goto 17, 3) := by decide +kernel
theorem dX9_addEntry_34 : decode cX9_addEntry 34 = .ok (.aload_n 0, 1) := by decide +kernel
theorem dX9_addEntry_35 : decode cX9_addEntry 35 = .ok (.getfield 97, 3) := by decide +kernel
theorem dX9_addEntry_38 : decode cX9_addEntry 38 = .ok (.bipush 24, 2) := by decide +kernel
theorem dX9_addEntry_40 : decode cX9_addEntry 40 = .ok (.if_icmp .ne 7, 3) := by decide +kernel
theorem dX9_addEntry_43 : decode cX9_addEntry 43 = .ok (.iconst 3, 1) := by decide +kernel
theorem dX9_addEntry_44 : decode cX9_addEntry 44 = .ok (.goto 4, 3) := by decide +kernel
theorem dX9_addEntry_47 : decode cX9_addEntry 47 = .ok (.iconst 0, 1) := by decide +kernel
theorem dX9_addEntry_48 : decode cX9_addEntry 48 = .ok (.invokevirtual 107, 3) := by decide +kernel
theorem dX9_addEntry_51 : decode cX9_addEntry 51 = .ok (.ifCond .eq 7, 3) := by decide +kernel
theorem dX9_addEntry_54 : decode cX9_addEntry 54 = .ok (.iconst 0, 1) := by decide +kernel
theorem dX9_addEntry_55 : decode cX9_addEntry 55 = .ok (.goto 12, 3) := by decide +kernel
theorem dX9_addEntry_58 : decode cX9_addEntry 58 = .ok (.aload_n 0, 1) := by decide +kernel
theorem dX9_addEntry_59 : decode cX9_addEntry 59 = .ok (.iload_n 1, 1) := by decide +kernel
theorem dX9_addEntry_60 : decode cX9_addEntry 60 = .ok (.iload_n 2, 1) := by decide +kernel
theorem dX9_addEntry_61 : decode cX9_addEntry 61 = .ok (.iload_n 3, 1) := by decide +kernel
theorem dX9_addEntry_62 : decode cX9_addEntry 62 = .ok (.bipush 101, 2) := by decide +kernel
theorem dX9_addEntry_64 : decode cX9_addEntry 64 = .ok (.invokevirtual 127, 3) := by decide +kernel
theorem dX9_addEntry_67 : decode cX9_addEntry 67 = .ok (.ireturn, 1) := by decide +kernel
theorem dX9_isOpen_0 : decode cX9_isOpen 0 = .ok (.aload_n 0, 1) := by decide +kernel
theorem dX9_isOpen_1 : decode cX9_isOpen 1 = .ok (.getfield 39, 3) := by decide +kernel
theorem dX9_isOpen_4 : decode cX9_isOpen 4 = .ok (.iload_n 1, 1) := by decide +kernel
theorem dX9_isOpen_5 : decode cX9_isOpen 5 = .ok (.caload, 1) := by decide +kernel
theorem dX9_isOpen_6 : decode cX9_isOpen 6 = .ok (.bipush 114, 2) := by decide +kernel
theorem dX9_isOpen_8 : decode cX9_isOpen 8 = .ok (.if_icmp .eq 14, 3) := by decide +kernel
theorem dX9_isOpen_11 : decode cX9_isOpen 11 = .ok (.aload_n 0, 1) := by decide +kernel
theorem dX9_isOpen_12 : decode cX9_isOpen 12 = .ok (.getfield 39, 3) := by decide +kernel
theorem dX9_isOpen_15 : decode cX9_isOpen 15 = .ok (.iload_n 1, 1) := by decide +kernel
theorem dX9_isOpen_16 : decode cX9_isOpen 16 = .ok (.caload, 1) := by decide +kernel
theorem dX9_isOpen_17 : decode cX9_isOpen 17 = .ok (.bipush 101, 2) := by decide +kernel
theorem dX9_isOpen_19 : decode cX9_isOpen 19 = .ok (.if_icmp .ne 7, 3) := by decide +kernel
theorem dX9_isOpen_22 : decode cX9_isOpen 22 = .ok (.iconst 1, 1) := by decide +kernel
theorem dX9_isOpen_23 : decode cX9_isOpen 23 = .ok (.goto 4, 3) := by decide +kernel
theorem dX9_isOpen_26 : decode cX9_isOpen 26 = .ok (.iconst 0, 1) := by decide +kernel
theorem dX9_isOpen_27 : decode cX9_isOpen 27 = .ok (.ireturn, 1) := by decide +kernel
theorem dX9_setStart_0 : decode cX9_setStart 0 = .ok (.aload_n 0, 1) := by decide +kernel
theorem dX9_setStart_1 : decode cX9_setStart 1 = .ok (.aload_n 0, 1) := by decide +kernel
theorem dX9_setStart_2 : decode cX9_setStart 2 = .ok (.iload_n 1, 1) := by decide +kernel
theorem dX9_setStart_3 : decode cX9_setStart 3 = .ok (.invokevirtual 131, 3) := by decide +kernel
theorem dX9_setStart_6 : decode cX9_setStart 6 = .ok (.ifCond .eq 7, 3) := by decide +kernel
theorem dX9_setStart_9 : decode cX9_setStart 9 = .ok (.iconst 1, 1) := by decide +kernel
theorem dX9_setStart_10 : decode cX9_setStart 10 = .ok (.goto 33, 3) := by decide +kernel
theorem dX9_setStart_13 : decode cX9_setStart 13 = .ok (.aload_n 0, 1) := by decide +kernel
theorem dX9_setStart_14 : decode cX9_setStart 14 = .ok (.iload_n 1, 1) := by decide +kernel
theorem dX9_setStart_15 : decode cX9_setStart 15 = .ok (.invokevirtual 134, 3) := by decide +kernel
theorem dX9_setStart_18 : decode cX9_setStart 18 = .ok (.ifCond .ne 7, 3) := by decide +kernel
theorem dX9_setStart_21 : decode cX9_setStart 21 = .ok (.iconst 2, 1) := by decide +kernel
theorem dX9_setStart_22 : decode cX9_setStart 22 = .ok (.goto 21, 3) := by decide +kernel
theorem dX9_setStart_25 : decode cX9_setStart 25 = .ok (.iload_n 2, 1) := by decide +kernel
theorem dX9_setStart_26 : decode cX9_setStart 26 = .ok (.iconst 0, 1) := by decide +kernel
theorem dX9_setStart_27 : decode cX9_setStart 27 = .ok (.aload_n 0, 1) := by decide +kernel
theorem dX9_setStart_28 : decode cX9_setStart 28 = .ok (.iload_n 1, 1) := by decide +kernel
theorem dX9_setStart_29 : decode cX9_setStart 29 = .ok (.invokevirtual 137, 3) := by decide +kernel
theorem dX9_setStart_32 : decode cX9_setStart 32 = .ok (.invokestatic 93, 3) := by decide +kernel
theorem dX9_setStart_35 : decode cX9_setStart 35 = .ok (.ifCond .eq 7, 3) := by decide +kernel
theorem dX9_setStart_38 : decode cX9_setStart 38 = .ok (.iconst 0, 1) := by decide +kernel
theorem dX9_setStart_39 : decode cX9_setStart 39 = .ok (.goto 4, 3) := by decide +kernel
theorem dX9_setStart_42 : decode cX9_setStart 42 = .ok (.iconst 3, 1) := by decide +kernel
theorem dX9_setStart_43 : decode cX9_setStart 43 = .ok (.invokevirtual 107, 3) := by decide +kernel
theorem dX9_setStart_46 : decode cX9_setStart 46 = .ok (.ifCond .eq 5, 3) := by decide +kernel
theorem dX9_setStart_49 : decode cX9_setStart 49 = .ok (.iconst 0, 1) := by decide +kernel
theorem dX9_setStart_50 : decode cX9_setStart 50 = .ok (.ireturn, 1) := by decide +kernel
theorem dX9_setStart_51 : decode cX9_setStart 51 = .ok (.aload_n 0, 1) := by decide +kernel
theorem dX9_setStart_52 : decode cX9_setStart 52 = .ok (.getfield 33, 3) := by decide +kernel
theorem dX9_setStart_55 : decode cX9_setStart 55 = .ok (.iload_n 1, 1) := by decide +kernel
theorem dX9_setStart_56 : decode cX9_setStart 56 = .ok (.iaload, 1) := by decide +kernel
theorem dX9_setStart_57 : decode cX9_setStart 57 = .ok (.istore_n 3, 1) := by decide +kernel
theorem dX9_setStart_58 : decode cX9_setStart 58 = .ok (.aload_n 0, 1) := by decide +kernel
theorem dX9_setStart_59 : decode cX9_setStart 59 = .ok (.getfield 33, 3) := by decide +kernel
theorem dX9_setStart_62 : decode cX9_setStart 62 = .ok (.iload_n 1, 1) := by decide +kernel
theorem dX9_setStart_63 : decode cX9_setStart 63 = .ok (.iload_n 2, 1) := by decide +kernel
theorem dX9_setStart_64 : decode cX9_setStart 64 = .ok (.iastore, 1) := by decide +kernel
theorem dX9_setStart_65 : decode cX9_setStart 65 = .ok (.iload_n 3, 1) := by decide +kernel
theorem dX9_setStart_66 : decode cX9_setStart 66 = .ok (.ireturn, 1) := by decide +kernel
theorem dX9_setEnd_0 : decode cX9_setEnd 0 = .ok (.aload_n 0, 1) := by decide +kernel
theorem dX9_setEnd_1 : decode cX9_setEnd 1 = .ok (.aload_n 0, 1) := by decide +kernel
theorem dX9_setEnd_2 : decode cX9_setEnd 2 = .ok (.iload_n 1, 1) := by decide +kernel
theorem dX9_setEnd_3 : decode cX9_setEnd 3 = .ok (.invokevirtual 131, 3) := by decide +kernel
theorem dX9_setEnd_6 : decode cX9_setEnd 6 = .ok (.ifCond .eq 7, 3) := by decide +kernel
theorem dX9_setEnd_9 : decode cX9_setEnd 9 = .ok (.iconst 1, 1) := by decide +kernel
theorem dX9_setEnd_10 : decode cX9_setEnd 10 = .ok (.goto 40, 3) := by decide +kernel
theorem dX9_setEnd_13 : decode cX9_setEnd 13 = .ok (.aload_n 0, 1) := by decide +kernel
theorem dX9_setEnd_14 : decode cX9_setEnd 14 = .ok (.getfield 39, 3) := by decide +kernel
theorem dX9_setEnd_17 : decode cX9_setEnd 17 = .ok (.iload_n 1, 1) := by decide +kernel
theorem dX9_setEnd_18 : decode cX9_setEnd 18 = .ok (.caload, 1) := by decide +kernel
theorem dX9_setEnd_19 : decode cX9_setEnd 19 = .ok (.bipush 101, 2) := by decide +kernel
theorem dX9_setEnd_21 : decode cX9_setEnd 21 = .ok (.if_icmp .eq 7, 3) := by decide +kernel
theorem dX9_setEnd_24 : decode cX9_setEnd 24 = .ok (.iconst 2, 1) := by decide +kernel
theorem dX9_setEnd_25 : decode cX9_setEnd 25 = .ok (.goto 25, 3) := by decide +kernel
theorem dX9_setEnd_28 : decode cX9_setEnd 28 = .ok (.iload_n 2, 1) := by decide +kernel
theorem dX9_setEnd_29 : decode cX9_setEnd 29 = .ok (.aload_n 0, 1) := by decide +kernel
theorem dX9_setEnd_30 : decode cX9_setEnd 30 = .ok (.getfield 33, 3) := by decide +kernel
theorem dX9_setEnd_33 : decode cX9_setEnd 33 = .ok (.iload_n 1, 1) := by decide +kernel
theorem dX9_setEnd_34 : decode cX9_setEnd 34 = .ok (.iaload, 1) := by decide +kernel
theorem dX9_setEnd_35 : decode cX9_setEnd 35 = .ok (.aload_n 0, 1) := by decide +kernel
theorem dX9_setEnd_36 : decode cX9_setEnd 36 = .ok (.getfield 100, 3) := by decide +kernel
theorem dX9_setEnd_39 : decode cX9_setEnd 39 = .ok (.invokestatic 93, 3) := by decide +kernel
theorem dX9_setEnd_42 : decode cX9_setEnd 42 = .ok (.ifCond .eq 7, 3) := by decide +kernel
theorem dX9_setEnd_45 : decode cX9_setEnd 45 = .ok (.iconst 0, 1) := by decide +kernel
theorem dX9_setEnd_46 : decode cX9_setEnd 46 = .ok (.goto 4, 3) := by decide +kernel
theorem dX9_setEnd_49 : decode cX9_setEnd 49 = .ok (.iconst 3, 1) := by decide +kernel
theorem dX9_setEnd_50 : decode cX9_setEnd 50 = .ok (.invokevirtual 107, 3) := by decide +kernel
theorem dX9_setEnd_53 : decode cX9_setEnd 53 = .ok (.ifCond .eq 5, 3) := by decide +kernel
theorem dX9_setEnd_56 : decode cX9_setEnd 56 = .ok (.iconst 0, 1) := by decide +kernel
theorem dX9_setEnd_57 : decode cX9_setEnd 57 = .ok (.ireturn, 1) := by decide +kernel
theorem dX9_setEnd_58 : decode cX9_setEnd 58 = .ok (.aload_n 0, 1) := by decide +kernel
theorem dX9_setEnd_59 : decode cX9_setEnd 59 = .ok (.getfield 36, 3) := by decide +kernel
theorem dX9_setEnd_62 : decode cX9_setEnd 62 = .ok (.iload_n 1, 1) := by decide +kernel
theorem dX9_setEnd_63 : decode cX9_setEnd 63 = .ok (.iaload, 1) := by decide +kernel
theorem dX9_setEnd_64 : decode cX9_setEnd 64 = .ok (.istore_n 3, 1) := by decide +kernel
theorem dX9_setEnd_65 : decode cX9_setEnd 65 = .ok (.aload_n 0, 1) := by decide +kernel
theorem dX9_setEnd_66 : decode cX9_setEnd 66 = .ok (.getfield 36, 3) := by decide +kernel
theorem dX9_setEnd_69 : decode cX9_setEnd 69 = .ok (.iload_n 1, 1) := by decide +kernel
theorem dX9_setEnd_70 : decode cX9_setEnd 70 = .ok (.iload_n 2, 1) := by decide +kernel
theorem dX9_setEnd_71 : decode cX9_setEnd 71 = .ok (.iastore, 1) := by decide +kernel
theorem dX9_setEnd_72 : decode cX9_setEnd 72 = .ok (.iload_n 3, 1) := by decide +kernel
theorem dX9_setEnd_73 : decode cX9_setEnd 73 = .ok (.ireturn, 1) := by decide +kernel
theorem dX9_remove_0 : decode cX9_remove 0 = .ok (.aload_n 0, 1) := by decide +kernel
theorem dX9_remove_1 : decode cX9_remove 1 = .ok (.aload_n 0, 1) := by decide +kernel
theorem dX9_remove_2 : decode cX9_remove 2 = .ok (.iload_n 1, 1) := by decide +kernel
theorem dX9_remove_3 : decode cX9_remove 3 = .ok (.invokevirtual 131, 3) := by decide +kernel
theorem dX9_remove_6 : decode cX9_remove 6 = .ok (.ifCond .eq 7, 3) := by decide +kernel
theorem dX9_remove_9 : decode cX9_remove 9 = .ok (.iconst 1, 1) := by decide +kernel
theorem dX9_remove_10 : decode cX9_remove 10 = .ok (.goto 16, 3) := by decide +kernel
theorem dX9_remove_13 : decode cX9_remove 13 = .ok (.aload_n 0, 1) := by decide +kernel
theorem dX9_remove_14 : decode cX9_remove 14 = .ok (.iload_n 1, 1) := by decide +kernel
theorem dX9_remove_15 : decode cX9_remove 15 = .ok (.invokevirtual 134, 3) := by decide +kernel
theorem dX9_remove_18 : decode cX9_remove 18 = .ok (.ifCond .eq 7, 3) := by decide +kernel
theorem dX9_remove_21 : decode cX9_remove 21 = .ok (.iconst 0, 1) := by decide +kernel
theorem dX9_remove_22 : decode cX9_remove 22 = .ok (.goto 4, 3) := by decide +kernel
theorem dX9_remove_25 : decode cX9_remove 25 = .ok (.iconst 2, 1) := by decide +kernel
theorem dX9_remove_26 : decode cX9_remove 26 = .ok (.invokevirtual 107, 3) := by decide +kernel
theorem dX9_remove_29 : decode cX9_remove 29 = .ok (.ifCond .eq 5, 3) := by decide +kernel
theorem dX9_remove_32 : decode cX9_remove 32 = .ok (.iconst 0, 1) := by decide +kernel
theorem dX9_remove_33 : decode cX9_remove 33 = .ok (.ireturn, 1) := by decide +kernel
theorem dX9_remove_34 : decode cX9_remove 34 = .ok (.aload_n 0, 1) := by decide +kernel
theorem dX9_remove_35 : decode cX9_remove 35 = .ok (.getfield 36, 3) := by decide +kernel
theorem dX9_remove_38 : decode cX9_remove 38 = .ok (.iload_n 1, 1) := by decide +kernel
theorem dX9_remove_39 : decode cX9_remove 39 = .ok (.aload_n 0, 1) := by decide +kernel
theorem dX9_remove_40 : decode cX9_remove 40 = .ok (.iload_n 1, 1) := by decide +kernel
theorem dX9_remove_41 : decode cX9_remove 41 = .ok (.invokevirtual 137, 3) := by decide +kernel
theorem dX9_remove_44 : decode cX9_remove 44 = .ok (.iastore, 1) := by decide +kernel
theorem dX9_remove_45 : decode cX9_remove 45 = .ok (.aload_n 0, 1) := by decide +kernel
theorem dX9_remove_46 : decode cX9_remove 46 = .ok (.getfield 39, 3) := by decide +kernel
theorem dX9_remove_49 : decode cX9_remove 49 = .ok (.iload_n 1, 1) := by decide +kernel
theorem dX9_remove_50 : decode cX9_remove 50 = .ok (.bipush 120, 2) := by decide +kernel
theorem dX9_remove_52 : decode cX9_remove 52 = .ok (.castore, 1) := by decide +kernel
theorem dX9_remove_53 : decode cX9_remove 53 = .ok (.aload_n 0, 1) := by decide +kernel
theorem dX9_remove_54 : decode cX9_remove 54 = .ok (.getfield 97, 3) := by decide +kernel
theorem dX9_remove_57 : decode cX9_remove 57 = .ok (.aload_n 0, 1) := by decide +kernel
theorem dX9_remove_58 : decode cX9_remove 58 = .ok (.bipush 120, 2) := by decide +kernel
theorem dX9_remove_60 : decode cX9_remove 60 = .ok (.invokevirtual 123, 3) := by decide +kernel
theorem dX9_remove_63 : decode cX9_remove 63 = .ok (.isub, 1) := by decide +kernel
theorem dX9_remove_64 : decode cX9_remove 64 = .ok (.ireturn, 1) := by decide +kernel
theorem dX9_entries_0 : decode cX9_entries 0 = .ok (.aload_n 0, 1) := by decide +kernel
theorem dX9_entries_1 : decode cX9_entries 1 = .ok (.aload_n 0, 1) := by decide +kernel
theorem dX9_entries_2 : decode cX9_entries 2 = .ok (.getfield 97, 3) := by decide +kernel
theorem dX9_entries_5 : decode cX9_entries 5 = .ok (.invokevirtual 103, 3) := by decide +kernel
theorem dX9_entries_8 : decode cX9_entries 8 = .ok (.ireturn, 1) := by decide +kernel
theorem dX9_state_0 : decode cX9_state 0 = .ok (.aload_n 0, 1) := by decide +kernel
theorem dX9_state_1 : decode cX9_state 1 = .ok (.aload_n 0, 1) := by decide +kernel
theorem dX9_state_2 : decode cX9_state 2 = .ok (.iload_n 1, 1) := by decide +kernel
theorem dX9_state_3 : decode cX9_state 3 = .ok (.invokevirtual 131, 3) := by decide +kernel
theorem dX9_state_6 : decode cX9_state 6 = .ok (.ifCond .eq 7, 3) := by decide +kernel
theorem dX9_state_9 : decode cX9_state 9 = .ok (.iconst 1, 1) := by decide +kernel
theorem dX9_state_10 : decode cX9_state 10 = .ok (.goto 4, 3) := by decide +kernel
theorem dX9_state_13 : decode cX9_state 13 = .ok (.iconst 0, 1) := by decide +kernel
theorem dX9_state_14 : decode cX9_state 14 = .ok (.invokevirtual 107, 3) := by decide +kernel
theorem dX9_state_17 : decode cX9_state 17 = .ok (.ifCond .eq 8, 3) := by decide +kernel
theorem dX9_state_20 : decode cX9_state 20 = .ok (.bipush 32, 2) := by decide +kernel
theorem dX9_state_22 : decode cX9_state 22 = .ok (.goto 9, 3) := by decide +kernel
theorem dX9_state_25 : decode cX9_state 25 = .ok (.aload_n 0, 1) := by decide +kernel
theorem dX9_state_26 : decode cX9_state 26 = .ok (.getfield 39, 3) := by decide +kernel
theorem dX9_state_29 : decode cX9_state 29 = .ok (.iload_n 1, 1) := by decide +kernel
theorem dX9_state_30 : decode cX9_state 30 = .ok (.caload, 1) := by decide +kernel
theorem dX9_state_31 : decode cX9_state 31 = .ok (.ireturn, 1) := by decide +kernel
theorem dX9_startOf_0 : decode cX9_startOf 0 = .ok (.aload_n 0, 1) := by decide +kernel
theorem dX9_startOf_1 : decode cX9_startOf 1 = .ok (.aload_n 0, 1) := by decide +kernel
theorem dX9_startOf_2 : decode cX9_startOf 2 = .ok (.iload_n 1, 1) := by decide +kernel
theorem dX9_startOf_3 : decode cX9_startOf 3 = .ok (.invokevirtual 131, 3) := by decide +kernel
theorem dX9_startOf_6 : decode cX9_startOf 6 = .ok (.ifCond .eq 7, 3) := by decide +kernel
theorem dX9_startOf_9 : decode cX9_startOf 9 = .ok (.iconst 1, 1) := by decide +kernel
theorem dX9_startOf_10 : decode cX9_startOf 10 = .ok (.goto 4, 3) := by decide +kernel
theorem dX9_startOf_13 : decode cX9_startOf 13 = .ok (.iconst 0, 1) := by decide +kernel
theorem dX9_startOf_14 : decode cX9_startOf 14 = .ok (.invokevirtual 107, 3) := by decide +kernel
theorem dX9_startOf_17 : decode cX9_startOf 17 = .ok (.ifCond .eq 7, 3) := by decide +kernel
theorem dX9_startOf_20 : decode cX9_startOf 20 = .ok (.iconst 0, 1) := by decide +kernel
theorem dX9_startOf_21 : decode cX9_startOf 21 = .ok (.goto 9, 3) := by decide +kernel
theorem dX9_startOf_24 : decode cX9_startOf 24 = .ok (.aload_n 0, 1) := by decide +kernel
theorem dX9_startOf_25 : decode cX9_startOf 25 = .ok (.getfield 33, 3) := by decide +kernel
theorem dX9_startOf_28 : decode cX9_startOf 28 = .ok (.iload_n 1, 1) := by decide +kernel
theorem dX9_startOf_29 : decode cX9_startOf 29 = .ok (.iaload, 1) := by decide +kernel
theorem dX9_startOf_30 : decode cX9_startOf 30 = .ok (.ireturn, 1) := by decide +kernel
theorem dX9_endOf_0 : decode cX9_endOf 0 = .ok (.aload_n 0, 1) := by decide +kernel
theorem dX9_endOf_1 : decode cX9_endOf 1 = .ok (.aload_n 0, 1) := by decide +kernel
theorem dX9_endOf_2 : decode cX9_endOf 2 = .ok (.iload_n 1, 1) := by decide +kernel
theorem dX9_endOf_3 : decode cX9_endOf 3 = .ok (.invokevirtual 131, 3) := by decide +kernel
theorem dX9_endOf_6 : decode cX9_endOf 6 = .ok (.ifCond .eq 7, 3) := by decide +kernel
theorem dX9_endOf_9 : decode cX9_endOf 9 = .ok (.iconst 1, 1) := by decide +kernel
theorem dX9_endOf_10 : decode cX9_endOf 10 = .ok (.goto 4, 3) := by decide +kernel
theorem dX9_endOf_13 : decode cX9_endOf 13 = .ok (.iconst 0, 1) := by decide +kernel
theorem dX9_endOf_14 : decode cX9_endOf 14 = .ok (.invokevirtual 107, 3) := by decide +kernel
theorem dX9_endOf_17 : decode cX9_endOf 17 = .ok (.ifCond .eq 7, 3) := by decide +kernel
theorem dX9_endOf_20 : decode cX9_endOf 20 = .ok (.iconst 0, 1) := by decide +kernel
theorem dX9_endOf_21 : decode cX9_endOf 21 = .ok (.goto 8, 3) := by decide +kernel
theorem dX9_endOf_24 : decode cX9_endOf 24 = .ok (.aload_n 0, 1) := by decide +kernel
theorem dX9_endOf_25 : decode cX9_endOf 25 = .ok (.iload_n 1, 1) := by decide +kernel
theorem dX9_endOf_26 : decode cX9_endOf 26 = .ok (.invokevirtual 137, 3) := by decide +kernel
theorem dX9_endOf_29 : decode cX9_endOf 29 = .ok (.ireturn, 1) := by decide +kernel
theorem dX9_covers_0 : decode cX9_covers 0 = .ok (.aload_n 0, 1) := by decide +kernel
theorem dX9_covers_1 : decode cX9_covers 1 = .ok (.getfield 39, 3) := by decide +kernel
theorem dX9_covers_4 : decode cX9_covers 4 = .ok (.iload_n 1, 1) := by decide +kernel
theorem dX9_covers_5 : decode cX9_covers 5 = .ok (.caload, 1) := by decide +kernel
theorem dX9_covers_6 : decode cX9_covers 6 = .ok (.bipush 120, 2) := by decide +kernel
theorem dX9_covers_8 : decode cX9_covers 8 = .ok (.if_icmp .eq 26, 3) := by decide +kernel
theorem dX9_covers_11 : decode cX9_covers 11 = .ok (.aload_n 0, 1) := by decide +kernel
theorem dX9_covers_12 : decode cX9_covers 12 = .ok (.getfield 33, 3) := by decide +kernel
theorem dX9_covers_15 : decode cX9_covers 15 = .ok (.iload_n 1, 1) := by decide +kernel
theorem dX9_covers_16 : decode cX9_covers 16 = .ok (.iaload, 1) := by decide +kernel
theorem dX9_covers_17 : decode cX9_covers 17 = .ok (.iload_n 2, 1) := by decide +kernel
theorem dX9_covers_18 : decode cX9_covers 18 = .ok (.if_icmp .gt 16, 3) := by decide +kernel
theorem dX9_covers_21 : decode cX9_covers 21 = .ok (.iload_n 2, 1) := by decide +kernel
theorem dX9_covers_22 : decode cX9_covers 22 = .ok (.aload_n 0, 1) := by decide +kernel
theorem dX9_covers_23 : decode cX9_covers 23 = .ok (.iload_n 1, 1) := by decide +kernel
theorem dX9_covers_24 : decode cX9_covers 24 = .ok (.invokevirtual 137, 3) := by decide +kernel
theorem dX9_covers_27 : decode cX9_covers 27 = .ok (.if_icmp .ge 7, 3) := by decide +kernel
theorem dX9_covers_30 : decode cX9_covers 30 = .ok (.iconst 1, 1) := by decide +kernel
theorem dX9_covers_31 : decode cX9_covers 31 = .ok (.goto 4, 3) := by decide +kernel
theorem dX9_covers_34 : decode cX9_covers 34 = .ok (.iconst 0, 1) := by decide +kernel
theorem dX9_covers_35 : decode cX9_covers 35 = .ok (.ireturn, 1) := by decide +kernel
theorem dX9_share_0 : decode cX9_share 0 = .ok (.aload_n 0, 1) := by decide +kernel
theorem dX9_share_1 : decode cX9_share 1 = .ok (.getfield 7, 3) := by decide +kernel
theorem dX9_share_4 : decode cX9_share 4 = .ok (.bipush 102, 2) := by decide +kernel
theorem dX9_share_6 : decode cX9_share 6 = .ok (.if_icmp .ne 6, 3) := by decide +kernel
theorem dX9_share_9 : decode cX9_share 9 = .ok (.bipush 60, 2) := by decide +kernel
theorem dX9_share_11 : decode cX9_share 11 = .ok (.ireturn, 1) := by decide +kernel
theorem dX9_share_12 : decode cX9_share 12 = .ok (.aload_n 0, 1) := by decide +kernel
theorem dX9_share_13 : decode cX9_share 13 = .ok (.getfield 7, 3) := by decide +kernel
theorem dX9_share_16 : decode cX9_share 16 = .ok (.bipush 108, 2) := by decide +kernel
theorem dX9_share_18 : decode cX9_share 18 = .ok (.if_icmp .ne 16, 3) := by decide +kernel
theorem dX9_share_21 : decode cX9_share 21 = .ok (.iload_n 1, 1) := by decide +kernel
theorem dX9_share_22 : decode cX9_share 22 = .ok (.iload 4, 2) := by decide +kernel
theorem dX9_share_24 : decode cX9_share 24 = .ok (.if_icmp .ne 8, 3) := by decide +kernel
theorem dX9_share_27 : decode cX9_share 27 = .ok (.bipush 60, 2) := by decide +kernel
theorem dX9_share_29 : decode cX9_share 29 = .ok (.goto 4, 3) := by decide +kernel
theorem dX9_share_32 : decode cX9_share 32 = .ok (.iconst 0, 1) := by decide +kernel
theorem dX9_share_33 : decode cX9_share 33 = .ok (.ireturn, 1) := by decide +kernel
theorem dX9_share_34 : decode cX9_share 34 = .ok (.bipush 60, 2) := by decide +kernel
theorem dX9_share_36 : decode cX9_share 36 = .ok (.iload_n 2, 1) := by decide +kernel
theorem dX9_share_37 : decode cX9_share 37 = .ok (.idiv, 1) := by decide +kernel
theorem dX9_share_38 : decode cX9_share 38 = .ok (.iload_n 3, 1) := by decide +kernel
theorem dX9_share_39 : decode cX9_share 39 = .ok (.bipush 60, 2) := by decide +kernel
theorem dX9_share_41 : decode cX9_share 41 = .ok (.iload_n 2, 1) := by decide +kernel
theorem dX9_share_42 : decode cX9_share 42 = .ok (.irem, 1) := by decide +kernel
theorem dX9_share_43 : decode cX9_share 43 = .ok (.if_icmp .ge 7, 3) := by decide +kernel
theorem dX9_share_46 : decode cX9_share 46 = .ok (.iconst 1, 1) := by decide +kernel
theorem dX9_share_47 : decode cX9_share 47 = .ok (.goto 4, 3) := by decide +kernel
theorem dX9_share_50 : decode cX9_share 50 = .ok (.iconst 0, 1) := by decide +kernel
theorem dX9_share_51 : decode cX9_share 51 = .ok (.iadd, 1) := by decide +kernel
theorem dX9_share_52 : decode cX9_share 52 = .ok (.ireturn, 1) := by decide +kernel
theorem dX9_counts_0 : decode cX9_counts 0 = .ok (.iconst 0, 1) := by decide +kernel
theorem dX9_counts_1 : decode cX9_counts 1 = .ok (.istore_n 1, 1) := by decide +kernel
theorem dX9_counts_2 : decode cX9_counts 2 = .ok (.iload_n 1, 1) := by decide +kernel
theorem dX9_counts_3 : decode cX9_counts 3 = .ok (.bipush 24, 2) := by decide +kernel
theorem dX9_counts_5 : decode cX9_counts 5 = .ok (.if_icmp .ge 16, 3) := by decide +kernel
theorem dX9_counts_8 : decode cX9_counts 8 = .ok (.aload_n 0, 1) := by decide +kernel
theorem dX9_counts_9 : decode cX9_counts 9 = .ok (.getfield 45, 3) := by decide +kernel
theorem dX9_counts_12 : decode cX9_counts 12 = .ok (.iload_n 1, 1) := by decide +kernel
theorem dX9_counts_13 : decode cX9_counts 13 = .ok (.iconst 0, 1) := by decide +kernel
theorem dX9_counts_14 : decode cX9_counts 14 = .ok (.iastore, 1) := by decide +kernel
theorem dX9_counts_15 : decode cX9_counts 15 = .ok (.iinc 1 1, 3) := by decide +kernel
theorem dX9_counts_18 : decode cX9_counts 18 = .ok (.goto (-16), 3) := by decide +kernel
theorem dX9_counts_21 : decode cX9_counts 21 = .ok (.iconst 0, 1) := by decide +kernel
theorem dX9_counts_22 : decode cX9_counts 22 = .ok (.istore_n 1, 1) := by decide +kernel
theorem dX9_counts_23 : decode cX9_counts 23 = .ok (.iload_n 1, 1) := by decide +kernel
theorem dX9_counts_24 : decode cX9_counts 24 = .ok (.bipush 120, 2) := by decide +kernel
theorem dX9_counts_26 : decode cX9_counts 26 = .ok (.if_icmp .ge 16, 3) := by decide +kernel
theorem dX9_counts_29 : decode cX9_counts 29 = .ok (.aload_n 0, 1) := by decide +kernel
theorem dX9_counts_30 : decode cX9_counts 30 = .ok (.getfield 48, 3) := by decide +kernel
theorem dX9_counts_33 : decode cX9_counts 33 = .ok (.iload_n 1, 1) := by decide +kernel
theorem dX9_counts_34 : decode cX9_counts 34 = .ok (.iconst 0, 1) := by decide +kernel
theorem dX9_counts_35 : decode cX9_counts 35 = .ok (.iastore, 1) := by decide +kernel
theorem dX9_counts_36 : decode cX9_counts 36 = .ok (.iinc 1 1, 3) := by decide +kernel
theorem dX9_counts_39 : decode cX9_counts 39 = .ok (.goto (-16), 3) := by decide +kernel
theorem dX9_counts_42 : decode cX9_counts 42 = .ok (.iconst 0, 1) := by decide +kernel
theorem dX9_counts_43 : decode cX9_counts 43 = .ok (.istore_n 1, 1) := by decide +kernel
theorem dX9_counts_44 : decode cX9_counts 44 = .ok (.iload_n 1, 1) := by decide +kernel
theorem dX9_counts_45 : decode cX9_counts 45 = .ok (.aload_n 0, 1) := by decide +kernel
theorem dX9_counts_46 : decode cX9_counts 46 = .ok (.getfield 100, 3) := by decide +kernel
theorem dX9_counts_49 : decode cX9_counts 49 = .ok (.if_icmp .ge 151, 3) := by decide +kernel
theorem dX9_counts_52 : decode cX9_counts 52 = .ok (.iconst 0, 1) := by decide +kernel
theorem dX9_counts_53 : decode cX9_counts 53 = .ok (.istore_n 2, 1) := by decide +kernel
theorem dX9_counts_54 : decode cX9_counts 54 = .ok (.iconst 0, 1) := by decide +kernel
theorem dX9_counts_55 : decode cX9_counts 55 = .ok (.istore_n 3, 1) := by decide +kernel
theorem dX9_counts_56 : decode cX9_counts 56 = .ok (.iconst 0, 1) := by decide +kernel
theorem dX9_counts_57 : decode cX9_counts 57 = .ok (.istore 4, 2) := by decide +kernel
theorem dX9_counts_59 : decode cX9_counts 59 = .ok (.iload 4, 2) := by decide +kernel
theorem dX9_counts_61 : decode cX9_counts 61 = .ok (.aload_n 0, 1) := by decide +kernel
theorem dX9_counts_62 : decode cX9_counts 62 = .ok (.getfield 97, 3) := by decide +kernel
theorem dX9_counts_65 : decode cX9_counts 65 = .ok (.if_icmp .ge 48, 3) := by decide +kernel
theorem dX9_counts_68 : decode cX9_counts 68 = .ok (.aload_n 0, 1) := by decide +kernel
theorem dX9_counts_69 : decode cX9_counts 69 = .ok (.iload 4, 2) := by decide +kernel
theorem dX9_counts_71 : decode cX9_counts 71 = .ok (.iload_n 1, 1) := by decide +kernel
theorem dX9_counts_72 : decode cX9_counts 72 = .ok (.invokevirtual 140, 3) := by decide +kernel
theorem dX9_counts_75 : decode cX9_counts 75 = .ok (.ifCond .ne 6, 3) := by decide +kernel
theorem dX9_counts_78 : decode cX9_counts 78 = .ok (.goto 29, 3) := by decide +kernel
theorem dX9_counts_81 : decode cX9_counts 81 = .ok (.iload_n 2, 1) := by decide +kernel
theorem dX9_counts_82 : decode cX9_counts 82 = .ok (.ifCond .eq 19, 3) := by decide +kernel
theorem dX9_counts_85 : decode cX9_counts 85 = .ok (.aload_n 0, 1) := by decide +kernel
theorem dX9_counts_86 : decode cX9_counts 86 = .ok (.getfield 33, 3) := by decide +kernel
theorem dX9_counts_89 : decode cX9_counts 89 = .ok (.iload 4, 2) := by decide +kernel
theorem dX9_counts_91 : decode cX9_counts 91 = .ok (.iaload, 1) := by decide +kernel
theorem dX9_counts_92 : decode cX9_counts 92 = .ok (.aload_n 0, 1) := by decide +kernel
theorem dX9_counts_93 : decode cX9_counts 93 = .ok (.getfield 33, 3) := by decide +kernel
theorem dX9_counts_96 : decode cX9_counts 96 = .ok (.iload_n 3, 1) := by decide +kernel
theorem dX9_counts_97 : decode cX9_counts 97 = .ok (.iaload, 1) := by decide +kernel
theorem dX9_counts_98 : decode cX9_counts 98 = .ok (.if_icmp .lt 6, 3) := by decide +kernel
theorem dX9_counts_101 : decode cX9_counts 101 = .ok (.iload 4, 2) := by decide +kernel
theorem dX9_counts_103 : decode cX9_counts 103 = .ok (.istore_n 3, 1) := by decide +kernel
theorem dX9_counts_104 : decode cX9_counts 104 = .ok (.iinc 2 1, 3) := by decide +kernel
theorem dX9_counts_107 : decode cX9_counts 107 = .ok (.iinc 4 1, 3) := by decide +kernel
theorem dX9_counts_110 : decode cX9_counts 110 = .ok (.goto (-51), 3) := by decide +kernel
theorem dX9_counts_113 : decode cX9_counts 113 = .ok (.iconst 0, 1) := by decide +kernel
theorem dX9_counts_114 : decode cX9_counts 114 = .ok (.istore 4, 2) := by decide +kernel
theorem dX9_counts_116 : decode cX9_counts 116 = .ok (.iconst 0, 1) := by decide +kernel
theorem dX9_counts_117 : decode cX9_counts 117 = .ok (.istore 5, 2) := by decide +kernel
theorem dX9_counts_119 : decode cX9_counts 119 = .ok (.iload 5, 2) := by decide +kernel
theorem dX9_counts_121 : decode cX9_counts 121 = .ok (.aload_n 0, 1) := by decide +kernel
theorem dX9_counts_122 : decode cX9_counts 122 = .ok (.getfield 97, 3) := by decide +kernel
theorem dX9_counts_125 : decode cX9_counts 125 = .ok (.if_icmp .ge 69, 3) := by decide +kernel
theorem dX9_counts_128 : decode cX9_counts 128 = .ok (.aload_n 0, 1) := by decide +kernel
theorem dX9_counts_129 : decode cX9_counts 129 = .ok (.iload 5, 2) := by decide +kernel
theorem dX9_counts_131 : decode cX9_counts 131 = .ok (.iload_n 1, 1) := by decide +kernel
theorem dX9_counts_132 : decode cX9_counts 132 = .ok (.invokevirtual 140, 3) := by decide +kernel
theorem dX9_counts_135 : decode cX9_counts 135 = .ok (.ifCond .ne 6, 3) := by decide +kernel
theorem dX9_counts_138 : decode cX9_counts 138 = .ok (.goto 50, 3) := by decide +kernel
theorem dX9_counts_141 : decode cX9_counts 141 = .ok (.aload_n 0, 1) := by decide +kernel
theorem dX9_counts_142 : decode cX9_counts 142 = .ok (.iload 5, 2) := by decide +kernel
theorem dX9_counts_144 : decode cX9_counts 144 = .ok (.iload_n 2, 1) := by decide +kernel
theorem dX9_counts_145 : decode cX9_counts 145 = .ok (.iload 4, 2) := by decide +kernel
theorem dX9_counts_147 : decode cX9_counts 147 = .ok (.iload_n 3, 1) := by decide +kernel
theorem dX9_counts_148 : decode cX9_counts 148 = .ok (.invokevirtual 144, 3) := by decide +kernel
theorem dX9_counts_151 : decode cX9_counts 151 = .ok (.istore 6, 2) := by decide +kernel
theorem dX9_counts_153 : decode cX9_counts 153 = .ok (.aload_n 0, 1) := by decide +kernel
theorem dX9_counts_154 : decode cX9_counts 154 = .ok (.getfield 45, 3) := by decide +kernel
theorem dX9_counts_157 : decode cX9_counts 157 = .ok (.iload 5, 2) := by decide +kernel
theorem dX9_counts_159 : decode cX9_counts 159 = .ok (.dup2, 1) := by decide +kernel
theorem dX9_counts_160 : decode cX9_counts 160 = .ok (.iaload, 1) := by decide +kernel
theorem dX9_counts_161 : decode cX9_counts 161 = .ok (.iload 6, 2) := by decide +kernel
theorem dX9_counts_163 : decode cX9_counts 163 = .ok (.iadd, 1) := by decide +kernel
theorem dX9_counts_164 : decode cX9_counts 164 = .ok (.iastore, 1) := by decide +kernel
theorem dX9_counts_165 : decode cX9_counts 165 = .ok (.aload_n 0, 1) := by decide +kernel
theorem dX9_counts_166 : decode cX9_counts 166 = .ok (.getfield 48, 3) := by decide +kernel
theorem dX9_counts_169 : decode cX9_counts 169 = .ok (.iconst 5, 1) := by decide +kernel
theorem dX9_counts_170 : decode cX9_counts 170 = .ok (.iload 5, 2) := by decide +kernel
theorem dX9_counts_172 : decode cX9_counts 172 = .ok (.imul, 1) := by decide +kernel
theorem dX9_counts_173 : decode cX9_counts 173 = .ok (.iload_n 1, 1) := by decide +kernel
theorem dX9_counts_174 : decode cX9_counts 174 = .ok (.sipush 600, 3) := by decide +kernel
theorem dX9_counts_177 : decode cX9_counts 177 = .ok (.idiv, 1) := by decide +kernel
theorem dX9_counts_178 : decode cX9_counts 178 = .ok (.iadd, 1) := by decide +kernel
theorem dX9_counts_179 : decode cX9_counts 179 = .ok (.dup2, 1) := by decide +kernel
theorem dX9_counts_180 : decode cX9_counts 180 = .ok (.iaload, 1) := by decide +kernel
theorem dX9_counts_181 : decode cX9_counts 181 = .ok (.iload 6, 2) := by decide +kernel
theorem dX9_counts_183 : decode cX9_counts 183 = .ok (.iadd, 1) := by decide +kernel
theorem dX9_counts_184 : decode cX9_counts 184 = .ok (.iastore, 1) := by decide +kernel
theorem dX9_counts_185 : decode cX9_counts 185 = .ok (.iinc 4 1, 3) := by decide +kernel
theorem dX9_counts_188 : decode cX9_counts 188 = .ok (.iinc 5 1, 3) := by decide +kernel
theorem dX9_counts_191 : decode cX9_counts 191 = .ok (.goto (-72), 3) := by decide +kernel
theorem dX9_counts_194 : decode cX9_counts 194 = .ok (.iinc 1 1, 3) := by decide +kernel
theorem dX9_counts_197 : decode cX9_counts 197 = .ok (.goto (-153), 3) := by decide +kernel
theorem dX9_counts_200 : decode cX9_counts 200 = .ok (.iconst 0, 1) := by decide +kernel
theorem dX9_counts_201 : decode cX9_counts 201 = .ok (.istore_n 1, 1) := by decide +kernel
theorem dX9_counts_202 : decode cX9_counts 202 = .ok (.iload_n 1, 1) := by decide +kernel
theorem dX9_counts_203 : decode cX9_counts 203 = .ok (.aload_n 0, 1) := by decide +kernel
theorem dX9_counts_204 : decode cX9_counts 204 = .ok (.getfield 97, 3) := by decide +kernel
theorem dX9_counts_207 : decode cX9_counts 207 = .ok (.if_icmp .ge 32, 3) := by decide +kernel
theorem dX9_counts_210 : decode cX9_counts 210 = .ok (.aload_n 0, 1) := by decide +kernel
theorem dX9_counts_211 : decode cX9_counts 211 = .ok (.getfield 39, 3) := by decide +kernel
theorem dX9_counts_214 : decode cX9_counts 214 = .ok (.iload_n 1, 1) := by decide +kernel
theorem dX9_counts_215 : decode cX9_counts 215 = .ok (.caload, 1) := by decide +kernel
theorem dX9_counts_216 : decode cX9_counts 216 = .ok (.bipush 102, 2) := by decide +kernel
theorem dX9_counts_218 : decode cX9_counts 218 = .ok (.if_icmp .ne 15, 3) := by decide +kernel
theorem dX9_counts_221 : decode cX9_counts 221 = .ok (.aload_n 0, 1) := by decide +kernel
theorem dX9_counts_222 : decode cX9_counts 222 = .ok (.getfield 45, 3) := by decide +kernel
theorem dX9_counts_225 : decode cX9_counts 225 = .ok (.iload_n 1, 1) := by decide +kernel
theorem dX9_counts_226 : decode cX9_counts 226 = .ok (.aload_n 0, 1) := by decide +kernel
theorem dX9_counts_227 : decode cX9_counts 227 = .ok (.getfield 42, 3) := by decide +kernel
theorem dX9_counts_230 : decode cX9_counts 230 = .ok (.iload_n 1, 1) := by decide +kernel
theorem dX9_counts_231 : decode cX9_counts 231 = .ok (.iaload, 1) := by decide +kernel
theorem dX9_counts_232 : decode cX9_counts 232 = .ok (.iastore, 1) := by decide +kernel
theorem dX9_counts_233 : decode cX9_counts 233 = .ok (.iinc 1 1, 3) := by decide +kernel
theorem dX9_counts_236 : decode cX9_counts 236 = .ok (.goto (-34), 3) := by decide +kernel
theorem dX9_counts_239 : decode cX9_counts 239 = .ok (.return_, 1) := by decide +kernel
theorem dX9_countedOf_0 : decode cX9_countedOf 0 = .ok (.aload_n 0, 1) := by decide +kernel
theorem dX9_countedOf_1 : decode cX9_countedOf 1 = .ok (.aload_n 0, 1) := by decide +kernel
theorem dX9_countedOf_2 : decode cX9_countedOf 2 = .ok (.iload_n 1, 1) := by decide +kernel
theorem dX9_countedOf_3 : decode cX9_countedOf 3 = .ok (.invokevirtual 131, 3) := by decide +kernel
theorem dX9_countedOf_6 : decode cX9_countedOf 6 = .ok (.ifCond .eq 7, 3) := by decide +kernel
theorem dX9_countedOf_9 : decode cX9_countedOf 9 = .ok (.iconst 1, 1) := by decide +kernel
theorem dX9_countedOf_10 : decode cX9_countedOf 10 = .ok (.goto 4, 3) := by decide +kernel
theorem dX9_countedOf_13 : decode cX9_countedOf 13 = .ok (.iconst 0, 1) := by decide +kernel
theorem dX9_countedOf_14 : decode cX9_countedOf 14 = .ok (.invokevirtual 107, 3) := by decide +kernel
theorem dX9_countedOf_17 : decode cX9_countedOf 17 = .ok (.ifCond .eq 5, 3) := by decide +kernel
theorem dX9_countedOf_20 : decode cX9_countedOf 20 = .ok (.iconst 0, 1) := by decide +kernel
theorem dX9_countedOf_21 : decode cX9_countedOf 21 = .ok (.ireturn, 1) := by decide +kernel
theorem dX9_countedOf_22 : decode cX9_countedOf 22 = .ok (.aload_n 0, 1) := by decide +kernel
theorem dX9_countedOf_23 : decode cX9_countedOf 23 = .ok (.invokevirtual 148, 3) := by decide +kernel
theorem dX9_countedOf_26 : decode cX9_countedOf 26 = .ok (.aload_n 0, 1) := by decide +kernel
theorem dX9_countedOf_27 : decode cX9_countedOf 27 = .ok (.getfield 45, 3) := by decide +kernel
theorem dX9_countedOf_30 : decode cX9_countedOf 30 = .ok (.iload_n 1, 1) := by decide +kernel
theorem dX9_countedOf_31 : decode cX9_countedOf 31 = .ok (.iaload, 1) := by decide +kernel
theorem dX9_countedOf_32 : decode cX9_countedOf 32 = .ok (.ireturn, 1) := by decide +kernel
theorem dX9_counted_0 : decode cX9_counted 0 = .ok (.aload_n 0, 1) := by decide +kernel
theorem dX9_counted_1 : decode cX9_counted 1 = .ok (.iload_n 1, 1) := by decide +kernel
theorem dX9_counted_2 : decode cX9_counted 2 = .ok (.invokevirtual 151, 3) := by decide +kernel
theorem dX9_counted_5 : decode cX9_counted 5 = .ok (.ireturn, 1) := by decide +kernel
theorem dX9_countedByMinutes_0 : decode cX9_countedByMinutes 0 = .ok (.aload_n 0, 1) := by decide +kernel
theorem dX9_countedByMinutes_1 : decode cX9_countedByMinutes 1 = .ok (.iload_n 1, 1) := by decide +kernel
theorem dX9_countedByMinutes_2 : decode cX9_countedByMinutes 2 = .ok (.invokevirtual 151, 3) := by decide +kernel
theorem dX9_countedByMinutes_5 : decode cX9_countedByMinutes 5 = .ok (.ireturn, 1) := by decide +kernel
theorem dX9_puts_0 : decode cX9_puts 0 = .ok (.aload_n 0, 1) := by decide +kernel
theorem dX9_puts_1 : decode cX9_puts 1 = .ok (.getfield 83, 3) := by decide +kernel
theorem dX9_puts_4 : decode cX9_puts 4 = .ok (.aload_n 0, 1) := by decide +kernel
theorem dX9_puts_5 : decode cX9_puts 5 = .ok (.getfield 154, 3) := by decide +kernel
theorem dX9_puts_8 : decode cX9_puts 8 = .ok (.iload_n 1, 1) := by decide +kernel
theorem dX9_puts_9 : decode cX9_puts 9 = .ok (.castore, 1) := by decide +kernel
theorem dX9_puts_10 : decode cX9_puts 10 = .ok (.aload_n 0, 1) := by decide +kernel
theorem dX9_puts_11 : decode cX9_puts 11 = .ok (.dup, 1) := by decide +kernel
theorem dX9_puts_12 : decode cX9_puts 12 = .ok (.getfield 154, 3) := by decide +kernel
theorem dX9_puts_15 : decode cX9_puts 15 = .ok (.iconst 1, 1) := by decide +kernel
theorem dX9_puts_16 : decode cX9_puts 16 = .ok (.iadd, 1) := by decide +kernel
theorem dX9_puts_17 : decode cX9_puts 17 = .ok (.putfield 154, 3) := by decide +kernel
theorem dX9_puts_20 : decode cX9_puts 20 = .ok (.return_, 1) := by decide +kernel
theorem dX9_putsNumber_0 : decode cX9_putsNumber 0 = .ok (.iconst 1, 1) := by decide +kernel
theorem dX9_putsNumber_1 : decode cX9_putsNumber 1 = .ok (.istore_n 2, 1) := by decide +kernel
theorem dX9_putsNumber_2 : decode cX9_putsNumber 2 = .ok (.iload_n 1, 1) := by decide +kernel
theorem dX9_putsNumber_3 : decode cX9_putsNumber 3 = .ok (.iload_n 2, 1) := by decide +kernel
theorem dX9_putsNumber_4 : decode cX9_putsNumber 4 = .ok (.idiv, 1) := by decide +kernel
theorem dX9_putsNumber_5 : decode cX9_putsNumber 5 = .ok (.bipush 10, 2) := by decide +kernel
theorem dX9_putsNumber_7 : decode cX9_putsNumber 7 = .ok (.if_icmp .lt 11, 3) := by decide +kernel
theorem dX9_putsNumber_10 : decode cX9_putsNumber 10 = .ok (.iload_n 2, 1) := by decide +kernel
theorem dX9_putsNumber_11 : decode cX9_putsNumber 11 = .ok (.bipush 10, 2) := by decide +kernel
theorem dX9_putsNumber_13 : decode cX9_putsNumber 13 = .ok (.imul, 1) := by decide +kernel
theorem dX9_putsNumber_14 : decode cX9_putsNumber 14 = .ok (.istore_n 2, 1) := by decide +kernel
theorem dX9_putsNumber_15 : decode cX9_putsNumber 15 = .ok (.goto (-13), 3) := by decide +kernel
theorem dX9_putsNumber_18 : decode cX9_putsNumber 18 = .ok (.iload_n 2, 1) := by decide +kernel
theorem dX9_putsNumber_19 : decode cX9_putsNumber 19 = .ok (.istore_n 3, 1) := by decide +kernel
theorem dX9_putsNumber_20 : decode cX9_putsNumber 20 = .ok (.iload_n 3, 1) := by decide +kernel
theorem dX9_putsNumber_21 : decode cX9_putsNumber 21 = .ok (.ifCond .le 25, 3) := by decide +kernel
theorem dX9_putsNumber_24 : decode cX9_putsNumber 24 = .ok (.aload_n 0, 1) := by decide +kernel
theorem dX9_putsNumber_25 : decode cX9_putsNumber 25 = .ok (.bipush 48, 2) := by decide +kernel
theorem dX9_putsNumber_27 : decode cX9_putsNumber 27 = .ok (.iload_n 1, 1) := by decide +kernel
theorem dX9_putsNumber_28 : decode cX9_putsNumber 28 = .ok (.iload_n 3, 1) := by decide +kernel
theorem dX9_putsNumber_29 : decode cX9_putsNumber 29 = .ok (.idiv, 1) := by decide +kernel
theorem dX9_putsNumber_30 : decode cX9_putsNumber 30 = .ok (.bipush 10, 2) := by decide +kernel
theorem dX9_putsNumber_32 : decode cX9_putsNumber 32 = .ok (.irem, 1) := by decide +kernel
theorem dX9_putsNumber_33 : decode cX9_putsNumber 33 = .ok (.iadd, 1) := by decide +kernel
theorem dX9_putsNumber_34 : decode cX9_putsNumber 34 = .ok (.i2c, 1) := by decide +kernel
theorem dX9_putsNumber_35 : decode cX9_putsNumber 35 = .ok (.invokevirtual 157, 3) := by decide +kernel
theorem dX9_putsNumber_38 : decode cX9_putsNumber 38 = .ok (.iload_n 3, 1) := by decide +kernel
theorem dX9_putsNumber_39 : decode cX9_putsNumber 39 = .ok (.bipush 10, 2) := by decide +kernel
theorem dX9_putsNumber_41 : decode cX9_putsNumber 41 = .ok (.idiv, 1) := by decide +kernel
theorem dX9_putsNumber_42 : decode cX9_putsNumber 42 = .ok (.istore_n 3, 1) := by decide +kernel
theorem dX9_putsNumber_43 : decode cX9_putsNumber 43 = .ok (.goto (-23), 3) := by decide +kernel
theorem dX9_putsNumber_46 : decode cX9_putsNumber 46 = .ok (.return_, 1) := by decide +kernel
theorem dX9_writeEntry_0 : decode cX9_writeEntry 0 = .ok (.aload_n 0, 1) := by decide +kernel
theorem dX9_writeEntry_1 : decode cX9_writeEntry 1 = .ok (.aload_n 0, 1) := by decide +kernel
theorem dX9_writeEntry_2 : decode cX9_writeEntry 2 = .ok (.iload_n 1, 1) := by decide +kernel
theorem dX9_writeEntry_3 : decode cX9_writeEntry 3 = .ok (.invokevirtual 131, 3) := by decide +kernel
theorem dX9_writeEntry_6 : decode cX9_writeEntry 6 = .ok (.ifCond .eq 7, 3) := by decide +kernel
theorem dX9_writeEntry_9 : decode cX9_writeEntry 9 = .ok (.iconst 1, 1) := by decide +kernel
theorem dX9_writeEntry_10 : decode cX9_writeEntry 10 = .ok (.goto 4, 3) := by decide +kernel
theorem dX9_writeEntry_13 : decode cX9_writeEntry 13 = .ok (.iconst 0, 1) := by decide +kernel
theorem dX9_writeEntry_14 : decode cX9_writeEntry 14 = .ok (.invokevirtual 107, 3) := by decide +kernel
theorem dX9_writeEntry_17 : decode cX9_writeEntry 17 = .ok (.ifCond .eq 5, 3) := by decide +kernel
theorem dX9_writeEntry_20 : decode cX9_writeEntry 20 = .ok (.iconst 0, 1) := by decide +kernel
theorem dX9_writeEntry_21 : decode cX9_writeEntry 21 = .ok (.ireturn, 1) := by decide +kernel
theorem dX9_writeEntry_22 : decode cX9_writeEntry 22 = .ok (.aload_n 0, 1) := by decide +kernel
theorem dX9_writeEntry_23 : decode cX9_writeEntry 23 = .ok (.invokevirtual 148, 3) := by decide +kernel
theorem dX9_writeEntry_26 : decode cX9_writeEntry 26 = .ok (.aload_n 0, 1) := by decide +kernel
theorem dX9_writeEntry_27 : decode cX9_writeEntry 27 = .ok (.iconst 0, 1) := by decide +kernel
theorem dX9_writeEntry_28 : decode cX9_writeEntry 28 = .ok (.putfield 154, 3) := by decide +kernel
theorem dX9_writeEntry_31 : decode cX9_writeEntry 31 = .ok (.aload_n 0, 1) := by decide +kernel
theorem dX9_writeEntry_32 : decode cX9_writeEntry 32 = .ok (.iload_n 1, 1) := by decide +kernel
theorem dX9_writeEntry_33 : decode cX9_writeEntry 33 = .ok (.invokevirtual 161, 3) := by decide +kernel
theorem dX9_writeEntry_36 : decode cX9_writeEntry 36 = .ok (.aload_n 0, 1) := by decide +kernel
theorem dX9_writeEntry_37 : decode cX9_writeEntry 37 = .ok (.aload_n 0, 1) := by decide +kernel
theorem dX9_writeEntry_38 : decode cX9_writeEntry 38 = .ok (.getfield 39, 3) := by decide +kernel
theorem dX9_writeEntry_41 : decode cX9_writeEntry 41 = .ok (.iload_n 1, 1) := by decide +kernel
theorem dX9_writeEntry_42 : decode cX9_writeEntry 42 = .ok (.caload, 1) := by decide +kernel
theorem dX9_writeEntry_43 : decode cX9_writeEntry 43 = .ok (.invokevirtual 157, 3) := by decide +kernel
theorem dX9_writeEntry_46 : decode cX9_writeEntry 46 = .ok (.aload_n 0, 1) := by decide +kernel
theorem dX9_writeEntry_47 : decode cX9_writeEntry 47 = .ok (.aload_n 0, 1) := by decide +kernel
theorem dX9_writeEntry_48 : decode cX9_writeEntry 48 = .ok (.getfield 30, 3) := by decide +kernel
theorem dX9_writeEntry_51 : decode cX9_writeEntry 51 = .ok (.iload_n 1, 1) := by decide +kernel
theorem dX9_writeEntry_52 : decode cX9_writeEntry 52 = .ok (.iaload, 1) := by decide +kernel
theorem dX9_writeEntry_53 : decode cX9_writeEntry 53 = .ok (.invokevirtual 161, 3) := by decide +kernel
theorem dX9_writeEntry_56 : decode cX9_writeEntry 56 = .ok (.aload_n 0, 1) := by decide +kernel
theorem dX9_writeEntry_57 : decode cX9_writeEntry 57 = .ok (.bipush 58, 2) := by decide +kernel
theorem dX9_writeEntry_59 : decode cX9_writeEntry 59 = .ok (.invokevirtual 157, 3) := by decide +kernel
theorem dX9_writeEntry_62 : decode cX9_writeEntry 62 = .ok (.aload_n 0, 1) := by decide +kernel
theorem dX9_writeEntry_63 : decode cX9_writeEntry 63 = .ok (.aload_n 0, 1) := by decide +kernel
theorem dX9_writeEntry_64 : decode cX9_writeEntry 64 = .ok (.getfield 33, 3) := by decide +kernel
theorem dX9_writeEntry_67 : decode cX9_writeEntry 67 = .ok (.iload_n 1, 1) := by decide +kernel
theorem dX9_writeEntry_68 : decode cX9_writeEntry 68 = .ok (.iaload, 1) := by decide +kernel
theorem dX9_writeEntry_69 : decode cX9_writeEntry 69 = .ok (.invokevirtual 161, 3) := by decide +kernel
theorem dX9_writeEntry_72 : decode cX9_writeEntry 72 = .ok (.aload_n 0, 1) := by decide +kernel
theorem dX9_writeEntry_73 : decode cX9_writeEntry 73 = .ok (.bipush 45, 2) := by decide +kernel
theorem dX9_writeEntry_75 : decode cX9_writeEntry 75 = .ok (.invokevirtual 157, 3) := by decide +kernel
theorem dX9_writeEntry_78 : decode cX9_writeEntry 78 = .ok (.aload_n 0, 1) := by decide +kernel
theorem dX9_writeEntry_79 : decode cX9_writeEntry 79 = .ok (.aload_n 0, 1) := by decide +kernel
theorem dX9_writeEntry_80 : decode cX9_writeEntry 80 = .ok (.iload_n 1, 1) := by decide +kernel
theorem dX9_writeEntry_81 : decode cX9_writeEntry 81 = .ok (.invokevirtual 137, 3) := by decide +kernel
theorem dX9_writeEntry_84 : decode cX9_writeEntry 84 = .ok (.invokevirtual 161, 3) := by decide +kernel
theorem dX9_writeEntry_87 : decode cX9_writeEntry 87 = .ok (.aload_n 0, 1) := by decide +kernel
theorem dX9_writeEntry_88 : decode cX9_writeEntry 88 = .ok (.bipush 61, 2) := by decide +kernel
theorem dX9_writeEntry_90 : decode cX9_writeEntry 90 = .ok (.invokevirtual 157, 3) := by decide +kernel
theorem dX9_writeEntry_93 : decode cX9_writeEntry 93 = .ok (.aload_n 0, 1) := by decide +kernel
theorem dX9_writeEntry_94 : decode cX9_writeEntry 94 = .ok (.aload_n 0, 1) := by decide +kernel
theorem dX9_writeEntry_95 : decode cX9_writeEntry 95 = .ok (.getfield 45, 3) := by decide +kernel
theorem dX9_writeEntry_98 : decode cX9_writeEntry 98 = .ok (.iload_n 1, 1) := by decide +kernel
theorem dX9_writeEntry_99 : decode cX9_writeEntry 99 = .ok (.iaload, 1) := by decide +kernel
theorem dX9_writeEntry_100 : decode cX9_writeEntry 100 = .ok (.invokevirtual 161, 3) := by decide +kernel
theorem dX9_writeEntry_103 : decode cX9_writeEntry 103 = .ok (.aload_n 0, 1) := by decide +kernel
theorem dX9_writeEntry_104 : decode cX9_writeEntry 104 = .ok (.getfield 154, 3) := by decide +kernel
theorem dX9_writeEntry_107 : decode cX9_writeEntry 107 = .ok (.ireturn, 1) := by decide +kernel
theorem dX9_charAt_0 : decode cX9_charAt 0 = .ok (.aload_n 0, 1) := by decide +kernel
theorem dX9_charAt_1 : decode cX9_charAt 1 = .ok (.iload_n 1, 1) := by decide +kernel
theorem dX9_charAt_2 : decode cX9_charAt 2 = .ok (.iconst 0, 1) := by decide +kernel
theorem dX9_charAt_3 : decode cX9_charAt 3 = .ok (.aload_n 0, 1) := by decide +kernel
theorem dX9_charAt_4 : decode cX9_charAt 4 = .ok (.getfield 154, 3) := by decide +kernel
theorem dX9_charAt_7 : decode cX9_charAt 7 = .ok (.iconst 1, 1) := by decide +kernel
theorem dX9_charAt_8 : decode cX9_charAt 8 = .ok (.isub, 1) := by decide +kernel
theorem dX9_charAt_9 : decode cX9_charAt 9 = .ok (.invokestatic 93, 3) := by decide +kernel
theorem dX9_charAt_12 : decode cX9_charAt 12 = .ok (.ifCond .eq 7, 3) := by decide +kernel
theorem dX9_charAt_15 : decode cX9_charAt 15 = .ok (.iconst 0, 1) := by decide +kernel
theorem dX9_charAt_16 : decode cX9_charAt 16 = .ok (.goto 4, 3) := by decide +kernel
theorem dX9_charAt_19 : decode cX9_charAt 19 = .ok (.iconst 1, 1) := by decide +kernel
theorem dX9_charAt_20 : decode cX9_charAt 20 = .ok (.invokevirtual 107, 3) := by decide +kernel
theorem dX9_charAt_23 : decode cX9_charAt 23 = .ok (.ifCond .eq 8, 3) := by decide +kernel
theorem dX9_charAt_26 : decode cX9_charAt 26 = .ok (.bipush 32, 2) := by decide +kernel
theorem dX9_charAt_28 : decode cX9_charAt 28 = .ok (.goto 9, 3) := by decide +kernel
theorem dX9_charAt_31 : decode cX9_charAt 31 = .ok (.aload_n 0, 1) := by decide +kernel
theorem dX9_charAt_32 : decode cX9_charAt 32 = .ok (.getfield 83, 3) := by decide +kernel
theorem dX9_charAt_35 : decode cX9_charAt 35 = .ok (.iload_n 1, 1) := by decide +kernel
theorem dX9_charAt_36 : decode cX9_charAt 36 = .ok (.caload, 1) := by decide +kernel
theorem dX9_charAt_37 : decode cX9_charAt 37 = .ok (.ireturn, 1) := by decide +kernel
theorem dX9_round_0 : decode cX9_round 0 = .ok (.bipush 60, 2) := by decide +kernel
theorem dX9_round_2 : decode cX9_round 2 = .ok (.aload_n 0, 1) := by decide +kernel
theorem dX9_round_3 : decode cX9_round 3 = .ok (.getfield 13, 3) := by decide +kernel
theorem dX9_round_6 : decode cX9_round 6 = .ok (.iload_n 1, 1) := by decide +kernel
theorem dX9_round_7 : decode cX9_round 7 = .ok (.iaload, 1) := by decide +kernel
theorem dX9_round_8 : decode cX9_round 8 = .ok (.imul, 1) := by decide +kernel
theorem dX9_round_9 : decode cX9_round 9 = .ok (.istore_n 3, 1) := by decide +kernel
theorem dX9_round_10 : decode cX9_round 10 = .ok (.iload_n 2, 1) := by decide +kernel
theorem dX9_round_11 : decode cX9_round 11 = .ok (.iload_n 3, 1) := by decide +kernel
theorem dX9_round_12 : decode cX9_round 12 = .ok (.idiv, 1) := by decide +kernel
theorem dX9_round_13 : decode cX9_round 13 = .ok (.istore 4, 2) := by decide +kernel
theorem dX9_round_15 : decode cX9_round 15 = .ok (.iload_n 2, 1) := by decide +kernel
theorem dX9_round_16 : decode cX9_round 16 = .ok (.iload_n 3, 1) := by decide +kernel
theorem dX9_round_17 : decode cX9_round 17 = .ok (.irem, 1) := by decide +kernel
theorem dX9_round_18 : decode cX9_round 18 = .ok (.istore 5, 2) := by decide +kernel
theorem dX9_round_20 : decode cX9_round 20 = .ok (.aload_n 0, 1) := by decide +kernel
theorem dX9_round_21 : decode cX9_round 21 = .ok (.getfield 17, 3) := by decide +kernel
theorem dX9_round_24 : decode cX9_round 24 = .ok (.iload_n 1, 1) := by decide +kernel
theorem dX9_round_25 : decode cX9_round 25 = .ok (.caload, 1) := by decide +kernel
theorem dX9_round_26 : decode cX9_round 26 = .ok (.bipush 117, 2) := by decide +kernel
theorem dX9_round_28 : decode cX9_round 28 = .ok (.if_icmp .ne 16, 3) := by decide +kernel
theorem dX9_round_31 : decode cX9_round 31 = .ok (.iload 5, 2) := by decide +kernel
theorem dX9_round_33 : decode cX9_round 33 = .ok (.ifCond .le 7, 3) := by decide +kernel
theorem dX9_round_36 : decode cX9_round 36 = .ok (.iconst 1, 1) := by decide +kernel
theorem dX9_round_37 : decode cX9_round 37 = .ok (.goto 31, 3) := by decide +kernel
theorem dX9_round_40 : decode cX9_round 40 = .ok (.iconst 0, 1) := by decide +kernel
theorem dX9_round_41 : decode cX9_round 41 = .ok (.goto 27, 3) := by decide +kernel
theorem dX9_round_44 : decode cX9_round 44 = .ok (.aload_n 0, 1) := by decide +kernel
theorem dX9_round_45 : decode cX9_round 45 = .ok (.getfield 17, 3) := by decide +kernel
theorem dX9_round_48 : decode cX9_round 48 = .ok (.iload_n 1, 1) := by decide +kernel
theorem dX9_round_49 : decode cX9_round 49 = .ok (.caload, 1) := by decide +kernel
theorem dX9_round_50 : decode cX9_round 50 = .ok (.bipush 110, 2) := by decide +kernel
theorem dX9_round_52 : decode cX9_round 52 = .ok (.if_icmp .ne 15, 3) := by decide +kernel
theorem dX9_round_55 : decode cX9_round 55 = .ok (.iconst 2, 1) := by decide +kernel
theorem dX9_round_56 : decode cX9_round 56 = .ok (.iload 5, 2) := by decide +kernel
theorem dX9_round_58 : decode cX9_round 58 = .ok (.imul, 1) := by decide +kernel
theorem dX9_round_59 : decode cX9_round 59 = .ok (.iload_n 3, 1) := by decide +kernel
theorem dX9_round_60 : decode cX9_round 60 = .ok (.if_icmp .lt 7, 3) := by decide +kernel
theorem dX9_round_63 : decode cX9_round 63 = .ok (.iconst 1, 1) := by decide +kernel
theorem dX9_round_64 : decode cX9_round 64 = .ok (.goto 4, 3) := by decide +kernel
theorem dX9_round_67 : decode cX9_round 67 = .ok (.iconst 0, 1) := by decide +kernel
theorem dX9_round_68 : decode cX9_round 68 = .ok (.istore 6, 2) := by decide +kernel
theorem dX9_round_70 : decode cX9_round 70 = .ok (.aload_n 0, 1) := by decide +kernel
theorem dX9_round_71 : decode cX9_round 71 = .ok (.getfield 13, 3) := by decide +kernel
theorem dX9_round_74 : decode cX9_round 74 = .ok (.iload_n 1, 1) := by decide +kernel
theorem dX9_round_75 : decode cX9_round 75 = .ok (.iaload, 1) := by decide +kernel
theorem dX9_round_76 : decode cX9_round 76 = .ok (.iload 6, 2) := by decide +kernel
theorem dX9_round_78 : decode cX9_round 78 = .ok (.ifCond .eq 10, 3) := by decide +kernel
theorem dX9_round_81 : decode cX9_round 81 = .ok (.iload 4, 2) := by decide +kernel
theorem dX9_round_83 : decode cX9_round 83 = .ok (.iconst 1, 1) := by decide +kernel
theorem dX9_round_84 : decode cX9_round 84 = .ok (.iadd, 1) := by decide +kernel
theorem dX9_round_85 : decode cX9_round 85 = .ok (.goto 5, 3) := by decide +kernel
theorem dX9_round_88 : decode cX9_round 88 = .ok (.iload 4, 2) := by decide +kernel
theorem dX9_round_90 : decode cX9_round 90 = .ok (.imul, 1) := by decide +kernel
theorem dX9_round_91 : decode cX9_round 91 = .ok (.ireturn, 1) := by decide +kernel
theorem dX9_belongs_0 : decode cX9_belongs 0 = .ok (.aload_n 0, 1) := by decide +kernel
theorem dX9_belongs_1 : decode cX9_belongs 1 = .ok (.getfield 30, 3) := by decide +kernel
theorem dX9_belongs_4 : decode cX9_belongs 4 = .ok (.iload_n 1, 1) := by decide +kernel
theorem dX9_belongs_5 : decode cX9_belongs 5 = .ok (.iaload, 1) := by decide +kernel
theorem dX9_belongs_6 : decode cX9_belongs 6 = .ok (.iload_n 2, 1) := by decide +kernel
theorem dX9_belongs_7 : decode cX9_belongs 7 = .ok (.if_icmp .ne 33, 3) := by decide +kernel
theorem dX9_belongs_10 : decode cX9_belongs 10 = .ok (.aload_n 0, 1) := by decide +kernel
theorem dX9_belongs_11 : decode cX9_belongs 11 = .ok (.getfield 39, 3) := by decide +kernel
theorem dX9_belongs_14 : decode cX9_belongs 14 = .ok (.iload_n 1, 1) := by decide +kernel
theorem dX9_belongs_15 : decode cX9_belongs 15 = .ok (.caload, 1) := by decide +kernel
theorem dX9_belongs_16 : decode cX9_belongs 16 = .ok (.bipush 101, 2) := by decide +kernel
theorem dX9_belongs_18 : decode cX9_belongs 18 = .ok (.if_icmp .eq 18, 3) := by decide +kernel
theorem dX9_belongs_21 : decode cX9_belongs 21 = .ok (.iload_n 3, 1) := by decide +kernel
theorem dX9_belongs_22 : decode cX9_belongs 22 = .ok (.ifCond .eq 18, 3) := by decide +kernel
theorem dX9_belongs_25 : decode cX9_belongs 25 = .ok (.aload_n 0, 1) := by decide +kernel
theorem dX9_belongs_26 : decode cX9_belongs 26 = .ok (.getfield 39, 3) := by decide +kernel
theorem dX9_belongs_29 : decode cX9_belongs 29 = .ok (.iload_n 1, 1) := by decide +kernel
theorem dX9_belongs_30 : decode cX9_belongs 30 = .ok (.caload, 1) := by decide +kernel
theorem dX9_belongs_31 : decode cX9_belongs 31 = .ok (.bipush 114, 2) := by decide +kernel
theorem dX9_belongs_33 : decode cX9_belongs 33 = .ok (.if_icmp .ne 7, 3) := by decide +kernel
theorem dX9_belongs_36 : decode cX9_belongs 36 = .ok (.iconst 1, 1) := by decide +kernel
theorem dX9_belongs_37 : decode cX9_belongs 37 = .ok (.goto 4, 3) := by decide +kernel
theorem dX9_belongs_40 : decode cX9_belongs 40 = .ok (.iconst 0, 1) := by decide +kernel
theorem dX9_belongs_41 : decode cX9_belongs 41 = .ok (.ireturn, 1) := by decide +kernel
theorem dX9_isAhead_0 : decode cX9_isAhead 0 = .ok (.aload_n 0, 1) := by decide +kernel
theorem dX9_isAhead_1 : decode cX9_isAhead 1 = .ok (.getfield 33, 3) := by decide +kernel
theorem dX9_isAhead_4 : decode cX9_isAhead 4 = .ok (.iload_n 1, 1) := by decide +kernel
theorem dX9_isAhead_5 : decode cX9_isAhead 5 = .ok (.iaload, 1) := by decide +kernel
theorem dX9_isAhead_6 : decode cX9_isAhead 6 = .ok (.aload_n 0, 1) := by decide +kernel
theorem dX9_isAhead_7 : decode cX9_isAhead 7 = .ok (.getfield 33, 3) := by decide +kernel
theorem dX9_isAhead_10 : decode cX9_isAhead 10 = .ok (.iload_n 2, 1) := by decide +kernel
theorem dX9_isAhead_11 : decode cX9_isAhead 11 = .ok (.iaload, 1) := by decide +kernel
theorem dX9_isAhead_12 : decode cX9_isAhead 12 = .ok (.if_icmp .lt 23, 3) := by decide +kernel
theorem dX9_isAhead_15 : decode cX9_isAhead 15 = .ok (.aload_n 0, 1) := by decide +kernel
theorem dX9_isAhead_16 : decode cX9_isAhead 16 = .ok (.getfield 33, 3) := by decide +kernel
theorem dX9_isAhead_19 : decode cX9_isAhead 19 = .ok (.iload_n 1, 1) := by decide +kernel
theorem dX9_isAhead_20 : decode cX9_isAhead 20 = .ok (.iaload, 1) := by decide +kernel
theorem dX9_isAhead_21 : decode cX9_isAhead 21 = .ok (.aload_n 0, 1) := by decide +kernel
theorem dX9_isAhead_22 : decode cX9_isAhead 22 = .ok (.getfield 33, 3) := by decide +kernel
theorem dX9_isAhead_25 : decode cX9_isAhead 25 = .ok (.iload_n 2, 1) := by decide +kernel
theorem dX9_isAhead_26 : decode cX9_isAhead 26 = .ok (.iaload, 1) := by decide +kernel
theorem dX9_isAhead_27 : decode cX9_isAhead 27 = .ok (.if_icmp .ne 12, 3) := by decide +kernel
theorem dX9_isAhead_30 : decode cX9_isAhead 30 = .ok (.iload_n 1, 1) := by decide +kernel
theorem dX9_isAhead_31 : decode cX9_isAhead 31 = .ok (.iload_n 2, 1) := by decide +kernel
theorem dX9_isAhead_32 : decode cX9_isAhead 32 = .ok (.if_icmp .ge 7, 3) := by decide +kernel
theorem dX9_isAhead_35 : decode cX9_isAhead 35 = .ok (.iconst 1, 1) := by decide +kernel
theorem dX9_isAhead_36 : decode cX9_isAhead 36 = .ok (.goto 4, 3) := by decide +kernel
theorem dX9_isAhead_39 : decode cX9_isAhead 39 = .ok (.iconst 0, 1) := by decide +kernel
theorem dX9_isAhead_40 : decode cX9_isAhead 40 = .ok (.ireturn, 1) := by decide +kernel
theorem dX9_behind_0 : decode cX9_behind 0 = .ok (.iconst (-1), 1) := by decide +kernel
theorem dX9_behind_1 : decode cX9_behind 1 = .ok (.istore 4, 2) := by decide +kernel
theorem dX9_behind_3 : decode cX9_behind 3 = .ok (.iconst 0, 1) := by decide +kernel
theorem dX9_behind_4 : decode cX9_behind 4 = .ok (.istore 5, 2) := by decide +kernel
theorem dX9_behind_6 : decode cX9_behind 6 = .ok (.iload 5, 2) := by decide +kernel
theorem dX9_behind_8 : decode cX9_behind 8 = .ok (.aload_n 0, 1) := by decide +kernel
theorem dX9_behind_9 : decode cX9_behind 9 = .ok (.getfield 97, 3) := by decide +kernel
theorem dX9_behind_12 : decode cX9_behind 12 = .ok (.if_icmp .ge 54, 3) := by decide +kernel
theorem dX9_behind_15 : decode cX9_behind 15 = .ok (.aload_n 0, 1) := by decide +kernel
theorem dX9_behind_16 : decode cX9_behind 16 = .ok (.iload 5, 2) := by decide +kernel
theorem dX9_behind_18 : decode cX9_behind 18 = .ok (.iload_n 1, 1) := by decide +kernel
theorem dX9_behind_19 : decode cX9_behind 19 = .ok (.iload_n 3, 1) := by decide +kernel
theorem dX9_behind_20 : decode cX9_behind 20 = .ok (.invokevirtual 165, 3) := by decide +kernel
theorem dX9_behind_23 : decode cX9_behind 23 = .ok (.ifCond .eq 37, 3) := by decide +kernel
theorem dX9_behind_26 : decode cX9_behind 26 = .ok (.iload_n 2, 1) := by decide +kernel
theorem dX9_behind_27 : decode cX9_behind 27 = .ok (.ifCond .lt 13, 3) := by decide +kernel
theorem dX9_behind_30 : decode cX9_behind 30 = .ok (.aload_n 0, 1) := by decide +kernel
theorem dX9_behind_31 : decode cX9_behind 31 = .ok (.iload_n 2, 1) := by decide +kernel
theorem dX9_behind_32 : decode cX9_behind 32 = .ok (.iload 5, 2) := by decide +kernel
theorem dX9_behind_34 : decode cX9_behind 34 = .ok (.invokevirtual 169, 3) := by decide +kernel
theorem dX9_behind_37 : decode cX9_behind 37 = .ok (.ifCond .eq 23, 3) := by decide +kernel
theorem dX9_behind_40 : decode cX9_behind 40 = .ok (.iload 4, 2) := by decide +kernel
theorem dX9_behind_42 : decode cX9_behind 42 = .ok (.ifCond .lt 14, 3) := by decide +kernel
theorem dX9_behind_45 : decode cX9_behind 45 = .ok (.aload_n 0, 1) := by decide +kernel
theorem dX9_behind_46 : decode cX9_behind 46 = .ok (.iload 5, 2) := by decide +kernel
theorem dX9_behind_48 : decode cX9_behind 48 = .ok (.iload 4, 2) := by decide +kernel
theorem dX9_behind_50 : decode cX9_behind 50 = .ok (.invokevirtual 169, 3) := by decide +kernel
theorem dX9_behind_53 : decode cX9_behind 53 = .ok (.ifCond .eq 7, 3) := by decide +kernel
theorem dX9_behind_56 : decode cX9_behind 56 = .ok (.iload 5, 2) := by decide +kernel
theorem dX9_behind_58 : decode cX9_behind 58 = .ok (.istore 4, 2) := by decide +kernel
theorem dX9_behind_60 : decode cX9_behind 60 = .ok (.iinc 5 1, 3) := by decide +kernel
theorem dX9_behind_63 : decode cX9_behind 63 = .ok (.goto (-57), 3) := by decide +kernel
theorem dX9_behind_66 : decode cX9_behind 66 = .ok (.iload 4, 2) := by decide +kernel
theorem dX9_behind_68 : decode cX9_behind 68 = .ok (.ireturn, 1) := by decide +kernel
theorem dX9_aheadOf_0 : decode cX9_aheadOf 0 = .ok (.iconst 0, 1) := by decide +kernel
theorem dX9_aheadOf_1 : decode cX9_aheadOf 1 = .ok (.istore 4, 2) := by decide +kernel
theorem dX9_aheadOf_3 : decode cX9_aheadOf 3 = .ok (.iconst 0, 1) := by decide +kernel
theorem dX9_aheadOf_4 : decode cX9_aheadOf 4 = .ok (.istore 5, 2) := by decide +kernel
theorem dX9_aheadOf_6 : decode cX9_aheadOf 6 = .ok (.iload 5, 2) := by decide +kernel
theorem dX9_aheadOf_8 : decode cX9_aheadOf 8 = .ok (.aload_n 0, 1) := by decide +kernel
theorem dX9_aheadOf_9 : decode cX9_aheadOf 9 = .ok (.getfield 97, 3) := by decide +kernel
theorem dX9_aheadOf_12 : decode cX9_aheadOf 12 = .ok (.if_icmp .ge 46, 3) := by decide +kernel
theorem dX9_aheadOf_15 : decode cX9_aheadOf 15 = .ok (.iload 4, 2) := by decide +kernel
theorem dX9_aheadOf_17 : decode cX9_aheadOf 17 = .ok (.aload_n 0, 1) := by decide +kernel
theorem dX9_aheadOf_18 : decode cX9_aheadOf 18 = .ok (.iload 5, 2) := by decide +kernel
theorem dX9_aheadOf_20 : decode cX9_aheadOf 20 = .ok (.iload_n 1, 1) := by decide +kernel
theorem dX9_aheadOf_21 : decode cX9_aheadOf 21 = .ok (.iload_n 3, 1) := by decide +kernel
theorem dX9_aheadOf_22 : decode cX9_aheadOf 22 = .ok (.invokevirtual 165, 3) := by decide +kernel
theorem dX9_aheadOf_25 : decode cX9_aheadOf 25 = .ok (.ifCond .eq 23, 3) := by decide +kernel
theorem dX9_aheadOf_28 : decode cX9_aheadOf 28 = .ok (.aload_n 0, 1) := by decide +kernel
theorem dX9_aheadOf_29 : decode cX9_aheadOf 29 = .ok (.iload 5, 2) := by decide +kernel
theorem dX9_aheadOf_31 : decode cX9_aheadOf 31 = .ok (.iload_n 2, 1) := by decide +kernel
theorem dX9_aheadOf_32 : decode cX9_aheadOf 32 = .ok (.invokevirtual 169, 3) := by decide +kernel
theorem dX9_aheadOf_35 : decode cX9_aheadOf 35 = .ok (.ifCond .eq 13, 3) := by decide +kernel
theorem dX9_aheadOf_38 : decode cX9_aheadOf 38 = .ok (.aload_n 0, 1) := by decide +kernel
theorem dX9_aheadOf_39 : decode cX9_aheadOf 39 = .ok (.getfield 45, 3) := by decide +kernel
theorem dX9_aheadOf_42 : decode cX9_aheadOf 42 = .ok (.iload 5, 2) := by decide +kernel
theorem dX9_aheadOf_44 : decode cX9_aheadOf 44 = .ok (.iaload, 1) := by decide +kernel
theorem dX9_aheadOf_45 : decode cX9_aheadOf 45 = .ok (.goto 4, 3) := by decide +kernel
theorem dX9_aheadOf_48 : decode cX9_aheadOf 48 = .ok (.iconst 0, 1) := by decide +kernel
theorem dX9_aheadOf_49 : decode cX9_aheadOf 49 = .ok (.iadd, 1) := by decide +kernel
theorem dX9_aheadOf_50 : decode cX9_aheadOf 50 = .ok (.istore 4, 2) := by decide +kernel
theorem dX9_aheadOf_52 : decode cX9_aheadOf 52 = .ok (.iinc 5 1, 3) := by decide +kernel
theorem dX9_aheadOf_55 : decode cX9_aheadOf 55 = .ok (.goto (-49), 3) := by decide +kernel
theorem dX9_aheadOf_58 : decode cX9_aheadOf 58 = .ok (.iload 4, 2) := by decide +kernel
theorem dX9_aheadOf_60 : decode cX9_aheadOf 60 = .ok (.ireturn, 1) := by decide +kernel
theorem dX9_roundedOf_0 : decode cX9_roundedOf 0 = .ok (.aload_n 0, 1) := by decide +kernel
theorem dX9_roundedOf_1 : decode cX9_roundedOf 1 = .ok (.getfield 21, 3) := by decide +kernel
theorem dX9_roundedOf_4 : decode cX9_roundedOf 4 = .ok (.iload_n 1, 1) := by decide +kernel
theorem dX9_roundedOf_5 : decode cX9_roundedOf 5 = .ok (.caload, 1) := by decide +kernel
theorem dX9_roundedOf_6 : decode cX9_roundedOf 6 = .ok (.bipush 101, 2) := by decide +kernel
theorem dX9_roundedOf_8 : decode cX9_roundedOf 8 = .ok (.if_icmp .ne 15, 3) := by decide +kernel
theorem dX9_roundedOf_11 : decode cX9_roundedOf 11 = .ok (.aload_n 0, 1) := by decide +kernel
theorem dX9_roundedOf_12 : decode cX9_roundedOf 12 = .ok (.iload_n 1, 1) := by decide +kernel
theorem dX9_roundedOf_13 : decode cX9_roundedOf 13 = .ok (.aload_n 0, 1) := by decide +kernel
theorem dX9_roundedOf_14 : decode cX9_roundedOf 14 = .ok (.getfield 45, 3) := by decide +kernel
theorem dX9_roundedOf_17 : decode cX9_roundedOf 17 = .ok (.iload_n 2, 1) := by decide +kernel
theorem dX9_roundedOf_18 : decode cX9_roundedOf 18 = .ok (.iaload, 1) := by decide +kernel
theorem dX9_roundedOf_19 : decode cX9_roundedOf 19 = .ok (.invokevirtual 172, 3) := by decide +kernel
theorem dX9_roundedOf_22 : decode cX9_roundedOf 22 = .ok (.ireturn, 1) := by decide +kernel
theorem dX9_roundedOf_23 : decode cX9_roundedOf 23 = .ok (.aload_n 0, 1) := by decide +kernel
theorem dX9_roundedOf_24 : decode cX9_roundedOf 24 = .ok (.iload_n 1, 1) := by decide +kernel
theorem dX9_roundedOf_25 : decode cX9_roundedOf 25 = .ok (.iload_n 2, 1) := by decide +kernel
theorem dX9_roundedOf_26 : decode cX9_roundedOf 26 = .ok (.iload_n 3, 1) := by decide +kernel
theorem dX9_roundedOf_27 : decode cX9_roundedOf 27 = .ok (.invokevirtual 176, 3) := by decide +kernel
theorem dX9_roundedOf_30 : decode cX9_roundedOf 30 = .ok (.istore 4, 2) := by decide +kernel
theorem dX9_roundedOf_32 : decode cX9_roundedOf 32 = .ok (.aload_n 0, 1) := by decide +kernel
theorem dX9_roundedOf_33 : decode cX9_roundedOf 33 = .ok (.iload_n 1, 1) := by decide +kernel
theorem dX9_roundedOf_34 : decode cX9_roundedOf 34 = .ok (.iload 4, 2) := by decide +kernel
theorem dX9_roundedOf_36 : decode cX9_roundedOf 36 = .ok (.aload_n 0, 1) := by decide +kernel
theorem dX9_roundedOf_37 : decode cX9_roundedOf 37 = .ok (.getfield 45, 3) := by decide +kernel
theorem dX9_roundedOf_40 : decode cX9_roundedOf 40 = .ok (.iload_n 2, 1) := by decide +kernel
theorem dX9_roundedOf_41 : decode cX9_roundedOf 41 = .ok (.iaload, 1) := by decide +kernel
theorem dX9_roundedOf_42 : decode cX9_roundedOf 42 = .ok (.iadd, 1) := by decide +kernel
theorem dX9_roundedOf_43 : decode cX9_roundedOf 43 = .ok (.invokevirtual 172, 3) := by decide +kernel
theorem dX9_roundedOf_46 : decode cX9_roundedOf 46 = .ok (.aload_n 0, 1) := by decide +kernel
theorem dX9_roundedOf_47 : decode cX9_roundedOf 47 = .ok (.iload_n 1, 1) := by decide +kernel
theorem dX9_roundedOf_48 : decode cX9_roundedOf 48 = .ok (.iload 4, 2) := by decide +kernel
theorem dX9_roundedOf_50 : decode cX9_roundedOf 50 = .ok (.invokevirtual 172, 3) := by decide +kernel
theorem dX9_roundedOf_53 : decode cX9_roundedOf 53 = .ok (.isub, 1) := by decide +kernel
theorem dX9_roundedOf_54 : decode cX9_roundedOf 54 = .ok (.ireturn, 1) := by decide +kernel
theorem dX9_rounded_0 : decode cX9_rounded 0 = .ok (.aload_n 0, 1) := by decide +kernel
theorem dX9_rounded_1 : decode cX9_rounded 1 = .ok (.aload_n 0, 1) := by decide +kernel
theorem dX9_rounded_2 : decode cX9_rounded 2 = .ok (.iload_n 1, 1) := by decide +kernel
theorem dX9_rounded_3 : decode cX9_rounded 3 = .ok (.invokevirtual 131, 3) := by decide +kernel
theorem dX9_rounded_6 : decode cX9_rounded 6 = .ok (.ifCond .eq 7, 3) := by decide +kernel
theorem dX9_rounded_9 : decode cX9_rounded 9 = .ok (.iconst 1, 1) := by decide +kernel
theorem dX9_rounded_10 : decode cX9_rounded 10 = .ok (.goto 36, 3) := by decide +kernel
theorem dX9_rounded_13 : decode cX9_rounded 13 = .ok (.aload_n 0, 1) := by decide +kernel
theorem dX9_rounded_14 : decode cX9_rounded 14 = .ok (.iload_n 1, 1) := by decide +kernel
theorem dX9_rounded_15 : decode cX9_rounded 15 = .ok (.invokevirtual 134, 3) := by decide +kernel
theorem dX9_rounded_18 : decode cX9_rounded 18 = .ok (.ifCond .ne 7, 3) := by decide +kernel
theorem dX9_rounded_21 : decode cX9_rounded 21 = .ok (.iconst 2, 1) := by decide +kernel
theorem dX9_rounded_22 : decode cX9_rounded 22 = .ok (.goto 24, 3) := by decide +kernel
theorem dX9_rounded_25 : decode cX9_rounded 25 = .ok (.aload_n 0, 1) := by decide +kernel
theorem dX9_rounded_26 : decode cX9_rounded 26 = .ok (.getfield 21, 3) := by decide +kernel
theorem dX9_rounded_29 : decode cX9_rounded 29 = .ok (.aload_n 0, 1) := by decide +kernel
theorem dX9_rounded_30 : decode cX9_rounded 30 = .ok (.getfield 30, 3) := by decide +kernel
theorem dX9_rounded_33 : decode cX9_rounded 33 = .ok (.iload_n 1, 1) := by decide +kernel
theorem dX9_rounded_34 : decode cX9_rounded 34 = .ok (.iaload, 1) := by decide +kernel
theorem dX9_rounded_35 : decode cX9_rounded 35 = .ok (.caload, 1) := by decide +kernel
theorem dX9_rounded_36 : decode cX9_rounded 36 = .ok (.bipush 100, 2) := by decide +kernel
theorem dX9_rounded_38 : decode cX9_rounded 38 = .ok (.if_icmp .ne 7, 3) := by decide +kernel
theorem dX9_rounded_41 : decode cX9_rounded 41 = .ok (.iconst 3, 1) := by decide +kernel
theorem dX9_rounded_42 : decode cX9_rounded 42 = .ok (.goto 4, 3) := by decide +kernel
theorem dX9_rounded_45 : decode cX9_rounded 45 = .ok (.iconst 0, 1) := by decide +kernel
theorem dX9_rounded_46 : decode cX9_rounded 46 = .ok (.invokevirtual 107, 3) := by decide +kernel
theorem dX9_rounded_49 : decode cX9_rounded 49 = .ok (.ifCond .eq 5, 3) := by decide +kernel
theorem dX9_rounded_52 : decode cX9_rounded 52 = .ok (.iconst 0, 1) := by decide +kernel
theorem dX9_rounded_53 : decode cX9_rounded 53 = .ok (.ireturn, 1) := by decide +kernel
theorem dX9_rounded_54 : decode cX9_rounded 54 = .ok (.aload_n 0, 1) := by decide +kernel
theorem dX9_rounded_55 : decode cX9_rounded 55 = .ok (.invokevirtual 148, 3) := by decide +kernel
theorem dX9_rounded_58 : decode cX9_rounded 58 = .ok (.aload_n 0, 1) := by decide +kernel
theorem dX9_rounded_59 : decode cX9_rounded 59 = .ok (.aload_n 0, 1) := by decide +kernel
theorem dX9_rounded_60 : decode cX9_rounded 60 = .ok (.getfield 30, 3) := by decide +kernel
theorem dX9_rounded_63 : decode cX9_rounded 63 = .ok (.iload_n 1, 1) := by decide +kernel
theorem dX9_rounded_64 : decode cX9_rounded 64 = .ok (.iaload, 1) := by decide +kernel
theorem dX9_rounded_65 : decode cX9_rounded 65 = .ok (.iload_n 1, 1) := by decide +kernel
theorem dX9_rounded_66 : decode cX9_rounded 66 = .ok (.iconst 1, 1) := by decide +kernel
theorem dX9_rounded_67 : decode cX9_rounded 67 = .ok (.invokevirtual 180, 3) := by decide +kernel
theorem dX9_rounded_70 : decode cX9_rounded 70 = .ok (.ireturn, 1) := by decide +kernel
theorem dX9_dayOf_0 : decode cX9_dayOf 0 = .ok (.iconst 0, 1) := by decide +kernel
theorem dX9_dayOf_1 : decode cX9_dayOf 1 = .ok (.istore 4, 2) := by decide +kernel
theorem dX9_dayOf_3 : decode cX9_dayOf 3 = .ok (.iconst 0, 1) := by decide +kernel
theorem dX9_dayOf_4 : decode cX9_dayOf 4 = .ok (.istore 5, 2) := by decide +kernel
theorem dX9_dayOf_6 : decode cX9_dayOf 6 = .ok (.iload 5, 2) := by decide +kernel
theorem dX9_dayOf_8 : decode cX9_dayOf 8 = .ok (.aload_n 0, 1) := by decide +kernel
theorem dX9_dayOf_9 : decode cX9_dayOf 9 = .ok (.getfield 97, 3) := by decide +kernel
theorem dX9_dayOf_12 : decode cX9_dayOf 12 = .ok (.if_icmp .ge 40, 3) := by decide +kernel
theorem dX9_dayOf_15 : decode cX9_dayOf 15 = .ok (.iload 4, 2) := by decide +kernel
theorem dX9_dayOf_17 : decode cX9_dayOf 17 = .ok (.aload_n 0, 1) := by decide +kernel
theorem dX9_dayOf_18 : decode cX9_dayOf 18 = .ok (.iload 5, 2) := by decide +kernel
theorem dX9_dayOf_20 : decode cX9_dayOf 20 = .ok (.iload_n 1, 1) := by decide +kernel
theorem dX9_dayOf_21 : decode cX9_dayOf 21 = .ok (.iload_n 3, 1) := by decide +kernel
theorem dX9_dayOf_22 : decode cX9_dayOf 22 = .ok (.invokevirtual 165, 3) := by decide +kernel
theorem dX9_dayOf_25 : decode cX9_dayOf 25 = .ok (.ifCond .eq 17, 3) := by decide +kernel
theorem dX9_dayOf_28 : decode cX9_dayOf 28 = .ok (.aload_n 0, 1) := by decide +kernel
theorem dX9_dayOf_29 : decode cX9_dayOf 29 = .ok (.getfield 48, 3) := by decide +kernel
theorem dX9_dayOf_32 : decode cX9_dayOf 32 = .ok (.iconst 5, 1) := by decide +kernel
theorem dX9_dayOf_33 : decode cX9_dayOf 33 = .ok (.iload 5, 2) := by decide +kernel
theorem dX9_dayOf_35 : decode cX9_dayOf 35 = .ok (.imul, 1) := by decide +kernel
theorem dX9_dayOf_36 : decode cX9_dayOf 36 = .ok (.iload_n 2, 1) := by decide +kernel
theorem dX9_dayOf_37 : decode cX9_dayOf 37 = .ok (.iadd, 1) := by decide +kernel
theorem dX9_dayOf_38 : decode cX9_dayOf 38 = .ok (.iaload, 1) := by decide +kernel
theorem dX9_dayOf_39 : decode cX9_dayOf 39 = .ok (.goto 4, 3) := by decide +kernel
theorem dX9_dayOf_42 : decode cX9_dayOf 42 = .ok (.iconst 0, 1) := by decide +kernel
theorem dX9_dayOf_43 : decode cX9_dayOf 43 = .ok (.iadd, 1) := by decide +kernel
theorem dX9_dayOf_44 : decode cX9_dayOf 44 = .ok (.istore 4, 2) := by decide +kernel
theorem dX9_dayOf_46 : decode cX9_dayOf 46 = .ok (.iinc 5 1, 3) := by decide +kernel
theorem dX9_dayOf_49 : decode cX9_dayOf 49 = .ok (.goto (-43), 3) := by decide +kernel
theorem dX9_dayOf_52 : decode cX9_dayOf 52 = .ok (.iload 4, 2) := by decide +kernel
theorem dX9_dayOf_54 : decode cX9_dayOf 54 = .ok (.ireturn, 1) := by decide +kernel
theorem dX9_secondsIn_0 : decode cX9_secondsIn 0 = .ok (.aload_n 0, 1) := by decide +kernel
theorem dX9_secondsIn_1 : decode cX9_secondsIn 1 = .ok (.aload_n 0, 1) := by decide +kernel
theorem dX9_secondsIn_2 : decode cX9_secondsIn 2 = .ok (.iload_n 1, 1) := by decide +kernel
theorem dX9_secondsIn_3 : decode cX9_secondsIn 3 = .ok (.invokevirtual 120, 3) := by decide +kernel
theorem dX9_secondsIn_6 : decode cX9_secondsIn 6 = .ok (.ifCond .eq 7, 3) := by decide +kernel
theorem dX9_secondsIn_9 : decode cX9_secondsIn 9 = .ok (.iconst 1, 1) := by decide +kernel
theorem dX9_secondsIn_10 : decode cX9_secondsIn 10 = .ok (.goto 17, 3) := by decide +kernel
theorem dX9_secondsIn_13 : decode cX9_secondsIn 13 = .ok (.iload_n 2, 1) := by decide +kernel
theorem dX9_secondsIn_14 : decode cX9_secondsIn 14 = .ok (.iconst 0, 1) := by decide +kernel
theorem dX9_secondsIn_15 : decode cX9_secondsIn 15 = .ok (.iconst 4, 1) := by decide +kernel
theorem dX9_secondsIn_16 : decode cX9_secondsIn 16 = .ok (.invokestatic 93, 3) := by decide +kernel
theorem dX9_secondsIn_19 : decode cX9_secondsIn 19 = .ok (.ifCond .eq 7, 3) := by decide +kernel
theorem dX9_secondsIn_22 : decode cX9_secondsIn 22 = .ok (.iconst 0, 1) := by decide +kernel
theorem dX9_secondsIn_23 : decode cX9_secondsIn 23 = .ok (.goto 4, 3) := by decide +kernel
theorem dX9_secondsIn_26 : decode cX9_secondsIn 26 = .ok (.iconst 2, 1) := by decide +kernel
theorem dX9_secondsIn_27 : decode cX9_secondsIn 27 = .ok (.invokevirtual 107, 3) := by decide +kernel
theorem dX9_secondsIn_30 : decode cX9_secondsIn 30 = .ok (.ifCond .eq 5, 3) := by decide +kernel
theorem dX9_secondsIn_33 : decode cX9_secondsIn 33 = .ok (.iconst 0, 1) := by decide +kernel
theorem dX9_secondsIn_34 : decode cX9_secondsIn 34 = .ok (.ireturn, 1) := by decide +kernel
theorem dX9_secondsIn_35 : decode cX9_secondsIn 35 = .ok (.aload_n 0, 1) := by decide +kernel
theorem dX9_secondsIn_36 : decode cX9_secondsIn 36 = .ok (.invokevirtual 148, 3) := by decide +kernel
theorem dX9_secondsIn_39 : decode cX9_secondsIn 39 = .ok (.aload_n 0, 1) := by decide +kernel
theorem dX9_secondsIn_40 : decode cX9_secondsIn 40 = .ok (.iload_n 1, 1) := by decide +kernel
theorem dX9_secondsIn_41 : decode cX9_secondsIn 41 = .ok (.iload_n 2, 1) := by decide +kernel
theorem dX9_secondsIn_42 : decode cX9_secondsIn 42 = .ok (.iconst 1, 1) := by decide +kernel
theorem dX9_secondsIn_43 : decode cX9_secondsIn 43 = .ok (.invokevirtual 183, 3) := by decide +kernel
theorem dX9_secondsIn_46 : decode cX9_secondsIn 46 = .ok (.ireturn, 1) := by decide +kernel
theorem dX9_daySeconds_0 : decode cX9_daySeconds 0 = .ok (.aload_n 0, 1) := by decide +kernel
theorem dX9_daySeconds_1 : decode cX9_daySeconds 1 = .ok (.iload_n 1, 1) := by decide +kernel
theorem dX9_daySeconds_2 : decode cX9_daySeconds 2 = .ok (.iload_n 2, 1) := by decide +kernel
theorem dX9_daySeconds_3 : decode cX9_daySeconds 3 = .ok (.invokevirtual 186, 3) := by decide +kernel
theorem dX9_daySeconds_6 : decode cX9_daySeconds 6 = .ok (.ireturn, 1) := by decide +kernel
theorem dX9_daySecondsByMinutes_0 : decode cX9_daySecondsByMinutes 0 = .ok (.aload_n 0, 1) := by decide +kernel
theorem dX9_daySecondsByMinutes_1 : decode cX9_daySecondsByMinutes 1 = .ok (.iload_n 1, 1) := by decide +kernel
theorem dX9_daySecondsByMinutes_2 : decode cX9_daySecondsByMinutes 2 = .ok (.iload_n 2, 1) := by decide +kernel
theorem dX9_daySecondsByMinutes_3 : decode cX9_daySecondsByMinutes 3 = .ok (.invokevirtual 186, 3) := by decide +kernel
theorem dX9_daySecondsByMinutes_6 : decode cX9_daySecondsByMinutes 6 = .ok (.ireturn, 1) := by decide +kernel
theorem dX9_openOf_0 : decode cX9_openOf 0 = .ok (.aload_n 0, 1) := by decide +kernel
theorem dX9_openOf_1 : decode cX9_openOf 1 = .ok (.invokevirtual 148, 3) := by decide +kernel
theorem dX9_openOf_4 : decode cX9_openOf 4 = .ok (.iconst 0, 1) := by decide +kernel
theorem dX9_openOf_5 : decode cX9_openOf 5 = .ok (.istore_n 2, 1) := by decide +kernel
theorem dX9_openOf_6 : decode cX9_openOf 6 = .ok (.aload_n 0, 1) := by decide +kernel
theorem dX9_openOf_7 : decode cX9_openOf 7 = .ok (.getfield 21, 3) := by decide +kernel
theorem dX9_openOf_10 : decode cX9_openOf 10 = .ok (.iload_n 1, 1) := by decide +kernel
theorem dX9_openOf_11 : decode cX9_openOf 11 = .ok (.caload, 1) := by decide +kernel
theorem dX9_openOf_12 : decode cX9_openOf 12 = .ok (.bipush 100, 2) := by decide +kernel
theorem dX9_openOf_14 : decode cX9_openOf 14 = .ok (.if_icmp .ne 33, 3) := by decide +kernel
theorem dX9_openOf_17 : decode cX9_openOf 17 = .ok (.iconst 0, 1) := by decide +kernel
theorem dX9_openOf_18 : decode cX9_openOf 18 = .ok (.istore_n 3, 1) := by decide +kernel
theorem dX9_openOf_19 : decode cX9_openOf 19 = .ok (.iload_n 3, 1) := by decide +kernel
theorem dX9_openOf_20 : decode cX9_openOf 20 = .ok (.iconst 5, 1) := by decide +kernel
theorem dX9_openOf_21 : decode cX9_openOf 21 = .ok (.if_icmp .ge 24, 3) := by decide +kernel
theorem dX9_openOf_24 : decode cX9_openOf 24 = .ok (.iload_n 2, 1) := by decide +kernel
theorem dX9_openOf_25 : decode cX9_openOf 25 = .ok (.aload_n 0, 1) := by decide +kernel
theorem dX9_openOf_26 : decode cX9_openOf 26 = .ok (.iload_n 1, 1) := by decide +kernel
theorem dX9_openOf_27 : decode cX9_openOf 27 = .ok (.aload_n 0, 1) := by decide +kernel
theorem dX9_openOf_28 : decode cX9_openOf 28 = .ok (.iload_n 1, 1) := by decide +kernel
theorem dX9_openOf_29 : decode cX9_openOf 29 = .ok (.iload_n 3, 1) := by decide +kernel
theorem dX9_openOf_30 : decode cX9_openOf 30 = .ok (.iconst 1, 1) := by decide +kernel
theorem dX9_openOf_31 : decode cX9_openOf 31 = .ok (.invokevirtual 183, 3) := by decide +kernel
theorem dX9_openOf_34 : decode cX9_openOf 34 = .ok (.invokevirtual 172, 3) := by decide +kernel
theorem dX9_openOf_37 : decode cX9_openOf 37 = .ok (.iadd, 1) := by decide +kernel
theorem dX9_openOf_38 : decode cX9_openOf 38 = .ok (.istore_n 2, 1) := by decide +kernel
theorem dX9_openOf_39 : decode cX9_openOf 39 = .ok (.iinc 3 1, 3) := by decide +kernel
theorem dX9_openOf_42 : decode cX9_openOf 42 = .ok (.goto (-23), 3) := by decide +kernel
theorem dX9_openOf_45 : decode cX9_openOf 45 = .ok (.iload_n 2, 1) := by decide +kernel
theorem dX9_openOf_46 : decode cX9_openOf 46 = .ok (.ireturn, 1) := by decide +kernel
theorem dX9_openOf_47 : decode cX9_openOf 47 = .ok (.iconst 0, 1) := by decide +kernel
theorem dX9_openOf_48 : decode cX9_openOf 48 = .ok (.istore_n 3, 1) := by decide +kernel
theorem dX9_openOf_49 : decode cX9_openOf 49 = .ok (.iload_n 3, 1) := by decide +kernel
theorem dX9_openOf_50 : decode cX9_openOf 50 = .ok (.aload_n 0, 1) := by decide +kernel
theorem dX9_openOf_51 : decode cX9_openOf 51 = .ok (.getfield 97, 3) := by decide +kernel
theorem dX9_openOf_54 : decode cX9_openOf 54 = .ok (.if_icmp .ge 33, 3) := by decide +kernel
theorem dX9_openOf_57 : decode cX9_openOf 57 = .ok (.iload_n 2, 1) := by decide +kernel
theorem dX9_openOf_58 : decode cX9_openOf 58 = .ok (.aload_n 0, 1) := by decide +kernel
theorem dX9_openOf_59 : decode cX9_openOf 59 = .ok (.iload_n 3, 1) := by decide +kernel
theorem dX9_openOf_60 : decode cX9_openOf 60 = .ok (.iload_n 1, 1) := by decide +kernel
theorem dX9_openOf_61 : decode cX9_openOf 61 = .ok (.iconst 1, 1) := by decide +kernel
theorem dX9_openOf_62 : decode cX9_openOf 62 = .ok (.invokevirtual 165, 3) := by decide +kernel
theorem dX9_openOf_65 : decode cX9_openOf 65 = .ok (.ifCond .eq 13, 3) := by decide +kernel
theorem dX9_openOf_68 : decode cX9_openOf 68 = .ok (.aload_n 0, 1) := by decide +kernel
theorem dX9_openOf_69 : decode cX9_openOf 69 = .ok (.iload_n 1, 1) := by decide +kernel
theorem dX9_openOf_70 : decode cX9_openOf 70 = .ok (.iload_n 3, 1) := by decide +kernel
theorem dX9_openOf_71 : decode cX9_openOf 71 = .ok (.iconst 1, 1) := by decide +kernel
theorem dX9_openOf_72 : decode cX9_openOf 72 = .ok (.invokevirtual 180, 3) := by decide +kernel
theorem dX9_openOf_75 : decode cX9_openOf 75 = .ok (.goto 4, 3) := by decide +kernel
theorem dX9_openOf_78 : decode cX9_openOf 78 = .ok (.iconst 0, 1) := by decide +kernel
theorem dX9_openOf_79 : decode cX9_openOf 79 = .ok (.iadd, 1) := by decide +kernel
theorem dX9_openOf_80 : decode cX9_openOf 80 = .ok (.istore_n 2, 1) := by decide +kernel
theorem dX9_openOf_81 : decode cX9_openOf 81 = .ok (.iinc 3 1, 3) := by decide +kernel
theorem dX9_openOf_84 : decode cX9_openOf 84 = .ok (.goto (-35), 3) := by decide +kernel
theorem dX9_openOf_87 : decode cX9_openOf 87 = .ok (.iload_n 2, 1) := by decide +kernel
theorem dX9_openOf_88 : decode cX9_openOf 88 = .ok (.ireturn, 1) := by decide +kernel
theorem dX9_openMinutes_0 : decode cX9_openMinutes 0 = .ok (.aload_n 0, 1) := by decide +kernel
theorem dX9_openMinutes_1 : decode cX9_openMinutes 1 = .ok (.aload_n 0, 1) := by decide +kernel
theorem dX9_openMinutes_2 : decode cX9_openMinutes 2 = .ok (.iload_n 1, 1) := by decide +kernel
theorem dX9_openMinutes_3 : decode cX9_openMinutes 3 = .ok (.invokevirtual 120, 3) := by decide +kernel
theorem dX9_openMinutes_6 : decode cX9_openMinutes 6 = .ok (.ifCond .eq 7, 3) := by decide +kernel
theorem dX9_openMinutes_9 : decode cX9_openMinutes 9 = .ok (.iconst 1, 1) := by decide +kernel
theorem dX9_openMinutes_10 : decode cX9_openMinutes 10 = .ok (.goto 4, 3) := by decide +kernel
theorem dX9_openMinutes_13 : decode cX9_openMinutes 13 = .ok (.iconst 0, 1) := by decide +kernel
theorem dX9_openMinutes_14 : decode cX9_openMinutes 14 = .ok (.invokevirtual 107, 3) := by decide +kernel
theorem dX9_openMinutes_17 : decode cX9_openMinutes 17 = .ok (.ifCond .eq 7, 3) := by decide +kernel
theorem dX9_openMinutes_20 : decode cX9_openMinutes 20 = .ok (.iconst 0, 1) := by decide +kernel
theorem dX9_openMinutes_21 : decode cX9_openMinutes 21 = .ok (.goto 8, 3) := by decide +kernel
theorem dX9_openMinutes_24 : decode cX9_openMinutes 24 = .ok (.aload_n 0, 1) := by decide +kernel
theorem dX9_openMinutes_25 : decode cX9_openMinutes 25 = .ok (.iload_n 1, 1) := by decide +kernel
theorem dX9_openMinutes_26 : decode cX9_openMinutes 26 = .ok (.invokevirtual 189, 3) := by decide +kernel
theorem dX9_openMinutes_29 : decode cX9_openMinutes 29 = .ok (.ireturn, 1) := by decide +kernel
theorem dX9_openMinutesByLines_0 : decode cX9_openMinutesByLines 0 = .ok (.aload_n 0, 1) := by decide +kernel
theorem dX9_openMinutesByLines_1 : decode cX9_openMinutesByLines 1 = .ok (.aload_n 0, 1) := by decide +kernel
theorem dX9_openMinutesByLines_2 : decode cX9_openMinutesByLines 2 = .ok (.iload_n 1, 1) := by decide +kernel
theorem dX9_openMinutesByLines_3 : decode cX9_openMinutesByLines 3 = .ok (.invokevirtual 120, 3) := by decide +kernel
theorem dX9_openMinutesByLines_6 : decode cX9_openMinutesByLines 6 = .ok (.ifCond .eq 7, 3) := by decide +kernel
theorem dX9_openMinutesByLines_9 : decode cX9_openMinutesByLines 9 = .ok (.iconst 1, 1) := by decide +kernel
theorem dX9_openMinutesByLines_10 : decode cX9_openMinutesByLines 10 = .ok (.goto 4, 3) := by decide +kernel
theorem dX9_openMinutesByLines_13 : decode cX9_openMinutesByLines 13 = .ok (.iconst 0, 1) := by decide +kernel
theorem dX9_openMinutesByLines_14 : decode cX9_openMinutesByLines 14 = .ok (.invokevirtual 107, 3) := by decide +kernel
theorem dX9_openMinutesByLines_17 : decode cX9_openMinutesByLines 17 = .ok (.ifCond .eq 7, 3) := by decide +kernel
theorem dX9_openMinutesByLines_20 : decode cX9_openMinutesByLines 20 = .ok (.iconst 0, 1) := by decide +kernel
theorem dX9_openMinutesByLines_21 : decode cX9_openMinutesByLines 21 = .ok (.goto 8, 3) := by decide +kernel
theorem dX9_openMinutesByLines_24 : decode cX9_openMinutesByLines 24 = .ok (.aload_n 0, 1) := by decide +kernel
theorem dX9_openMinutesByLines_25 : decode cX9_openMinutesByLines 25 = .ok (.iload_n 1, 1) := by decide +kernel
theorem dX9_openMinutesByLines_26 : decode cX9_openMinutesByLines 26 = .ok (.invokevirtual 189, 3) := by decide +kernel
theorem dX9_openMinutesByLines_29 : decode cX9_openMinutesByLines 29 = .ok (.ireturn, 1) := by decide +kernel
theorem dX9_adds_0 : decode cX9_adds 0 = .ok (.bipush 40, 2) := by decide +kernel
theorem dX9_adds_2 : decode cX9_adds 2 = .ok (.aload_n 0, 1) := by decide +kernel
theorem dX9_adds_3 : decode cX9_adds 3 = .ok (.getfield 192, 3) := by decide +kernel
theorem dX9_adds_6 : decode cX9_adds 6 = .ok (.imul, 1) := by decide +kernel
theorem dX9_adds_7 : decode cX9_adds 7 = .ok (.aload_n 0, 1) := by decide +kernel
theorem dX9_adds_8 : decode cX9_adds 8 = .ok (.getfield 51, 3) := by decide +kernel
theorem dX9_adds_11 : decode cX9_adds 11 = .ok (.aload_n 0, 1) := by decide +kernel
theorem dX9_adds_12 : decode cX9_adds 12 = .ok (.getfield 192, 3) := by decide +kernel
theorem dX9_adds_15 : decode cX9_adds 15 = .ok (.iaload, 1) := by decide +kernel
theorem dX9_adds_16 : decode cX9_adds 16 = .ok (.iadd, 1) := by decide +kernel
theorem dX9_adds_17 : decode cX9_adds 17 = .ok (.istore 4, 2) := by decide +kernel
theorem dX9_adds_19 : decode cX9_adds 19 = .ok (.aload_n 0, 1) := by decide +kernel
theorem dX9_adds_20 : decode cX9_adds 20 = .ok (.getfield 57, 3) := by decide +kernel
theorem dX9_adds_23 : decode cX9_adds 23 = .ok (.iload 4, 2) := by decide +kernel
theorem dX9_adds_25 : decode cX9_adds 25 = .ok (.iload_n 1, 1) := by decide +kernel
theorem dX9_adds_26 : decode cX9_adds 26 = .ok (.castore, 1) := by decide +kernel
theorem dX9_adds_27 : decode cX9_adds 27 = .ok (.aload_n 0, 1) := by decide +kernel
theorem dX9_adds_28 : decode cX9_adds 28 = .ok (.getfield 63, 3) := by decide +kernel
theorem dX9_adds_31 : decode cX9_adds 31 = .ok (.iload 4, 2) := by decide +kernel
theorem dX9_adds_33 : decode cX9_adds 33 = .ok (.iload_n 2, 1) := by decide +kernel
theorem dX9_adds_34 : decode cX9_adds 34 = .ok (.iastore, 1) := by decide +kernel
theorem dX9_adds_35 : decode cX9_adds 35 = .ok (.aload_n 0, 1) := by decide +kernel
theorem dX9_adds_36 : decode cX9_adds 36 = .ok (.getfield 60, 3) := by decide +kernel
theorem dX9_adds_39 : decode cX9_adds 39 = .ok (.iload 4, 2) := by decide +kernel
theorem dX9_adds_41 : decode cX9_adds 41 = .ok (.iload_n 3, 1) := by decide +kernel
theorem dX9_adds_42 : decode cX9_adds 42 = .ok (.iastore, 1) := by decide +kernel
theorem dX9_adds_43 : decode cX9_adds 43 = .ok (.aload_n 0, 1) := by decide +kernel
theorem dX9_adds_44 : decode cX9_adds 44 = .ok (.getfield 66, 3) := by decide +kernel
theorem dX9_adds_47 : decode cX9_adds 47 = .ok (.iload 4, 2) := by decide +kernel
theorem dX9_adds_49 : decode cX9_adds 49 = .ok (.iload_n 3, 1) := by decide +kernel
theorem dX9_adds_50 : decode cX9_adds 50 = .ok (.i2f, 1) := by decide +kernel
theorem dX9_adds_51 : decode cX9_adds 51 = .ok (.aload_n 0, 1) := by decide +kernel
theorem dX9_adds_52 : decode cX9_adds 52 = .ok (.getfield 24, 3) := by decide +kernel
theorem dX9_adds_55 : decode cX9_adds 55 = .ok (.aload_n 0, 1) := by decide +kernel
theorem dX9_adds_56 : decode cX9_adds 56 = .ok (.getfield 54, 3) := by decide +kernel
theorem dX9_adds_59 : decode cX9_adds 59 = .ok (.aload_n 0, 1) := by decide +kernel
theorem dX9_adds_60 : decode cX9_adds 60 = .ok (.getfield 192, 3) := by decide +kernel
theorem dX9_adds_63 : decode cX9_adds 63 = .ok (.iaload, 1) := by decide +kernel
theorem dX9_adds_64 : decode cX9_adds 64 = .ok (.iaload, 1) := by decide +kernel
theorem dX9_adds_65 : decode cX9_adds 65 = .ok (.i2f, 1) := by decide +kernel
theorem dX9_adds_66 : decode cX9_adds 66 = .ok (.fmul, 1) := by decide +kernel
theorem dX9_adds_67 : decode cX9_adds 67 = .ok (.ldc 195, 2) := by decide +kernel
theorem dX9_adds_69 : decode cX9_adds 69 = .ok (.fdiv, 1) := by decide +kernel
theorem dX9_adds_70 : decode cX9_adds 70 = .ok (.fastore, 1) := by decide +kernel
theorem dX9_adds_71 : decode cX9_adds 71 = .ok (.aload_n 0, 1) := by decide +kernel
theorem dX9_adds_72 : decode cX9_adds 72 = .ok (.getfield 70, 3) := by decide +kernel
theorem dX9_adds_75 : decode cX9_adds 75 = .ok (.aload_n 0, 1) := by decide +kernel
theorem dX9_adds_76 : decode cX9_adds 76 = .ok (.getfield 192, 3) := by decide +kernel
theorem dX9_adds_79 : decode cX9_adds 79 = .ok (.dup2, 1) := by decide +kernel
theorem dX9_adds_80 : decode cX9_adds 80 = .ok (.faload, 1) := by decide +kernel
theorem dX9_adds_81 : decode cX9_adds 81 = .ok (.aload_n 0, 1) := by decide +kernel
theorem dX9_adds_82 : decode cX9_adds 82 = .ok (.getfield 66, 3) := by decide +kernel
theorem dX9_adds_85 : decode cX9_adds 85 = .ok (.iload 4, 2) := by decide +kernel
theorem dX9_adds_87 : decode cX9_adds 87 = .ok (.faload, 1) := by decide +kernel
theorem dX9_adds_88 : decode cX9_adds 88 = .ok (.fadd, 1) := by decide +kernel
theorem dX9_adds_89 : decode cX9_adds 89 = .ok (.fastore, 1) := by decide +kernel
theorem dX9_adds_90 : decode cX9_adds 90 = .ok (.aload_n 0, 1) := by decide +kernel
theorem dX9_adds_91 : decode cX9_adds 91 = .ok (.getfield 51, 3) := by decide +kernel
theorem dX9_adds_94 : decode cX9_adds 94 = .ok (.aload_n 0, 1) := by decide +kernel
theorem dX9_adds_95 : decode cX9_adds 95 = .ok (.getfield 192, 3) := by decide +kernel
theorem dX9_adds_98 : decode cX9_adds 98 = .ok (.dup2, 1) := by decide +kernel
theorem dX9_adds_99 : decode cX9_adds 99 = .ok (.iaload, 1) := by decide +kernel
theorem dX9_adds_100 : decode cX9_adds 100 = .ok (.iconst 1, 1) := by decide +kernel
theorem dX9_adds_101 : decode cX9_adds 101 = .ok (.iadd, 1) := by decide +kernel
theorem dX9_adds_102 : decode cX9_adds 102 = .ok (.iastore, 1) := by decide +kernel
theorem dX9_adds_103 : decode cX9_adds 103 = .ok (.return_, 1) := by decide +kernel
theorem dX9_hasCorrection_0 : decode cX9_hasCorrection 0 = .ok (.iconst 0, 1) := by decide +kernel
theorem dX9_hasCorrection_1 : decode cX9_hasCorrection 1 = .ok (.istore_n 2, 1) := by decide +kernel
theorem dX9_hasCorrection_2 : decode cX9_hasCorrection 2 = .ok (.iload_n 2, 1) := by decide +kernel
theorem dX9_hasCorrection_3 : decode cX9_hasCorrection 3 = .ok (.aload_n 0, 1) := by decide +kernel
theorem dX9_hasCorrection_4 : decode cX9_hasCorrection 4 = .ok (.getfield 196, 3) := by decide +kernel
theorem dX9_hasCorrection_7 : decode cX9_hasCorrection 7 = .ok (.if_icmp .ge 35, 3) := by decide +kernel
theorem dX9_hasCorrection_10 : decode cX9_hasCorrection 10 = .ok (.aload_n 0, 1) := by decide +kernel
theorem dX9_hasCorrection_11 : decode cX9_hasCorrection 11 = .ok (.getfield 79, 3) := by decide +kernel
theorem dX9_hasCorrection_14 : decode cX9_hasCorrection 14 = .ok (.iload_n 2, 1) := by decide +kernel
theorem dX9_hasCorrection_15 : decode cX9_hasCorrection 15 = .ok (.baload, 1) := by decide +kernel
theorem dX9_hasCorrection_16 : decode cX9_hasCorrection 16 = .ok (.ifCond .ne 20, 3) := by decide +kernel
theorem dX9_hasCorrection_19 : decode cX9_hasCorrection 19 = .ok (.aload_n 0, 1) := by decide +kernel
theorem dX9_hasCorrection_20 : decode cX9_hasCorrection 20 = .ok (.getfield 30, 3) := by decide +kernel
theorem dX9_hasCorrection_23 : decode cX9_hasCorrection 23 = .ok (.aload_n 0, 1) := by decide +kernel
theorem dX9_hasCorrection_24 : decode cX9_hasCorrection 24 = .ok (.getfield 73, 3) := by decide +kernel
theorem dX9_hasCorrection_27 : decode cX9_hasCorrection 27 = .ok (.iload_n 2, 1) := by decide +kernel
theorem dX9_hasCorrection_28 : decode cX9_hasCorrection 28 = .ok (.iaload, 1) := by decide +kernel
theorem dX9_hasCorrection_29 : decode cX9_hasCorrection 29 = .ok (.iaload, 1) := by decide +kernel
theorem dX9_hasCorrection_30 : decode cX9_hasCorrection 30 = .ok (.iload_n 1, 1) := by decide +kernel
theorem dX9_hasCorrection_31 : decode cX9_hasCorrection 31 = .ok (.if_icmp .ne 5, 3) := by decide +kernel
theorem dX9_hasCorrection_34 : decode cX9_hasCorrection 34 = .ok (.iconst 1, 1) := by decide +kernel
theorem dX9_hasCorrection_35 : decode cX9_hasCorrection 35 = .ok (.ireturn, 1) := by decide +kernel
theorem dX9_hasCorrection_36 : decode cX9_hasCorrection 36 = .ok (.iinc 2 1, 3) := by decide +kernel
theorem dX9_hasCorrection_39 : decode cX9_hasCorrection 39 = .ok (.goto (-37), 3) := by decide +kernel
theorem dX9_hasCorrection_42 : decode cX9_hasCorrection 42 = .ok (.iconst 0, 1) := by decide +kernel
theorem dX9_hasCorrection_43 : decode cX9_hasCorrection 43 = .ok (.ireturn, 1) := by decide +kernel
theorem dX9_invoice_0 : decode cX9_invoice 0 = .ok (.aload_n 0, 1) := by decide +kernel
theorem dX9_invoice_1 : decode cX9_invoice 1 = .ok (.aload_n 0, 1) := by decide +kernel
theorem dX9_invoice_2 : decode cX9_invoice 2 = .ok (.iload_n 1, 1) := by decide +kernel
theorem dX9_invoice_3 : decode cX9_invoice 3 = .ok (.invokevirtual 120, 3) := by decide +kernel
theorem dX9_invoice_6 : decode cX9_invoice 6 = .ok (.ifCond .eq 7, 3) := by decide +kernel
theorem dX9_invoice_9 : decode cX9_invoice 9 = .ok (.iconst 1, 1) := by decide +kernel
theorem dX9_invoice_10 : decode cX9_invoice 10 = .ok (.goto 35, 3) := by decide +kernel
theorem dX9_invoice_13 : decode cX9_invoice 13 = .ok (.aload_n 0, 1) := by decide +kernel
theorem dX9_invoice_14 : decode cX9_invoice 14 = .ok (.getfield 192, 3) := by decide +kernel
theorem dX9_invoice_17 : decode cX9_invoice 17 = .ok (.bipush 8, 2) := by decide +kernel
theorem dX9_invoice_19 : decode cX9_invoice 19 = .ok (.if_icmp .eq 21, 3) := by decide +kernel
theorem dX9_invoice_22 : decode cX9_invoice 22 = .ok (.aload_n 0, 1) := by decide +kernel
theorem dX9_invoice_23 : decode cX9_invoice 23 = .ok (.iload_n 1, 1) := by decide +kernel
theorem dX9_invoice_24 : decode cX9_invoice 24 = .ok (.iconst (-1), 1) := by decide +kernel
theorem dX9_invoice_25 : decode cX9_invoice 25 = .ok (.iconst 0, 1) := by decide +kernel
theorem dX9_invoice_26 : decode cX9_invoice 26 = .ok (.invokevirtual 199, 3) := by decide +kernel
theorem dX9_invoice_29 : decode cX9_invoice 29 = .ok (.ifCond .ge 15, 3) := by decide +kernel
theorem dX9_invoice_32 : decode cX9_invoice 32 = .ok (.aload_n 0, 1) := by decide +kernel
theorem dX9_invoice_33 : decode cX9_invoice 33 = .ok (.iload_n 1, 1) := by decide +kernel
theorem dX9_invoice_34 : decode cX9_invoice 34 = .ok (.invokevirtual 202, 3) := by decide +kernel
theorem dX9_invoice_37 : decode cX9_invoice 37 = .ok (.ifCond .ne 7, 3) := by decide +kernel
theorem dX9_invoice_40 : decode cX9_invoice 40 = .ok (.iconst 2, 1) := by decide +kernel
theorem dX9_invoice_41 : decode cX9_invoice 41 = .ok (.goto 4, 3) := by decide +kernel
theorem dX9_invoice_44 : decode cX9_invoice 44 = .ok (.iconst 0, 1) := by decide +kernel
theorem dX9_invoice_45 : decode cX9_invoice 45 = .ok (.invokevirtual 107, 3) := by decide +kernel
theorem dX9_invoice_48 : decode cX9_invoice 48 = .ok (.ifCond .eq 5, 3) := by decide +kernel
theorem dX9_invoice_51 : decode cX9_invoice 51 = .ok (.iconst 0, 1) := by decide +kernel
theorem dX9_invoice_52 : decode cX9_invoice 52 = .ok (.ireturn, 1) := by decide +kernel
theorem dX9_invoice_53 : decode cX9_invoice 53 = .ok (.aload_n 0, 1) := by decide +kernel
theorem dX9_invoice_54 : decode cX9_invoice 54 = .ok (.invokevirtual 148, 3) := by decide +kernel
theorem dX9_invoice_57 : decode cX9_invoice 57 = .ok (.aload_n 0, 1) := by decide +kernel
theorem dX9_invoice_58 : decode cX9_invoice 58 = .ok (.getfield 54, 3) := by decide +kernel
theorem dX9_invoice_61 : decode cX9_invoice 61 = .ok (.aload_n 0, 1) := by decide +kernel
theorem dX9_invoice_62 : decode cX9_invoice 62 = .ok (.getfield 192, 3) := by decide +kernel
theorem dX9_invoice_65 : decode cX9_invoice 65 = .ok (.iload_n 1, 1) := by decide +kernel
theorem dX9_invoice_66 : decode cX9_invoice 66 = .ok (.iastore, 1) := by decide +kernel
theorem dX9_invoice_67 : decode cX9_invoice 67 = .ok (.aload_n 0, 1) := by decide +kernel
theorem dX9_invoice_68 : decode cX9_invoice 68 = .ok (.getfield 21, 3) := by decide +kernel
theorem dX9_invoice_71 : decode cX9_invoice 71 = .ok (.iload_n 1, 1) := by decide +kernel
theorem dX9_invoice_72 : decode cX9_invoice 72 = .ok (.caload, 1) := by decide +kernel
theorem dX9_invoice_73 : decode cX9_invoice 73 = .ok (.bipush 100, 2) := by decide +kernel
theorem dX9_invoice_75 : decode cX9_invoice 75 = .ok (.if_icmp .ne 48, 3) := by decide +kernel
theorem dX9_invoice_78 : decode cX9_invoice 78 = .ok (.iconst 0, 1) := by decide +kernel
theorem dX9_invoice_79 : decode cX9_invoice 79 = .ok (.istore_n 2, 1) := by decide +kernel
theorem dX9_invoice_80 : decode cX9_invoice 80 = .ok (.iload_n 2, 1) := by decide +kernel
theorem dX9_invoice_81 : decode cX9_invoice 81 = .ok (.iconst 5, 1) := by decide +kernel
theorem dX9_invoice_82 : decode cX9_invoice 82 = .ok (.if_icmp .ge 38, 3) := by decide +kernel
theorem dX9_invoice_85 : decode cX9_invoice 85 = .ok (.aload_n 0, 1) := by decide +kernel
theorem dX9_invoice_86 : decode cX9_invoice 86 = .ok (.iload_n 1, 1) := by decide +kernel
theorem dX9_invoice_87 : decode cX9_invoice 87 = .ok (.iload_n 2, 1) := by decide +kernel
theorem dX9_invoice_88 : decode cX9_invoice 88 = .ok (.iconst 0, 1) := by decide +kernel
theorem dX9_invoice_89 : decode cX9_invoice 89 = .ok (.invokevirtual 183, 3) := by decide +kernel
theorem dX9_invoice_92 : decode cX9_invoice 92 = .ok (.ifCond .le 22, 3) := by decide +kernel
theorem dX9_invoice_95 : decode cX9_invoice 95 = .ok (.aload_n 0, 1) := by decide +kernel
theorem dX9_invoice_96 : decode cX9_invoice 96 = .ok (.bipush 100, 2) := by decide +kernel
theorem dX9_invoice_98 : decode cX9_invoice 98 = .ok (.iload_n 2, 1) := by decide +kernel
theorem dX9_invoice_99 : decode cX9_invoice 99 = .ok (.aload_n 0, 1) := by decide +kernel
theorem dX9_invoice_100 : decode cX9_invoice 100 = .ok (.iload_n 1, 1) := by decide +kernel
theorem dX9_invoice_101 : decode cX9_invoice 101 = .ok (.aload_n 0, 1) := by decide +kernel
theorem dX9_invoice_102 : decode cX9_invoice 102 = .ok (.iload_n 1, 1) := by decide +kernel
theorem dX9_invoice_103 : decode cX9_invoice 103 = .ok (.iload_n 2, 1) := by decide +kernel
theorem dX9_invoice_104 : decode cX9_invoice 104 = .ok (.iconst 0, 1) := by decide +kernel
theorem dX9_invoice_105 : decode cX9_invoice 105 = .ok (.invokevirtual 183, 3) := by decide +kernel
theorem dX9_invoice_108 : decode cX9_invoice 108 = .ok (.invokevirtual 172, 3) := by decide +kernel
theorem dX9_invoice_111 : decode cX9_invoice 111 = .ok (.invokevirtual 205, 3) := by decide +kernel
theorem dX9_invoice_114 : decode cX9_invoice 114 = .ok (.iinc 2 1, 3) := by decide +kernel
theorem dX9_invoice_117 : decode cX9_invoice 117 = .ok (.goto (-37), 3) := by decide +kernel
theorem dX9_invoice_120 : decode cX9_invoice 120 = .ok (.goto 40, 3) := by decide +kernel
theorem dX9_invoice_123 : decode cX9_invoice 123 = .ok (.aload_n 0, 1) := by decide +kernel
theorem dX9_invoice_124 : decode cX9_invoice 124 = .ok (.iload_n 1, 1) := by decide +kernel
theorem dX9_invoice_125 : decode cX9_invoice 125 = .ok (.iconst (-1), 1) := by decide +kernel
theorem dX9_invoice_126 : decode cX9_invoice 126 = .ok (.iconst 0, 1) := by decide +kernel
theorem dX9_invoice_127 : decode cX9_invoice 127 = .ok (.invokevirtual 199, 3) := by decide +kernel
theorem dX9_invoice_130 : decode cX9_invoice 130 = .ok (.istore_n 2, 1) := by decide +kernel
theorem dX9_invoice_131 : decode cX9_invoice 131 = .ok (.iload_n 2, 1) := by decide +kernel
theorem dX9_invoice_132 : decode cX9_invoice 132 = .ok (.ifCond .lt 28, 3) := by decide +kernel
theorem dX9_invoice_135 : decode cX9_invoice 135 = .ok (.aload_n 0, 1) := by decide +kernel
theorem dX9_invoice_136 : decode cX9_invoice 136 = .ok (.bipush 101, 2) := by decide +kernel
theorem dX9_invoice_138 : decode cX9_invoice 138 = .ok (.iload_n 2, 1) := by decide +kernel
theorem dX9_invoice_139 : decode cX9_invoice 139 = .ok (.aload_n 0, 1) := by decide +kernel
theorem dX9_invoice_140 : decode cX9_invoice 140 = .ok (.iload_n 1, 1) := by decide +kernel
theorem dX9_invoice_141 : decode cX9_invoice 141 = .ok (.iload_n 2, 1) := by decide +kernel
theorem dX9_invoice_142 : decode cX9_invoice 142 = .ok (.iconst 0, 1) := by decide +kernel
theorem dX9_invoice_143 : decode cX9_invoice 143 = .ok (.invokevirtual 180, 3) := by decide +kernel
theorem dX9_invoice_146 : decode cX9_invoice 146 = .ok (.invokevirtual 205, 3) := by decide +kernel
theorem dX9_invoice_149 : decode cX9_invoice 149 = .ok (.aload_n 0, 1) := by decide +kernel
theorem dX9_invoice_150 : decode cX9_invoice 150 = .ok (.iload_n 1, 1) := by decide +kernel
theorem dX9_invoice_151 : decode cX9_invoice 151 = .ok (.iload_n 2, 1) := by decide +kernel
theorem dX9_invoice_152 : decode cX9_invoice 152 = .ok (.iconst 0, 1) := by decide +kernel
theorem dX9_invoice_153 : decode cX9_invoice 153 = .ok (.invokevirtual 199, 3) := by decide +kernel
theorem dX9_invoice_156 : decode cX9_invoice 156 = .ok (.istore_n 2, 1) := by decide +kernel
theorem dX9_invoice_157 : decode cX9_invoice 157 = .ok (.goto (-26), 3) := by decide +kernel
theorem dX9_invoice_160 : decode cX9_invoice 160 = .ok (.iconst 0, 1) := by decide +kernel
theorem dX9_invoice_161 : decode cX9_invoice 161 = .ok (.istore_n 2, 1) := by decide +kernel
theorem dX9_invoice_162 : decode cX9_invoice 162 = .ok (.iload_n 2, 1) := by decide +kernel
theorem dX9_invoice_163 : decode cX9_invoice 163 = .ok (.aload_n 0, 1) := by decide +kernel
theorem dX9_invoice_164 : decode cX9_invoice 164 = .ok (.getfield 196, 3) := by decide +kernel
theorem dX9_invoice_167 : decode cX9_invoice 167 = .ok (.if_icmp .ge 61, 3) := by decide +kernel
theorem dX9_invoice_170 : decode cX9_invoice 170 = .ok (.aload_n 0, 1) := by decide +kernel
theorem dX9_invoice_171 : decode cX9_invoice 171 = .ok (.getfield 79, 3) := by decide +kernel
theorem dX9_invoice_174 : decode cX9_invoice 174 = .ok (.iload_n 2, 1) := by decide +kernel
theorem dX9_invoice_175 : decode cX9_invoice 175 = .ok (.baload, 1) := by decide +kernel
theorem dX9_invoice_176 : decode cX9_invoice 176 = .ok (.ifCond .ne 46, 3) := by decide +kernel
theorem dX9_invoice_179 : decode cX9_invoice 179 = .ok (.aload_n 0, 1) := by decide +kernel
theorem dX9_invoice_180 : decode cX9_invoice 180 = .ok (.getfield 30, 3) := by decide +kernel
theorem dX9_invoice_183 : decode cX9_invoice 183 = .ok (.aload_n 0, 1) := by decide +kernel
theorem dX9_invoice_184 : decode cX9_invoice 184 = .ok (.getfield 73, 3) := by decide +kernel
theorem dX9_invoice_187 : decode cX9_invoice 187 = .ok (.iload_n 2, 1) := by decide +kernel
theorem dX9_invoice_188 : decode cX9_invoice 188 = .ok (.iaload, 1) := by decide +kernel
theorem dX9_invoice_189 : decode cX9_invoice 189 = .ok (.iaload, 1) := by decide +kernel
theorem dX9_invoice_190 : decode cX9_invoice 190 = .ok (.iload_n 1, 1) := by decide +kernel
theorem dX9_invoice_191 : decode cX9_invoice 191 = .ok (.if_icmp .eq 6, 3) := by decide +kernel
theorem dX9_invoice_194 : decode cX9_invoice 194 = .ok (.goto 28, 3) := by decide +kernel
theorem dX9_invoice_197 : decode cX9_invoice 197 = .ok (.aload_n 0, 1) := by decide +kernel
theorem dX9_invoice_198 : decode cX9_invoice 198 = .ok (.getfield 79, 3) := by decide +kernel
theorem dX9_invoice_201 : decode cX9_invoice 201 = .ok (.iload_n 2, 1) := by decide +kernel
theorem dX9_invoice_202 : decode cX9_invoice 202 = .ok (.iconst 1, 1) := by decide +kernel
theorem dX9_invoice_203 : decode cX9_invoice 203 = .ok (.bastore, 1) := by decide +kernel
theorem dX9_invoice_204 : decode cX9_invoice 204 = .ok (.aload_n 0, 1) := by decide +kernel
theorem dX9_invoice_205 : decode cX9_invoice 205 = .ok (.bipush 99, 2) := by decide +kernel
theorem dX9_invoice_207 : decode cX9_invoice 207 = .ok (.aload_n 0, 1) := by decide +kernel
theorem dX9_invoice_208 : decode cX9_invoice 208 = .ok (.getfield 73, 3) := by decide +kernel
theorem dX9_invoice_211 : decode cX9_invoice 211 = .ok (.iload_n 2, 1) := by decide +kernel
theorem dX9_invoice_212 : decode cX9_invoice 212 = .ok (.iaload, 1) := by decide +kernel
theorem dX9_invoice_213 : decode cX9_invoice 213 = .ok (.aload_n 0, 1) := by decide +kernel
theorem dX9_invoice_214 : decode cX9_invoice 214 = .ok (.getfield 76, 3) := by decide +kernel
theorem dX9_invoice_217 : decode cX9_invoice 217 = .ok (.iload_n 2, 1) := by decide +kernel
theorem dX9_invoice_218 : decode cX9_invoice 218 = .ok (.iaload, 1) := by decide +kernel
theorem dX9_invoice_219 : decode cX9_invoice 219 = .ok (.invokevirtual 205, 3) := by decide +kernel
theorem dX9_invoice_222 : decode cX9_invoice 222 = .ok (.iinc 2 1, 3) := by decide +kernel
theorem dX9_invoice_225 : decode cX9_invoice 225 = .ok (.goto (-63), 3) := by decide +kernel
theorem dX9_invoice_228 : decode cX9_invoice 228 = .ok (.iconst 0, 1) := by decide +kernel
theorem dX9_invoice_229 : decode cX9_invoice 229 = .ok (.istore_n 2, 1) := by decide +kernel
theorem dX9_invoice_230 : decode cX9_invoice 230 = .ok (.iload_n 2, 1) := by decide +kernel
theorem dX9_invoice_231 : decode cX9_invoice 231 = .ok (.aload_n 0, 1) := by decide +kernel
theorem dX9_invoice_232 : decode cX9_invoice 232 = .ok (.getfield 97, 3) := by decide +kernel
theorem dX9_invoice_235 : decode cX9_invoice 235 = .ok (.if_icmp .ge 42, 3) := by decide +kernel
theorem dX9_invoice_238 : decode cX9_invoice 238 = .ok (.aload_n 0, 1) := by decide +kernel
theorem dX9_invoice_239 : decode cX9_invoice 239 = .ok (.iload_n 2, 1) := by decide +kernel
theorem dX9_invoice_240 : decode cX9_invoice 240 = .ok (.iload_n 1, 1) := by decide +kernel
theorem dX9_invoice_241 : decode cX9_invoice 241 = .ok (.iconst 0, 1) := by decide +kernel
theorem dX9_invoice_242 : decode cX9_invoice 242 = .ok (.invokevirtual 165, 3) := by decide +kernel
theorem dX9_invoice_245 : decode cX9_invoice 245 = .ok (.ifCond .ne 6, 3) := by decide +kernel
theorem dX9_invoice_248 : decode cX9_invoice 248 = .ok (.goto 23, 3) := by decide +kernel
theorem dX9_invoice_251 : decode cX9_invoice 251 = .ok (.aload_n 0, 1) := by decide +kernel
theorem dX9_invoice_252 : decode cX9_invoice 252 = .ok (.getfield 42, 3) := by decide +kernel
theorem dX9_invoice_255 : decode cX9_invoice 255 = .ok (.iload_n 2, 1) := by decide +kernel
theorem dX9_invoice_256 : decode cX9_invoice 256 = .ok (.aload_n 0, 1) := by decide +kernel
theorem dX9_invoice_257 : decode cX9_invoice 257 = .ok (.getfield 45, 3) := by decide +kernel
theorem dX9_invoice_260 : decode cX9_invoice 260 = .ok (.iload_n 2, 1) := by decide +kernel
theorem dX9_invoice_261 : decode cX9_invoice 261 = .ok (.iaload, 1) := by decide +kernel
theorem dX9_invoice_262 : decode cX9_invoice 262 = .ok (.iastore, 1) := by decide +kernel
theorem dX9_invoice_263 : decode cX9_invoice 263 = .ok (.aload_n 0, 1) := by decide +kernel
theorem dX9_invoice_264 : decode cX9_invoice 264 = .ok (.getfield 39, 3) := by decide +kernel
theorem dX9_invoice_267 : decode cX9_invoice 267 = .ok (.iload_n 2, 1) := by decide +kernel
theorem dX9_invoice_268 : decode cX9_invoice 268 = .ok (.bipush 102, 2) := by decide +kernel
theorem dX9_invoice_270 : decode cX9_invoice 270 = .ok (.castore, 1) := by decide +kernel
theorem dX9_invoice_271 : decode cX9_invoice 271 = .ok (.iinc 2 1, 3) := by decide +kernel
theorem dX9_invoice_274 : decode cX9_invoice 274 = .ok (.goto (-44), 3) := by decide +kernel
theorem dX9_invoice_277 : decode cX9_invoice 277 = .ok (.aload_n 0, 1) := by decide +kernel
theorem dX9_invoice_278 : decode cX9_invoice 278 = .ok (.dup, 1) := by decide +kernel
theorem dX9_invoice_279 : decode cX9_invoice 279 = .ok (.getfield 192, 3) := by decide +kernel
theorem dX9_invoice_282 : decode cX9_invoice 282 = .ok (.iconst 1, 1) := by decide +kernel
theorem dX9_invoice_283 : decode cX9_invoice 283 = .ok (.iadd, 1) := by decide +kernel
theorem dX9_invoice_284 : decode cX9_invoice 284 = .ok (.putfield 192, 3) := by decide +kernel
theorem dX9_invoice_287 : decode cX9_invoice 287 = .ok (.aload_n 0, 1) := by decide +kernel
theorem dX9_invoice_288 : decode cX9_invoice 288 = .ok (.getfield 192, 3) := by decide +kernel
theorem dX9_invoice_291 : decode cX9_invoice 291 = .ok (.iconst 1, 1) := by decide +kernel
theorem dX9_invoice_292 : decode cX9_invoice 292 = .ok (.isub, 1) := by decide +kernel
theorem dX9_invoice_293 : decode cX9_invoice 293 = .ok (.ireturn, 1) := by decide +kernel
theorem dX9_invoices_0 : decode cX9_invoices 0 = .ok (.aload_n 0, 1) := by decide +kernel
theorem dX9_invoices_1 : decode cX9_invoices 1 = .ok (.aload_n 0, 1) := by decide +kernel
theorem dX9_invoices_2 : decode cX9_invoices 2 = .ok (.getfield 192, 3) := by decide +kernel
theorem dX9_invoices_5 : decode cX9_invoices 5 = .ok (.invokevirtual 103, 3) := by decide +kernel
theorem dX9_invoices_8 : decode cX9_invoices 8 = .ok (.ireturn, 1) := by decide +kernel
theorem dX9_isNoInvoice_0 : decode cX9_isNoInvoice 0 = .ok (.iload_n 1, 1) := by decide +kernel
theorem dX9_isNoInvoice_1 : decode cX9_isNoInvoice 1 = .ok (.iconst 0, 1) := by decide +kernel
theorem dX9_isNoInvoice_2 : decode cX9_isNoInvoice 2 = .ok (.aload_n 0, 1) := by decide +kernel
theorem dX9_isNoInvoice_3 : decode cX9_isNoInvoice 3 = .ok (.getfield 192, 3) := by decide +kernel
theorem dX9_isNoInvoice_6 : decode cX9_isNoInvoice 6 = .ok (.iconst 1, 1) := by decide +kernel
theorem dX9_isNoInvoice_7 : decode cX9_isNoInvoice 7 = .ok (.isub, 1) := by decide +kernel
theorem dX9_isNoInvoice_8 : decode cX9_isNoInvoice 8 = .ok (.invokestatic 93, 3) := by decide +kernel
theorem dX9_isNoInvoice_11 : decode cX9_isNoInvoice 11 = .ok (.ifCond .ne 7, 3) := by decide +kernel
theorem dX9_isNoInvoice_14 : decode cX9_isNoInvoice 14 = .ok (.iconst 1, 1) := by decide +kernel
theorem dX9_isNoInvoice_15 : decode cX9_isNoInvoice 15 = .ok (.goto 4, 3) := by decide +kernel
theorem dX9_isNoInvoice_18 : decode cX9_isNoInvoice 18 = .ok (.iconst 0, 1) := by decide +kernel
theorem dX9_isNoInvoice_19 : decode cX9_isNoInvoice 19 = .ok (.ireturn, 1) := by decide +kernel
theorem dX9_lines_0 : decode cX9_lines 0 = .ok (.aload_n 0, 1) := by decide +kernel
theorem dX9_lines_1 : decode cX9_lines 1 = .ok (.aload_n 0, 1) := by decide +kernel
theorem dX9_lines_2 : decode cX9_lines 2 = .ok (.iload_n 1, 1) := by decide +kernel
theorem dX9_lines_3 : decode cX9_lines 3 = .ok (.invokevirtual 209, 3) := by decide +kernel
theorem dX9_lines_6 : decode cX9_lines 6 = .ok (.ifCond .eq 7, 3) := by decide +kernel
theorem dX9_lines_9 : decode cX9_lines 9 = .ok (.iconst 1, 1) := by decide +kernel
theorem dX9_lines_10 : decode cX9_lines 10 = .ok (.goto 4, 3) := by decide +kernel
theorem dX9_lines_13 : decode cX9_lines 13 = .ok (.iconst 0, 1) := by decide +kernel
theorem dX9_lines_14 : decode cX9_lines 14 = .ok (.invokevirtual 107, 3) := by decide +kernel
theorem dX9_lines_17 : decode cX9_lines 17 = .ok (.ifCond .eq 7, 3) := by decide +kernel
theorem dX9_lines_20 : decode cX9_lines 20 = .ok (.iconst 0, 1) := by decide +kernel
theorem dX9_lines_21 : decode cX9_lines 21 = .ok (.goto 9, 3) := by decide +kernel
theorem dX9_lines_24 : decode cX9_lines 24 = .ok (.aload_n 0, 1) := by decide +kernel
theorem dX9_lines_25 : decode cX9_lines 25 = .ok (.getfield 51, 3) := by decide +kernel
theorem dX9_lines_28 : decode cX9_lines 28 = .ok (.iload_n 1, 1) := by decide +kernel
theorem dX9_lines_29 : decode cX9_lines 29 = .ok (.iaload, 1) := by decide +kernel
theorem dX9_lines_30 : decode cX9_lines 30 = .ok (.ireturn, 1) := by decide +kernel
theorem dX9_isNoLine_0 : decode cX9_isNoLine 0 = .ok (.aload_n 0, 1) := by decide +kernel
theorem dX9_isNoLine_1 : decode cX9_isNoLine 1 = .ok (.aload_n 0, 1) := by decide +kernel
theorem dX9_isNoLine_2 : decode cX9_isNoLine 2 = .ok (.iload_n 1, 1) := by decide +kernel
theorem dX9_isNoLine_3 : decode cX9_isNoLine 3 = .ok (.invokevirtual 209, 3) := by decide +kernel
theorem dX9_isNoLine_6 : decode cX9_isNoLine 6 = .ok (.ifCond .ne 19, 3) := by decide +kernel
theorem dX9_isNoLine_9 : decode cX9_isNoLine 9 = .ok (.iload_n 2, 1) := by decide +kernel
theorem dX9_isNoLine_10 : decode cX9_isNoLine 10 = .ok (.iconst 0, 1) := by decide +kernel
theorem dX9_isNoLine_11 : decode cX9_isNoLine 11 = .ok (.aload_n 0, 1) := by decide +kernel
theorem dX9_isNoLine_12 : decode cX9_isNoLine 12 = .ok (.getfield 51, 3) := by decide +kernel
theorem dX9_isNoLine_15 : decode cX9_isNoLine 15 = .ok (.iload_n 1, 1) := by decide +kernel
theorem dX9_isNoLine_16 : decode cX9_isNoLine 16 = .ok (.iaload, 1) := by decide +kernel
theorem dX9_isNoLine_17 : decode cX9_isNoLine 17 = .ok (.iconst 1, 1) := by decide +kernel
theorem dX9_isNoLine_18 : decode cX9_isNoLine 18 = .ok (.isub, 1) := by decide +kernel
theorem dX9_isNoLine_19 : decode cX9_isNoLine 19 = .ok (.invokestatic 93, 3) := by decide +kernel
theorem dX9_isNoLine_22 : decode cX9_isNoLine 22 = .ok (.ifCond .ne 7, 3) := by decide +kernel
theorem dX9_isNoLine_25 : decode cX9_isNoLine 25 = .ok (.iconst 1, 1) := by decide +kernel
theorem dX9_isNoLine_26 : decode cX9_isNoLine 26 = .ok (.goto 4, 3) := by decide +kernel
theorem dX9_isNoLine_29 : decode cX9_isNoLine 29 = .ok (.iconst 0, 1) := by decide +kernel
theorem dX9_isNoLine_30 : decode cX9_isNoLine 30 = .ok (.invokevirtual 107, 3) := by decide +kernel
theorem dX9_isNoLine_33 : decode cX9_isNoLine 33 = .ok (.ireturn, 1) := by decide +kernel
theorem dX9_lineKind_0 : decode cX9_lineKind 0 = .ok (.aload_n 0, 1) := by decide +kernel
theorem dX9_lineKind_1 : decode cX9_lineKind 1 = .ok (.iload_n 1, 1) := by decide +kernel
theorem dX9_lineKind_2 : decode cX9_lineKind 2 = .ok (.iload_n 2, 1) := by decide +kernel
theorem dX9_lineKind_3 : decode cX9_lineKind 3 = .ok (.invokevirtual 212, 3) := by decide +kernel
theorem dX9_lineKind_6 : decode cX9_lineKind 6 = .ok (.ifCond .eq 8, 3) := by decide +kernel
theorem dX9_lineKind_9 : decode cX9_lineKind 9 = .ok (.bipush 32, 2) := by decide +kernel
theorem dX9_lineKind_11 : decode cX9_lineKind 11 = .ok (.goto 14, 3) := by decide +kernel
theorem dX9_lineKind_14 : decode cX9_lineKind 14 = .ok (.aload_n 0, 1) := by decide +kernel
theorem dX9_lineKind_15 : decode cX9_lineKind 15 = .ok (.getfield 57, 3) := by decide +kernel
theorem dX9_lineKind_18 : decode cX9_lineKind 18 = .ok (.bipush 40, 2) := by decide +kernel
theorem dX9_lineKind_20 : decode cX9_lineKind 20 = .ok (.iload_n 1, 1) := by decide +kernel
theorem dX9_lineKind_21 : decode cX9_lineKind 21 = .ok (.imul, 1) := by decide +kernel
theorem dX9_lineKind_22 : decode cX9_lineKind 22 = .ok (.iload_n 2, 1) := by decide +kernel
theorem dX9_lineKind_23 : decode cX9_lineKind 23 = .ok (.iadd, 1) := by decide +kernel
theorem dX9_lineKind_24 : decode cX9_lineKind 24 = .ok (.caload, 1) := by decide +kernel
theorem dX9_lineKind_25 : decode cX9_lineKind 25 = .ok (.ireturn, 1) := by decide +kernel
theorem dX9_lineMinutes_0 : decode cX9_lineMinutes 0 = .ok (.aload_n 0, 1) := by decide +kernel
theorem dX9_lineMinutes_1 : decode cX9_lineMinutes 1 = .ok (.iload_n 1, 1) := by decide +kernel
theorem dX9_lineMinutes_2 : decode cX9_lineMinutes 2 = .ok (.iload_n 2, 1) := by decide +kernel
theorem dX9_lineMinutes_3 : decode cX9_lineMinutes 3 = .ok (.invokevirtual 212, 3) := by decide +kernel
theorem dX9_lineMinutes_6 : decode cX9_lineMinutes 6 = .ok (.ifCond .eq 7, 3) := by decide +kernel
theorem dX9_lineMinutes_9 : decode cX9_lineMinutes 9 = .ok (.iconst 0, 1) := by decide +kernel
theorem dX9_lineMinutes_10 : decode cX9_lineMinutes 10 = .ok (.goto 14, 3) := by decide +kernel
theorem dX9_lineMinutes_13 : decode cX9_lineMinutes 13 = .ok (.aload_n 0, 1) := by decide +kernel
theorem dX9_lineMinutes_14 : decode cX9_lineMinutes 14 = .ok (.getfield 60, 3) := by decide +kernel
theorem dX9_lineMinutes_17 : decode cX9_lineMinutes 17 = .ok (.bipush 40, 2) := by decide +kernel
theorem dX9_lineMinutes_19 : decode cX9_lineMinutes 19 = .ok (.iload_n 1, 1) := by decide +kernel
theorem dX9_lineMinutes_20 : decode cX9_lineMinutes 20 = .ok (.imul, 1) := by decide +kernel
theorem dX9_lineMinutes_21 : decode cX9_lineMinutes 21 = .ok (.iload_n 2, 1) := by decide +kernel
theorem dX9_lineMinutes_22 : decode cX9_lineMinutes 22 = .ok (.iadd, 1) := by decide +kernel
theorem dX9_lineMinutes_23 : decode cX9_lineMinutes 23 = .ok (.iaload, 1) := by decide +kernel
theorem dX9_lineMinutes_24 : decode cX9_lineMinutes 24 = .ok (.ireturn, 1) := by decide +kernel
theorem dX9_lineSubject_0 : decode cX9_lineSubject 0 = .ok (.aload_n 0, 1) := by decide +kernel
theorem dX9_lineSubject_1 : decode cX9_lineSubject 1 = .ok (.iload_n 1, 1) := by decide +kernel
theorem dX9_lineSubject_2 : decode cX9_lineSubject 2 = .ok (.iload_n 2, 1) := by decide +kernel
theorem dX9_lineSubject_3 : decode cX9_lineSubject 3 = .ok (.invokevirtual 212, 3) := by decide +kernel
theorem dX9_lineSubject_6 : decode cX9_lineSubject 6 = .ok (.ifCond .eq 7, 3) := by decide +kernel
theorem dX9_lineSubject_9 : decode cX9_lineSubject 9 = .ok (.iconst 0, 1) := by decide +kernel
theorem dX9_lineSubject_10 : decode cX9_lineSubject 10 = .ok (.goto 14, 3) := by decide +kernel
theorem dX9_lineSubject_13 : decode cX9_lineSubject 13 = .ok (.aload_n 0, 1) := by decide +kernel
theorem dX9_lineSubject_14 : decode cX9_lineSubject 14 = .ok (.getfield 63, 3) := by decide +kernel
theorem dX9_lineSubject_17 : decode cX9_lineSubject 17 = .ok (.bipush 40, 2) := by decide +kernel
theorem dX9_lineSubject_19 : decode cX9_lineSubject 19 = .ok (.iload_n 1, 1) := by decide +kernel
theorem dX9_lineSubject_20 : decode cX9_lineSubject 20 = .ok (.imul, 1) := by decide +kernel
theorem dX9_lineSubject_21 : decode cX9_lineSubject 21 = .ok (.iload_n 2, 1) := by decide +kernel
theorem dX9_lineSubject_22 : decode cX9_lineSubject 22 = .ok (.iadd, 1) := by decide +kernel
theorem dX9_lineSubject_23 : decode cX9_lineSubject 23 = .ok (.iaload, 1) := by decide +kernel
theorem dX9_lineSubject_24 : decode cX9_lineSubject 24 = .ok (.ireturn, 1) := by decide +kernel
theorem dX9_lineAmount_0 : decode cX9_lineAmount 0 = .ok (.aload_n 0, 1) := by decide +kernel
theorem dX9_lineAmount_1 : decode cX9_lineAmount 1 = .ok (.iload_n 1, 1) := by decide +kernel
theorem dX9_lineAmount_2 : decode cX9_lineAmount 2 = .ok (.iload_n 2, 1) := by decide +kernel
theorem dX9_lineAmount_3 : decode cX9_lineAmount 3 = .ok (.invokevirtual 212, 3) := by decide +kernel
theorem dX9_lineAmount_6 : decode cX9_lineAmount 6 = .ok (.ifCond .eq 7, 3) := by decide +kernel
theorem dX9_lineAmount_9 : decode cX9_lineAmount 9 = .ok (.fconst 0, 1) := by decide +kernel
theorem dX9_lineAmount_10 : decode cX9_lineAmount 10 = .ok (.goto 14, 3) := by decide +kernel
theorem dX9_lineAmount_13 : decode cX9_lineAmount 13 = .ok (.aload_n 0, 1) := by decide +kernel
theorem dX9_lineAmount_14 : decode cX9_lineAmount 14 = .ok (.getfield 66, 3) := by decide +kernel
theorem dX9_lineAmount_17 : decode cX9_lineAmount 17 = .ok (.bipush 40, 2) := by decide +kernel
theorem dX9_lineAmount_19 : decode cX9_lineAmount 19 = .ok (.iload_n 1, 1) := by decide +kernel
theorem dX9_lineAmount_20 : decode cX9_lineAmount 20 = .ok (.imul, 1) := by decide +kernel
theorem dX9_lineAmount_21 : decode cX9_lineAmount 21 = .ok (.iload_n 2, 1) := by decide +kernel
theorem dX9_lineAmount_22 : decode cX9_lineAmount 22 = .ok (.iadd, 1) := by decide +kernel
theorem dX9_lineAmount_23 : decode cX9_lineAmount 23 = .ok (.faload, 1) := by decide +kernel
theorem dX9_lineAmount_24 : decode cX9_lineAmount 24 = .ok (.freturn, 1) := by decide +kernel
theorem dX9_total_0 : decode cX9_total 0 = .ok (.aload_n 0, 1) := by decide +kernel
theorem dX9_total_1 : decode cX9_total 1 = .ok (.aload_n 0, 1) := by decide +kernel
theorem dX9_total_2 : decode cX9_total 2 = .ok (.iload_n 1, 1) := by decide +kernel
theorem dX9_total_3 : decode cX9_total 3 = .ok (.invokevirtual 209, 3) := by decide +kernel
theorem dX9_total_6 : decode cX9_total 6 = .ok (.ifCond .eq 7, 3) := by decide +kernel
theorem dX9_total_9 : decode cX9_total 9 = .ok (.iconst 1, 1) := by decide +kernel
theorem dX9_total_10 : decode cX9_total 10 = .ok (.goto 4, 3) := by decide +kernel
theorem dX9_total_13 : decode cX9_total 13 = .ok (.iconst 0, 1) := by decide +kernel
theorem dX9_total_14 : decode cX9_total 14 = .ok (.invokevirtual 107, 3) := by decide +kernel
theorem dX9_total_17 : decode cX9_total 17 = .ok (.ifCond .eq 7, 3) := by decide +kernel
theorem dX9_total_20 : decode cX9_total 20 = .ok (.fconst 0, 1) := by decide +kernel
theorem dX9_total_21 : decode cX9_total 21 = .ok (.goto 9, 3) := by decide +kernel
theorem dX9_total_24 : decode cX9_total 24 = .ok (.aload_n 0, 1) := by decide +kernel
theorem dX9_total_25 : decode cX9_total 25 = .ok (.getfield 70, 3) := by decide +kernel
theorem dX9_total_28 : decode cX9_total 28 = .ok (.iload_n 1, 1) := by decide +kernel
theorem dX9_total_29 : decode cX9_total 29 = .ok (.faload, 1) := by decide +kernel
theorem dX9_total_30 : decode cX9_total 30 = .ok (.freturn, 1) := by decide +kernel
theorem dX9_totalBits_0 : decode cX9_totalBits 0 = .ok (.aload_n 0, 1) := by decide +kernel
theorem dX9_totalBits_1 : decode cX9_totalBits 1 = .ok (.aload_n 0, 1) := by decide +kernel
theorem dX9_totalBits_2 : decode cX9_totalBits 2 = .ok (.iload_n 1, 1) := by decide +kernel
theorem dX9_totalBits_3 : decode cX9_totalBits 3 = .ok (.invokevirtual 209, 3) := by decide +kernel
theorem dX9_totalBits_6 : decode cX9_totalBits 6 = .ok (.ifCond .eq 7, 3) := by decide +kernel
theorem dX9_totalBits_9 : decode cX9_totalBits 9 = .ok (.iconst 1, 1) := by decide +kernel
theorem dX9_totalBits_10 : decode cX9_totalBits 10 = .ok (.goto 4, 3) := by decide +kernel
theorem dX9_totalBits_13 : decode cX9_totalBits 13 = .ok (.iconst 0, 1) := by decide +kernel
theorem dX9_totalBits_14 : decode cX9_totalBits 14 = .ok (.invokevirtual 107, 3) := by decide +kernel
theorem dX9_totalBits_17 : decode cX9_totalBits 17 = .ok (.ifCond .eq 7, 3) := by decide +kernel
theorem dX9_totalBits_20 : decode cX9_totalBits 20 = .ok (.iconst 0, 1) := by decide +kernel
theorem dX9_totalBits_21 : decode cX9_totalBits 21 = .ok (.goto 12, 3) := by decide +kernel
theorem dX9_totalBits_24 : decode cX9_totalBits 24 = .ok (.aload_n 0, 1) := by decide +kernel
theorem dX9_totalBits_25 : decode cX9_totalBits 25 = .ok (.getfield 70, 3) := by decide +kernel
theorem dX9_totalBits_28 : decode cX9_totalBits 28 = .ok (.iload_n 1, 1) := by decide +kernel
theorem dX9_totalBits_29 : decode cX9_totalBits 29 = .ok (.faload, 1) := by decide +kernel
theorem dX9_totalBits_30 : decode cX9_totalBits 30 = .ok (.invokestatic 215, 3) := by decide +kernel
theorem dX9_totalBits_33 : decode cX9_totalBits 33 = .ok (.ireturn, 1) := by decide +kernel
theorem dX9_totalCents_0 : decode cX9_totalCents 0 = .ok (.aload_n 0, 1) := by decide +kernel
theorem dX9_totalCents_1 : decode cX9_totalCents 1 = .ok (.aload_n 0, 1) := by decide +kernel
theorem dX9_totalCents_2 : decode cX9_totalCents 2 = .ok (.iload_n 1, 1) := by decide +kernel
theorem dX9_totalCents_3 : decode cX9_totalCents 3 = .ok (.invokevirtual 209, 3) := by decide +kernel
theorem dX9_totalCents_6 : decode cX9_totalCents 6 = .ok (.ifCond .eq 7, 3) := by decide +kernel
theorem dX9_totalCents_9 : decode cX9_totalCents 9 = .ok (.iconst 1, 1) := by decide +kernel
theorem dX9_totalCents_10 : decode cX9_totalCents 10 = .ok (.goto 4, 3) := by decide +kernel
theorem dX9_totalCents_13 : decode cX9_totalCents 13 = .ok (.iconst 0, 1) := by decide +kernel
theorem dX9_totalCents_14 : decode cX9_totalCents 14 = .ok (.invokevirtual 107, 3) := by decide +kernel
theorem dX9_totalCents_17 : decode cX9_totalCents 17 = .ok (.ifCond .eq 7, 3) := by decide +kernel
theorem dX9_totalCents_20 : decode cX9_totalCents 20 = .ok (.iconst 0, 1) := by decide +kernel
theorem dX9_totalCents_21 : decode cX9_totalCents 21 = .ok (.goto 10, 3) := by decide +kernel
theorem dX9_totalCents_24 : decode cX9_totalCents 24 = .ok (.aload_n 0, 1) := by decide +kernel
theorem dX9_totalCents_25 : decode cX9_totalCents 25 = .ok (.getfield 70, 3) := by decide +kernel
theorem dX9_totalCents_28 : decode cX9_totalCents 28 = .ok (.iload_n 1, 1) := by decide +kernel
theorem dX9_totalCents_29 : decode cX9_totalCents 29 = .ok (.faload, 1) := by decide +kernel
theorem dX9_totalCents_30 : decode cX9_totalCents 30 = .ok (.f2i, 1) := by decide +kernel
theorem dX9_totalCents_31 : decode cX9_totalCents 31 = .ok (.ireturn, 1) := by decide +kernel
theorem dX9_correct_0 : decode cX9_correct 0 = .ok (.aload_n 0, 1) := by decide +kernel
theorem dX9_correct_1 : decode cX9_correct 1 = .ok (.aload_n 0, 1) := by decide +kernel
theorem dX9_correct_2 : decode cX9_correct 2 = .ok (.iload_n 1, 1) := by decide +kernel
theorem dX9_correct_3 : decode cX9_correct 3 = .ok (.invokevirtual 131, 3) := by decide +kernel
theorem dX9_correct_6 : decode cX9_correct 6 = .ok (.ifCond .eq 7, 3) := by decide +kernel
theorem dX9_correct_9 : decode cX9_correct 9 = .ok (.iconst 1, 1) := by decide +kernel
theorem dX9_correct_10 : decode cX9_correct 10 = .ok (.goto 49, 3) := by decide +kernel
theorem dX9_correct_13 : decode cX9_correct 13 = .ok (.iload_n 2, 1) := by decide +kernel
theorem dX9_correct_14 : decode cX9_correct 14 = .ok (.sipush (-600), 3) := by decide +kernel
theorem dX9_correct_17 : decode cX9_correct 17 = .ok (.sipush 600, 3) := by decide +kernel
theorem dX9_correct_20 : decode cX9_correct 20 = .ok (.invokestatic 93, 3) := by decide +kernel
theorem dX9_correct_23 : decode cX9_correct 23 = .ok (.ifCond .eq 7, 3) := by decide +kernel
theorem dX9_correct_26 : decode cX9_correct 26 = .ok (.iload_n 2, 1) := by decide +kernel
theorem dX9_correct_27 : decode cX9_correct 27 = .ok (.ifCond .ne 7, 3) := by decide +kernel
theorem dX9_correct_30 : decode cX9_correct 30 = .ok (.iconst 2, 1) := by decide +kernel
theorem dX9_correct_31 : decode cX9_correct 31 = .ok (.goto 28, 3) := by decide +kernel
theorem dX9_correct_34 : decode cX9_correct 34 = .ok (.aload_n 0, 1) := by decide +kernel
theorem dX9_correct_35 : decode cX9_correct 35 = .ok (.getfield 39, 3) := by decide +kernel
theorem dX9_correct_38 : decode cX9_correct 38 = .ok (.iload_n 1, 1) := by decide +kernel
theorem dX9_correct_39 : decode cX9_correct 39 = .ok (.caload, 1) := by decide +kernel
theorem dX9_correct_40 : decode cX9_correct 40 = .ok (.bipush 102, 2) := by decide +kernel
theorem dX9_correct_42 : decode cX9_correct 42 = .ok (.if_icmp .ne 12, 3) := by decide +kernel
theorem dX9_correct_45 : decode cX9_correct 45 = .ok (.aload_n 0, 1) := by decide +kernel
theorem dX9_correct_46 : decode cX9_correct 46 = .ok (.getfield 196, 3) := by decide +kernel
theorem dX9_correct_49 : decode cX9_correct 49 = .ok (.bipush 16, 2) := by decide +kernel
theorem dX9_correct_51 : decode cX9_correct 51 = .ok (.if_icmp .ne 7, 3) := by decide +kernel
theorem dX9_correct_54 : decode cX9_correct 54 = .ok (.iconst 3, 1) := by decide +kernel
theorem dX9_correct_55 : decode cX9_correct 55 = .ok (.goto 4, 3) := by decide +kernel
theorem dX9_correct_58 : decode cX9_correct 58 = .ok (.iconst 0, 1) := by decide +kernel
theorem dX9_correct_59 : decode cX9_correct 59 = .ok (.invokevirtual 107, 3) := by decide +kernel
theorem dX9_correct_62 : decode cX9_correct 62 = .ok (.ifCond .eq 5, 3) := by decide +kernel
theorem dX9_correct_65 : decode cX9_correct 65 = .ok (.iconst 0, 1) := by decide +kernel
theorem dX9_correct_66 : decode cX9_correct 66 = .ok (.ireturn, 1) := by decide +kernel
theorem dX9_correct_67 : decode cX9_correct 67 = .ok (.aload_n 0, 1) := by decide +kernel
theorem dX9_correct_68 : decode cX9_correct 68 = .ok (.getfield 73, 3) := by decide +kernel
theorem dX9_correct_71 : decode cX9_correct 71 = .ok (.aload_n 0, 1) := by decide +kernel
theorem dX9_correct_72 : decode cX9_correct 72 = .ok (.getfield 196, 3) := by decide +kernel
theorem dX9_correct_75 : decode cX9_correct 75 = .ok (.iload_n 1, 1) := by decide +kernel
theorem dX9_correct_76 : decode cX9_correct 76 = .ok (.iastore, 1) := by decide +kernel
theorem dX9_correct_77 : decode cX9_correct 77 = .ok (.aload_n 0, 1) := by decide +kernel
theorem dX9_correct_78 : decode cX9_correct 78 = .ok (.getfield 76, 3) := by decide +kernel
theorem dX9_correct_81 : decode cX9_correct 81 = .ok (.aload_n 0, 1) := by decide +kernel
theorem dX9_correct_82 : decode cX9_correct 82 = .ok (.getfield 196, 3) := by decide +kernel
theorem dX9_correct_85 : decode cX9_correct 85 = .ok (.iload_n 2, 1) := by decide +kernel
theorem dX9_correct_86 : decode cX9_correct 86 = .ok (.iastore, 1) := by decide +kernel
theorem dX9_correct_87 : decode cX9_correct 87 = .ok (.aload_n 0, 1) := by decide +kernel
theorem dX9_correct_88 : decode cX9_correct 88 = .ok (.dup, 1) := by decide +kernel
theorem dX9_correct_89 : decode cX9_correct 89 = .ok (.getfield 196, 3) := by decide +kernel
theorem dX9_correct_92 : decode cX9_correct 92 = .ok (.iconst 1, 1) := by decide +kernel
theorem dX9_correct_93 : decode cX9_correct 93 = .ok (.iadd, 1) := by decide +kernel
theorem dX9_correct_94 : decode cX9_correct 94 = .ok (.putfield 196, 3) := by decide +kernel
theorem dX9_correct_97 : decode cX9_correct 97 = .ok (.iconst 0, 1) := by decide +kernel
theorem dX9_correct_98 : decode cX9_correct 98 = .ok (.istore_n 3, 1) := by decide +kernel
theorem dX9_correct_99 : decode cX9_correct 99 = .ok (.iconst 0, 1) := by decide +kernel
theorem dX9_correct_100 : decode cX9_correct 100 = .ok (.istore 4, 2) := by decide +kernel
theorem dX9_correct_102 : decode cX9_correct 102 = .ok (.iload 4, 2) := by decide +kernel
theorem dX9_correct_104 : decode cX9_correct 104 = .ok (.aload_n 0, 1) := by decide +kernel
theorem dX9_correct_105 : decode cX9_correct 105 = .ok (.getfield 196, 3) := by decide +kernel
theorem dX9_correct_108 : decode cX9_correct 108 = .ok (.if_icmp .ge 54, 3) := by decide +kernel
theorem dX9_correct_111 : decode cX9_correct 111 = .ok (.iload_n 3, 1) := by decide +kernel
theorem dX9_correct_112 : decode cX9_correct 112 = .ok (.aload_n 0, 1) := by decide +kernel
theorem dX9_correct_113 : decode cX9_correct 113 = .ok (.getfield 79, 3) := by decide +kernel
theorem dX9_correct_116 : decode cX9_correct 116 = .ok (.iload 4, 2) := by decide +kernel
theorem dX9_correct_118 : decode cX9_correct 118 = .ok (.baload, 1) := by decide +kernel
theorem dX9_correct_119 : decode cX9_correct 119 = .ok (.ifCond .ne 34, 3) := by decide +kernel
theorem dX9_correct_122 : decode cX9_correct 122 = .ok (.aload_n 0, 1) := by decide +kernel
theorem dX9_correct_123 : decode cX9_correct 123 = .ok (.getfield 30, 3) := by decide +kernel
theorem dX9_correct_126 : decode cX9_correct 126 = .ok (.aload_n 0, 1) := by decide +kernel
theorem dX9_correct_127 : decode cX9_correct 127 = .ok (.getfield 73, 3) := by decide +kernel
theorem dX9_correct_130 : decode cX9_correct 130 = .ok (.iload 4, 2) := by decide +kernel
theorem dX9_correct_132 : decode cX9_correct 132 = .ok (.iaload, 1) := by decide +kernel
theorem dX9_correct_133 : decode cX9_correct 133 = .ok (.iaload, 1) := by decide +kernel
theorem dX9_correct_134 : decode cX9_correct 134 = .ok (.aload_n 0, 1) := by decide +kernel
theorem dX9_correct_135 : decode cX9_correct 135 = .ok (.getfield 30, 3) := by decide +kernel
theorem dX9_correct_138 : decode cX9_correct 138 = .ok (.iload_n 1, 1) := by decide +kernel
theorem dX9_correct_139 : decode cX9_correct 139 = .ok (.iaload, 1) := by decide +kernel
theorem dX9_correct_140 : decode cX9_correct 140 = .ok (.if_icmp .ne 13, 3) := by decide +kernel
theorem dX9_correct_143 : decode cX9_correct 143 = .ok (.aload_n 0, 1) := by decide +kernel
theorem dX9_correct_144 : decode cX9_correct 144 = .ok (.getfield 76, 3) := by decide +kernel
theorem dX9_correct_147 : decode cX9_correct 147 = .ok (.iload 4, 2) := by decide +kernel
theorem dX9_correct_149 : decode cX9_correct 149 = .ok (.iaload, 1) := by decide +kernel
theorem dX9_correct_150 : decode cX9_correct 150 = .ok (.goto 4, 3) := by decide +kernel
theorem dX9_correct_153 : decode cX9_correct 153 = .ok (.iconst 0, 1) := by decide +kernel
theorem dX9_correct_154 : decode cX9_correct 154 = .ok (.iadd, 1) := by decide +kernel
theorem dX9_correct_155 : decode cX9_correct 155 = .ok (.istore_n 3, 1) := by decide +kernel
theorem dX9_correct_156 : decode cX9_correct 156 = .ok (.iinc 4 1, 3) := by decide +kernel
theorem dX9_correct_159 : decode cX9_correct 159 = .ok (.goto (-57), 3) := by decide +kernel
theorem dX9_correct_162 : decode cX9_correct 162 = .ok (.iload_n 3, 1) := by decide +kernel
theorem dX9_correct_163 : decode cX9_correct 163 = .ok (.ireturn, 1) := by decide +kernel
theorem dX9_usedOf_0 : decode cX9_usedOf 0 = .ok (.aload_n 0, 1) := by decide +kernel
theorem dX9_usedOf_1 : decode cX9_usedOf 1 = .ok (.iload_n 1, 1) := by decide +kernel
theorem dX9_usedOf_2 : decode cX9_usedOf 2 = .ok (.invokevirtual 189, 3) := by decide +kernel
theorem dX9_usedOf_5 : decode cX9_usedOf 5 = .ok (.istore_n 2, 1) := by decide +kernel
theorem dX9_usedOf_6 : decode cX9_usedOf 6 = .ok (.iconst 0, 1) := by decide +kernel
theorem dX9_usedOf_7 : decode cX9_usedOf 7 = .ok (.istore_n 3, 1) := by decide +kernel
theorem dX9_usedOf_8 : decode cX9_usedOf 8 = .ok (.iload_n 3, 1) := by decide +kernel
theorem dX9_usedOf_9 : decode cX9_usedOf 9 = .ok (.aload_n 0, 1) := by decide +kernel
theorem dX9_usedOf_10 : decode cX9_usedOf 10 = .ok (.getfield 192, 3) := by decide +kernel
theorem dX9_usedOf_13 : decode cX9_usedOf 13 = .ok (.if_icmp .ge 54, 3) := by decide +kernel
theorem dX9_usedOf_16 : decode cX9_usedOf 16 = .ok (.iconst 0, 1) := by decide +kernel
theorem dX9_usedOf_17 : decode cX9_usedOf 17 = .ok (.istore 4, 2) := by decide +kernel
theorem dX9_usedOf_19 : decode cX9_usedOf 19 = .ok (.aload_n 0, 1) := by decide +kernel
theorem dX9_usedOf_20 : decode cX9_usedOf 20 = .ok (.getfield 54, 3) := by decide +kernel
theorem dX9_usedOf_23 : decode cX9_usedOf 23 = .ok (.iload_n 3, 1) := by decide +kernel
theorem dX9_usedOf_24 : decode cX9_usedOf 24 = .ok (.iaload, 1) := by decide +kernel
theorem dX9_usedOf_25 : decode cX9_usedOf 25 = .ok (.iload_n 1, 1) := by decide +kernel
theorem dX9_usedOf_26 : decode cX9_usedOf 26 = .ok (.if_icmp .ne 35, 3) := by decide +kernel
theorem dX9_usedOf_29 : decode cX9_usedOf 29 = .ok (.iload 4, 2) := by decide +kernel
theorem dX9_usedOf_31 : decode cX9_usedOf 31 = .ok (.aload_n 0, 1) := by decide +kernel
theorem dX9_usedOf_32 : decode cX9_usedOf 32 = .ok (.getfield 51, 3) := by decide +kernel
theorem dX9_usedOf_35 : decode cX9_usedOf 35 = .ok (.iload_n 3, 1) := by decide +kernel
theorem dX9_usedOf_36 : decode cX9_usedOf 36 = .ok (.iaload, 1) := by decide +kernel
theorem dX9_usedOf_37 : decode cX9_usedOf 37 = .ok (.if_icmp .ge 24, 3) := by decide +kernel
theorem dX9_usedOf_40 : decode cX9_usedOf 40 = .ok (.iload_n 2, 1) := by decide +kernel
theorem dX9_usedOf_41 : decode cX9_usedOf 41 = .ok (.aload_n 0, 1) := by decide +kernel
theorem dX9_usedOf_42 : decode cX9_usedOf 42 = .ok (.getfield 60, 3) := by decide +kernel
theorem dX9_usedOf_45 : decode cX9_usedOf 45 = .ok (.bipush 40, 2) := by decide +kernel
theorem dX9_usedOf_47 : decode cX9_usedOf 47 = .ok (.iload_n 3, 1) := by decide +kernel
theorem dX9_usedOf_48 : decode cX9_usedOf 48 = .ok (.imul, 1) := by decide +kernel
theorem dX9_usedOf_49 : decode cX9_usedOf 49 = .ok (.iload 4, 2) := by decide +kernel
theorem dX9_usedOf_51 : decode cX9_usedOf 51 = .ok (.iadd, 1) := by decide +kernel
theorem dX9_usedOf_52 : decode cX9_usedOf 52 = .ok (.iaload, 1) := by decide +kernel
theorem dX9_usedOf_53 : decode cX9_usedOf 53 = .ok (.iadd, 1) := by decide +kernel
theorem dX9_usedOf_54 : decode cX9_usedOf 54 = .ok (.istore_n 2, 1) := by decide +kernel
theorem dX9_usedOf_55 : decode cX9_usedOf 55 = .ok (.iinc 4 1, 3) := by decide +kernel
theorem dX9_usedOf_58 : decode cX9_usedOf 58 = .ok (.goto (-39), 3) := by decide +kernel
theorem dX9_usedOf_61 : decode cX9_usedOf 61 = .ok (.iinc 3 1, 3) := by decide +kernel
theorem dX9_usedOf_64 : decode cX9_usedOf 64 = .ok (.goto (-56), 3) := by decide +kernel
theorem dX9_usedOf_67 : decode cX9_usedOf 67 = .ok (.iload_n 2, 1) := by decide +kernel
theorem dX9_usedOf_68 : decode cX9_usedOf 68 = .ok (.ireturn, 1) := by decide +kernel
theorem dX9_usedMinutes_0 : decode cX9_usedMinutes 0 = .ok (.aload_n 0, 1) := by decide +kernel
theorem dX9_usedMinutes_1 : decode cX9_usedMinutes 1 = .ok (.aload_n 0, 1) := by decide +kernel
theorem dX9_usedMinutes_2 : decode cX9_usedMinutes 2 = .ok (.iload_n 1, 1) := by decide +kernel
theorem dX9_usedMinutes_3 : decode cX9_usedMinutes 3 = .ok (.invokevirtual 120, 3) := by decide +kernel
theorem dX9_usedMinutes_6 : decode cX9_usedMinutes 6 = .ok (.ifCond .eq 7, 3) := by decide +kernel
theorem dX9_usedMinutes_9 : decode cX9_usedMinutes 9 = .ok (.iconst 1, 1) := by decide +kernel
theorem dX9_usedMinutes_10 : decode cX9_usedMinutes 10 = .ok (.goto 4, 3) := by decide +kernel
theorem dX9_usedMinutes_13 : decode cX9_usedMinutes 13 = .ok (.iconst 0, 1) := by decide +kernel
theorem dX9_usedMinutes_14 : decode cX9_usedMinutes 14 = .ok (.invokevirtual 107, 3) := by decide +kernel
theorem dX9_usedMinutes_17 : decode cX9_usedMinutes 17 = .ok (.ifCond .eq 7, 3) := by decide +kernel
theorem dX9_usedMinutes_20 : decode cX9_usedMinutes 20 = .ok (.iconst 0, 1) := by decide +kernel
theorem dX9_usedMinutes_21 : decode cX9_usedMinutes 21 = .ok (.goto 8, 3) := by decide +kernel
theorem dX9_usedMinutes_24 : decode cX9_usedMinutes 24 = .ok (.aload_n 0, 1) := by decide +kernel
theorem dX9_usedMinutes_25 : decode cX9_usedMinutes 25 = .ok (.iload_n 1, 1) := by decide +kernel
theorem dX9_usedMinutes_26 : decode cX9_usedMinutes 26 = .ok (.invokevirtual 221, 3) := by decide +kernel
theorem dX9_usedMinutes_29 : decode cX9_usedMinutes 29 = .ok (.ireturn, 1) := by decide +kernel
theorem dX9_shareOf_0 : decode cX9_shareOf 0 = .ok (.aload_n 0, 1) := by decide +kernel
theorem dX9_shareOf_1 : decode cX9_shareOf 1 = .ok (.iload_n 1, 1) := by decide +kernel
theorem dX9_shareOf_2 : decode cX9_shareOf 2 = .ok (.invokevirtual 221, 3) := by decide +kernel
theorem dX9_shareOf_5 : decode cX9_shareOf 5 = .ok (.i2f, 1) := by decide +kernel
theorem dX9_shareOf_6 : decode cX9_shareOf 6 = .ok (.aload_n 0, 1) := by decide +kernel
theorem dX9_shareOf_7 : decode cX9_shareOf 7 = .ok (.getfield 27, 3) := by decide +kernel
theorem dX9_shareOf_10 : decode cX9_shareOf 10 = .ok (.iload_n 1, 1) := by decide +kernel
theorem dX9_shareOf_11 : decode cX9_shareOf 11 = .ok (.iaload, 1) := by decide +kernel
theorem dX9_shareOf_12 : decode cX9_shareOf 12 = .ok (.i2f, 1) := by decide +kernel
theorem dX9_shareOf_13 : decode cX9_shareOf 13 = .ok (.fdiv, 1) := by decide +kernel
theorem dX9_shareOf_14 : decode cX9_shareOf 14 = .ok (.freturn, 1) := by decide +kernel
theorem dX9_budgetShare_0 : decode cX9_budgetShare 0 = .ok (.aload_n 0, 1) := by decide +kernel
theorem dX9_budgetShare_1 : decode cX9_budgetShare 1 = .ok (.aload_n 0, 1) := by decide +kernel
theorem dX9_budgetShare_2 : decode cX9_budgetShare 2 = .ok (.iload_n 1, 1) := by decide +kernel
theorem dX9_budgetShare_3 : decode cX9_budgetShare 3 = .ok (.invokevirtual 120, 3) := by decide +kernel
theorem dX9_budgetShare_6 : decode cX9_budgetShare 6 = .ok (.ifCond .eq 7, 3) := by decide +kernel
theorem dX9_budgetShare_9 : decode cX9_budgetShare 9 = .ok (.iconst 1, 1) := by decide +kernel
theorem dX9_budgetShare_10 : decode cX9_budgetShare 10 = .ok (.goto 17, 3) := by decide +kernel
theorem dX9_budgetShare_13 : decode cX9_budgetShare 13 = .ok (.aload_n 0, 1) := by decide +kernel
theorem dX9_budgetShare_14 : decode cX9_budgetShare 14 = .ok (.getfield 27, 3) := by decide +kernel
theorem dX9_budgetShare_17 : decode cX9_budgetShare 17 = .ok (.iload_n 1, 1) := by decide +kernel
theorem dX9_budgetShare_18 : decode cX9_budgetShare 18 = .ok (.iaload, 1) := by decide +kernel
theorem dX9_budgetShare_19 : decode cX9_budgetShare 19 = .ok (.ifCond .ne 7, 3) := by decide +kernel
theorem dX9_budgetShare_22 : decode cX9_budgetShare 22 = .ok (.iconst 2, 1) := by decide +kernel
theorem dX9_budgetShare_23 : decode cX9_budgetShare 23 = .ok (.goto 4, 3) := by decide +kernel
theorem dX9_budgetShare_26 : decode cX9_budgetShare 26 = .ok (.iconst 0, 1) := by decide +kernel
theorem dX9_budgetShare_27 : decode cX9_budgetShare 27 = .ok (.invokevirtual 107, 3) := by decide +kernel
theorem dX9_budgetShare_30 : decode cX9_budgetShare 30 = .ok (.ifCond .eq 7, 3) := by decide +kernel
theorem dX9_budgetShare_33 : decode cX9_budgetShare 33 = .ok (.fconst 0, 1) := by decide +kernel
theorem dX9_budgetShare_34 : decode cX9_budgetShare 34 = .ok (.goto 8, 3) := by decide +kernel
theorem dX9_budgetShare_37 : decode cX9_budgetShare 37 = .ok (.aload_n 0, 1) := by decide +kernel
theorem dX9_budgetShare_38 : decode cX9_budgetShare 38 = .ok (.iload_n 1, 1) := by decide +kernel
theorem dX9_budgetShare_39 : decode cX9_budgetShare 39 = .ok (.invokevirtual 224, 3) := by decide +kernel
theorem dX9_budgetShare_42 : decode cX9_budgetShare 42 = .ok (.freturn, 1) := by decide +kernel
theorem dX9_warning_0 : decode cX9_warning 0 = .ok (.aload_n 0, 1) := by decide +kernel
theorem dX9_warning_1 : decode cX9_warning 1 = .ok (.aload_n 0, 1) := by decide +kernel
theorem dX9_warning_2 : decode cX9_warning 2 = .ok (.iload_n 1, 1) := by decide +kernel
theorem dX9_warning_3 : decode cX9_warning 3 = .ok (.invokevirtual 120, 3) := by decide +kernel
theorem dX9_warning_6 : decode cX9_warning 6 = .ok (.ifCond .eq 7, 3) := by decide +kernel
theorem dX9_warning_9 : decode cX9_warning 9 = .ok (.iconst 1, 1) := by decide +kernel
theorem dX9_warning_10 : decode cX9_warning 10 = .ok (.goto 4, 3) := by decide +kernel
theorem dX9_warning_13 : decode cX9_warning 13 = .ok (.iconst 0, 1) := by decide +kernel
theorem dX9_warning_14 : decode cX9_warning 14 = .ok (.invokevirtual 107, 3) := by decide +kernel
theorem dX9_warning_17 : decode cX9_warning 17 = .ok (.ifCond .eq 6, 3) := by decide +kernel
theorem dX9_warning_20 : decode cX9_warning 20 = .ok (.bipush 32, 2) := by decide +kernel
theorem dX9_warning_22 : decode cX9_warning 22 = .ok (.ireturn, 1) := by decide +kernel
theorem dX9_warning_23 : decode cX9_warning 23 = .ok (.aload_n 0, 1) := by decide +kernel
theorem dX9_warning_24 : decode cX9_warning 24 = .ok (.getfield 27, 3) := by decide +kernel
theorem dX9_warning_27 : decode cX9_warning 27 = .ok (.iload_n 1, 1) := by decide +kernel
theorem dX9_warning_28 : decode cX9_warning 28 = .ok (.iaload, 1) := by decide +kernel
theorem dX9_warning_29 : decode cX9_warning 29 = .ok (.ifCond .eq 14, 3) := by decide +kernel
theorem dX9_warning_32 : decode cX9_warning 32 = .ok (.aload_n 0, 1) := by decide +kernel
theorem dX9_warning_33 : decode cX9_warning 33 = .ok (.iload_n 1, 1) := by decide +kernel
theorem dX9_warning_34 : decode cX9_warning 34 = .ok (.invokevirtual 224, 3) := by decide +kernel
theorem dX9_warning_37 : decode cX9_warning 37 = .ok (.ldc 228, 2) := by decide +kernel
theorem dX9_warning_39 : decode cX9_warning 39 = .ok (.fcmp .g, 1) := by decide +kernel
theorem dX9_warning_40 : decode cX9_warning 40 = .ok (.ifCond .ge 6, 3) := by decide +kernel
theorem dX9_warning_43 : decode cX9_warning 43 = .ok (.bipush 110, 2) := by decide +kernel
theorem dX9_warning_45 : decode cX9_warning 45 = .ok (.ireturn, 1) := by decide +kernel
theorem dX9_warning_46 : decode cX9_warning 46 = .ok (.aload_n 0, 1) := by decide +kernel
theorem dX9_warning_47 : decode cX9_warning 47 = .ok (.iload_n 1, 1) := by decide +kernel
theorem dX9_warning_48 : decode cX9_warning 48 = .ok (.invokevirtual 221, 3) := by decide +kernel
theorem dX9_warning_51 : decode cX9_warning 51 = .ok (.aload_n 0, 1) := by decide +kernel
theorem dX9_warning_52 : decode cX9_warning 52 = .ok (.getfield 27, 3) := by decide +kernel
theorem dX9_warning_55 : decode cX9_warning 55 = .ok (.iload_n 1, 1) := by decide +kernel
theorem dX9_warning_56 : decode cX9_warning 56 = .ok (.iaload, 1) := by decide +kernel
theorem dX9_warning_57 : decode cX9_warning 57 = .ok (.if_icmp .le 8, 3) := by decide +kernel
theorem dX9_warning_60 : decode cX9_warning 60 = .ok (.bipush 111, 2) := by decide +kernel
theorem dX9_warning_62 : decode cX9_warning 62 = .ok (.goto 5, 3) := by decide +kernel
theorem dX9_warning_65 : decode cX9_warning 65 = .ok (.bipush 119, 2) := by decide +kernel
theorem dX9_warning_67 : decode cX9_warning 67 = .ok (.ireturn, 1) := by decide +kernel
theorem dX9_mean_0 : decode cX9_mean 0 = .ok (.aload_n 0, 1) := by decide +kernel
theorem dX9_mean_1 : decode cX9_mean 1 = .ok (.getfield 97, 3) := by decide +kernel
theorem dX9_mean_4 : decode cX9_mean 4 = .ok (.aload_n 0, 1) := by decide +kernel
theorem dX9_mean_5 : decode cX9_mean 5 = .ok (.bipush 120, 2) := by decide +kernel
theorem dX9_mean_7 : decode cX9_mean 7 = .ok (.invokevirtual 123, 3) := by decide +kernel
theorem dX9_mean_10 : decode cX9_mean 10 = .ok (.isub, 1) := by decide +kernel
theorem dX9_mean_11 : decode cX9_mean 11 = .ok (.istore_n 1, 1) := by decide +kernel
theorem dX9_mean_12 : decode cX9_mean 12 = .ok (.aload_n 0, 1) := by decide +kernel
theorem dX9_mean_13 : decode cX9_mean 13 = .ok (.iload_n 1, 1) := by decide +kernel
theorem dX9_mean_14 : decode cX9_mean 14 = .ok (.ifCond .ne 7, 3) := by decide +kernel
theorem dX9_mean_17 : decode cX9_mean 17 = .ok (.iconst 1, 1) := by decide +kernel
theorem dX9_mean_18 : decode cX9_mean 18 = .ok (.goto 4, 3) := by decide +kernel
theorem dX9_mean_21 : decode cX9_mean 21 = .ok (.iconst 0, 1) := by decide +kernel
theorem dX9_mean_22 : decode cX9_mean 22 = .ok (.invokevirtual 107, 3) := by decide +kernel
theorem dX9_mean_25 : decode cX9_mean 25 = .ok (.ifCond .eq 5, 3) := by decide +kernel
theorem dX9_mean_28 : decode cX9_mean 28 = .ok (.dconst 0, 1) := by decide +kernel
theorem dX9_mean_29 : decode cX9_mean 29 = .ok (.dreturn, 1) := by decide +kernel
theorem dX9_mean_30 : decode cX9_mean 30 = .ok (.aload_n 0, 1) := by decide +kernel
theorem dX9_mean_31 : decode cX9_mean 31 = .ok (.invokevirtual 148, 3) := by decide +kernel
theorem dX9_mean_34 : decode cX9_mean 34 = .ok (.iconst 0, 1) := by decide +kernel
theorem dX9_mean_35 : decode cX9_mean 35 = .ok (.istore_n 2, 1) := by decide +kernel
theorem dX9_mean_36 : decode cX9_mean 36 = .ok (.iconst 0, 1) := by decide +kernel
theorem dX9_mean_37 : decode cX9_mean 37 = .ok (.istore_n 3, 1) := by decide +kernel
theorem dX9_mean_38 : decode cX9_mean 38 = .ok (.iload_n 3, 1) := by decide +kernel
theorem dX9_mean_39 : decode cX9_mean 39 = .ok (.aload_n 0, 1) := by decide +kernel
theorem dX9_mean_40 : decode cX9_mean 40 = .ok (.getfield 97, 3) := by decide +kernel
theorem dX9_mean_43 : decode cX9_mean 43 = .ok (.if_icmp .ge 18, 3) := by decide +kernel
theorem dX9_mean_46 : decode cX9_mean 46 = .ok (.iload_n 2, 1) := by decide +kernel
theorem dX9_mean_47 : decode cX9_mean 47 = .ok (.aload_n 0, 1) := by decide +kernel
theorem dX9_mean_48 : decode cX9_mean 48 = .ok (.getfield 45, 3) := by decide +kernel
theorem dX9_mean_51 : decode cX9_mean 51 = .ok (.iload_n 3, 1) := by decide +kernel
theorem dX9_mean_52 : decode cX9_mean 52 = .ok (.iaload, 1) := by decide +kernel
theorem dX9_mean_53 : decode cX9_mean 53 = .ok (.iadd, 1) := by decide +kernel
theorem dX9_mean_54 : decode cX9_mean 54 = .ok (.istore_n 2, 1) := by decide +kernel
theorem dX9_mean_55 : decode cX9_mean 55 = .ok (.iinc 3 1, 3) := by decide +kernel
theorem dX9_mean_58 : decode cX9_mean 58 = .ok (.goto (-20), 3) := by decide +kernel
theorem dX9_mean_61 : decode cX9_mean 61 = .ok (.iload_n 2, 1) := by decide +kernel
theorem dX9_mean_62 : decode cX9_mean 62 = .ok (.i2d, 1) := by decide +kernel
theorem dX9_mean_63 : decode cX9_mean 63 = .ok (.ldc2_w 229, 3) := by decide +kernel
theorem dX9_mean_66 : decode cX9_mean 66 = .ok (.ddiv, 1) := by decide +kernel
theorem dX9_mean_67 : decode cX9_mean 67 = .ok (.iload_n 1, 1) := by decide +kernel
theorem dX9_mean_68 : decode cX9_mean 68 = .ok (.i2d, 1) := by decide +kernel
theorem dX9_mean_69 : decode cX9_mean 69 = .ok (.ddiv, 1) := by decide +kernel
theorem dX9_mean_70 : decode cX9_mean 70 = .ok (.dreturn, 1) := by decide +kernel
theorem dX9_meanMinutes_0 : decode cX9_meanMinutes 0 = .ok (.aload_n 0, 1) := by decide +kernel
theorem dX9_meanMinutes_1 : decode cX9_meanMinutes 1 = .ok (.invokevirtual 231, 3) := by decide +kernel
theorem dX9_meanMinutes_4 : decode cX9_meanMinutes 4 = .ok (.dreturn, 1) := by decide +kernel
theorem dX9_meanBits_0 : decode cX9_meanBits 0 = .ok (.aload_n 0, 1) := by decide +kernel
theorem dX9_meanBits_1 : decode cX9_meanBits 1 = .ok (.invokevirtual 231, 3) := by decide +kernel
theorem dX9_meanBits_4 : decode cX9_meanBits 4 = .ok (.dstore_n 1, 1) := by decide +kernel
theorem dX9_meanBits_5 : decode cX9_meanBits 5 = .ok (.aload_n 0, 1) := by decide +kernel
theorem dX9_meanBits_6 : decode cX9_meanBits 6 = .ok (.getfield 86, 3) := by decide +kernel
theorem dX9_meanBits_9 : decode cX9_meanBits 9 = .ok (.ifCond .le 7, 3) := by decide +kernel
theorem dX9_meanBits_12 : decode cX9_meanBits 12 = .ok (.lconst 0, 1) := by decide +kernel
theorem dX9_meanBits_13 : decode cX9_meanBits 13 = .ok (.goto 7, 3) := by decide +kernel
theorem dX9_meanBits_16 : decode cX9_meanBits 16 = .ok (.dload_n 1, 1) := by decide +kernel
theorem dX9_meanBits_17 : decode cX9_meanBits 17 = .ok (.invokestatic 235, 3) := by decide +kernel
theorem dX9_meanBits_20 : decode cX9_meanBits 20 = .ok (.lreturn, 1) := by decide +kernel
theorem dX9_isConsistent_0 : decode cX9_isConsistent 0 = .ok (.aload_n 0, 1) := by decide +kernel
theorem dX9_isConsistent_1 : decode cX9_isConsistent 1 = .ok (.iconst 0, 1) := by decide +kernel
theorem dX9_isConsistent_2 : decode cX9_isConsistent 2 = .ok (.putfield 86, 3) := by decide +kernel
theorem dX9_isConsistent_5 : decode cX9_isConsistent 5 = .ok (.aload_n 0, 1) := by decide +kernel
theorem dX9_isConsistent_6 : decode cX9_isConsistent 6 = .ok (.invokevirtual 148, 3) := by decide +kernel
theorem dX9_isConsistent_9 : decode cX9_isConsistent 9 = .ok (.iconst 0, 1) := by decide +kernel
theorem dX9_isConsistent_10 : decode cX9_isConsistent 10 = .ok (.istore_n 1, 1) := by decide +kernel
theorem dX9_isConsistent_11 : decode cX9_isConsistent 11 = .ok (.iload_n 1, 1) := by decide +kernel
theorem dX9_isConsistent_12 : decode cX9_isConsistent 12 = .ok (.aload_n 0, 1) := by decide +kernel
theorem dX9_isConsistent_13 : decode cX9_isConsistent 13 = .ok (.getfield 97, 3) := by decide +kernel
theorem dX9_isConsistent_16 : decode cX9_isConsistent 16 = .ok (.if_icmp .ge 57, 3) := by decide +kernel
theorem dX9_isConsistent_19 : decode cX9_isConsistent 19 = .ok (.iconst 0, 1) := by decide +kernel
theorem dX9_isConsistent_20 : decode cX9_isConsistent 20 = .ok (.istore_n 2, 1) := by decide +kernel
theorem dX9_isConsistent_21 : decode cX9_isConsistent 21 = .ok (.iconst 0, 1) := by decide +kernel
theorem dX9_isConsistent_22 : decode cX9_isConsistent 22 = .ok (.istore_n 3, 1) := by decide +kernel
theorem dX9_isConsistent_23 : decode cX9_isConsistent 23 = .ok (.iload_n 3, 1) := by decide +kernel
theorem dX9_isConsistent_24 : decode cX9_isConsistent 24 = .ok (.iconst 5, 1) := by decide +kernel
theorem dX9_isConsistent_25 : decode cX9_isConsistent 25 = .ok (.if_icmp .ge 22, 3) := by decide +kernel
theorem dX9_isConsistent_28 : decode cX9_isConsistent 28 = .ok (.iload_n 2, 1) := by decide +kernel
theorem dX9_isConsistent_29 : decode cX9_isConsistent 29 = .ok (.aload_n 0, 1) := by decide +kernel
theorem dX9_isConsistent_30 : decode cX9_isConsistent 30 = .ok (.getfield 48, 3) := by decide +kernel
theorem dX9_isConsistent_33 : decode cX9_isConsistent 33 = .ok (.iconst 5, 1) := by decide +kernel
theorem dX9_isConsistent_34 : decode cX9_isConsistent 34 = .ok (.iload_n 1, 1) := by decide +kernel
theorem dX9_isConsistent_35 : decode cX9_isConsistent 35 = .ok (.imul, 1) := by decide +kernel
theorem dX9_isConsistent_36 : decode cX9_isConsistent 36 = .ok (.iload_n 3, 1) := by decide +kernel
theorem dX9_isConsistent_37 : decode cX9_isConsistent 37 = .ok (.iadd, 1) := by decide +kernel
theorem dX9_isConsistent_38 : decode cX9_isConsistent 38 = .ok (.iaload, 1) := by decide +kernel
theorem dX9_isConsistent_39 : decode cX9_isConsistent 39 = .ok (.iadd, 1) := by decide +kernel
theorem dX9_isConsistent_40 : decode cX9_isConsistent 40 = .ok (.istore_n 2, 1) := by decide +kernel
theorem dX9_isConsistent_41 : decode cX9_isConsistent 41 = .ok (.iinc 3 1, 3) := by decide +kernel
theorem dX9_isConsistent_44 : decode cX9_isConsistent 44 = .ok (.goto (-21), 3) := by decide +kernel
theorem dX9_isConsistent_47 : decode cX9_isConsistent 47 = .ok (.aload_n 0, 1) := by decide +kernel
theorem dX9_isConsistent_48 : decode cX9_isConsistent 48 = .ok (.iload_n 1, 1) := by decide +kernel
theorem dX9_isConsistent_49 : decode cX9_isConsistent 49 = .ok (.invokevirtual 134, 3) := by decide +kernel
theorem dX9_isConsistent_52 : decode cX9_isConsistent 52 = .ok (.ifCond .eq 15, 3) := by decide +kernel
theorem dX9_isConsistent_55 : decode cX9_isConsistent 55 = .ok (.iload_n 2, 1) := by decide +kernel
theorem dX9_isConsistent_56 : decode cX9_isConsistent 56 = .ok (.aload_n 0, 1) := by decide +kernel
theorem dX9_isConsistent_57 : decode cX9_isConsistent 57 = .ok (.getfield 45, 3) := by decide +kernel
theorem dX9_isConsistent_60 : decode cX9_isConsistent 60 = .ok (.iload_n 1, 1) := by decide +kernel
theorem dX9_isConsistent_61 : decode cX9_isConsistent 61 = .ok (.iaload, 1) := by decide +kernel
theorem dX9_isConsistent_62 : decode cX9_isConsistent 62 = .ok (.if_icmp .eq 5, 3) := by decide +kernel
theorem dX9_isConsistent_65 : decode cX9_isConsistent 65 = .ok (.iconst 0, 1) := by decide +kernel
theorem dX9_isConsistent_66 : decode cX9_isConsistent 66 = .ok (.ireturn, 1) := by decide +kernel
theorem dX9_isConsistent_67 : decode cX9_isConsistent 67 = .ok (.iinc 1 1, 3) := by decide +kernel
theorem dX9_isConsistent_70 : decode cX9_isConsistent 70 = .ok (.goto (-59), 3) := by decide +kernel
theorem dX9_isConsistent_73 : decode cX9_isConsistent 73 = .ok (.iconst 1, 1) := by decide +kernel
theorem dX9_isConsistent_74 : decode cX9_isConsistent 74 = .ok (.ireturn, 1) := by decide +kernel
theorem dJ5_init_d00df_0 : decode cJ5_init_d00df 0 = .ok (.aload_n 0, 1) := by decide +kernel
theorem dJ5_init_d00df_1 : decode cJ5_init_d00df 1 = .ok (.invokespecial 3, 3) := by decide +kernel
theorem dJ5_init_d00df_4 : decode cJ5_init_d00df 4 = .ok (.getstatic 18, 3) := by decide +kernel
theorem dJ5_init_d00df_7 : decode cJ5_init_d00df 7 = .ok (.ifCond .eq 18, 3) := by decide +kernel
theorem dJ5_init_d00df_10 : decode cJ5_init_d00df 10 = .ok (.aload_n 0, 1) := by decide +kernel
theorem dJ5_init_d00df_11 : decode cJ5_init_d00df 11 = .ok (.iload_n 1, 1) := by decide +kernel
theorem dJ5_init_d00df_12 : decode cJ5_init_d00df 12 = .ok (.newarray .byte, 2) := by decide +kernel
theorem dJ5_init_d00df_14 : decode cJ5_init_d00df 14 = .ok (.putfield 15, 3) := by decide +kernel
theorem dJ5_init_d00df_17 : decode cJ5_init_d00df 17 = .ok (.aload_n 0, 1) := by decide +kernel
theorem dJ5_init_d00df_18 : decode cJ5_init_d00df 18 = .ok (.iconst 0, 1) := by decide +kernel
theorem dJ5_init_d00df_19 : decode cJ5_init_d00df 19 = .ok (.putfield 22, 3) := by decide +kernel
theorem dJ5_init_d00df_22 : decode cJ5_init_d00df 22 = .ok (.goto 16, 3) := by decide +kernel
theorem dJ5_init_d00df_25 : decode cJ5_init_d00df 25 = .ok (.aload_n 0, 1) := by decide +kernel
theorem dJ5_init_d00df_26 : decode cJ5_init_d00df 26 = .ok (.iload_n 1, 1) := by decide +kernel
theorem dJ5_init_d00df_27 : decode cJ5_init_d00df 27 = .ok (.invokestatic 26, 3) := by decide +kernel
theorem dJ5_init_d00df_30 : decode cJ5_init_d00df 30 = .ok (.putfield 15, 3) := by decide +kernel
theorem dJ5_init_d00df_33 : decode cJ5_init_d00df 33 = .ok (.aload_n 0, 1) := by decide +kernel
theorem dJ5_init_d00df_34 : decode cJ5_init_d00df 34 = .ok (.iconst 1, 1) := by decide +kernel
theorem dJ5_init_d00df_35 : decode cJ5_init_d00df 35 = .ok (.putfield 22, 3) := by decide +kernel
theorem dJ5_init_d00df_38 : decode cJ5_init_d00df 38 = .ok (.return_, 1) := by decide +kernel
theorem dJ5_length_8abf5_0 : decode cJ5_length_8abf5 0 = .ok (.aload_n 0, 1) := by decide +kernel
theorem dJ5_length_8abf5_1 : decode cJ5_length_8abf5 1 = .ok (.getfield 79, 3) := by decide +kernel
theorem dJ5_length_8abf5_4 : decode cJ5_length_8abf5 4 = .ok (.ireturn, 1) := by decide +kernel
theorem dJ5_ensureCapacityInternal_d00df_0 : decode cJ5_ensureCapacityInternal_d00df 0 = .ok (.aload_n 0, 1) := by decide +kernel
theorem dJ5_ensureCapacityInternal_d00df_1 : decode cJ5_ensureCapacityInternal_d00df 1 = .ok (.getfield 15, 3) := by decide +kernel
theorem dJ5_ensureCapacityInternal_d00df_4 : decode cJ5_ensureCapacityInternal_d00df 4 = .ok (.arraylength, 1) := by decide +kernel
theorem dJ5_ensureCapacityInternal_d00df_5 : decode cJ5_ensureCapacityInternal_d00df 5 = .ok (.aload_n 0, 1) := by decide +kernel
theorem dJ5_ensureCapacityInternal_d00df_6 : decode cJ5_ensureCapacityInternal_d00df 6 = .ok (.getfield 22, 3) := by decide +kernel
theorem dJ5_ensureCapacityInternal_d00df_9 : decode cJ5_ensureCapacityInternal_d00df 9 = .ok (.ishr, 1) := by decide +kernel
theorem dJ5_ensureCapacityInternal_d00df_10 : decode cJ5_ensureCapacityInternal_d00df 10 = .ok (.istore_n 2, 1) := by decide +kernel
theorem dJ5_ensureCapacityInternal_d00df_11 : decode cJ5_ensureCapacityInternal_d00df 11 = .ok (.iload_n 1, 1) := by decide +kernel
theorem dJ5_ensureCapacityInternal_d00df_12 : decode cJ5_ensureCapacityInternal_d00df 12 = .ok (.iload_n 2, 1) := by decide +kernel
theorem dJ5_ensureCapacityInternal_d00df_13 : decode cJ5_ensureCapacityInternal_d00df 13 = .ok (.isub, 1) := by decide +kernel
theorem dJ5_ensureCapacityInternal_d00df_14 : decode cJ5_ensureCapacityInternal_d00df 14 = .ok (.ifCond .le 24, 3) := by decide +kernel
theorem dJ5_ensureCapacityInternal_d00df_17 : decode cJ5_ensureCapacityInternal_d00df 17 = .ok (.aload_n 0, 1) := by decide +kernel
theorem dJ5_ensureCapacityInternal_d00df_18 : decode cJ5_ensureCapacityInternal_d00df 18 = .ok (.aload_n 0, 1) := by decide +kernel
theorem dJ5_ensureCapacityInternal_d00df_19 : decode cJ5_ensureCapacityInternal_d00df 19 = .ok (.getfield 15, 3) := by decide +kernel
theorem dJ5_ensureCapacityInternal_d00df_22 : decode cJ5_ensureCapacityInternal_d00df 22 = .ok (.aload_n 0, 1) := by decide +kernel
theorem dJ5_ensureCapacityInternal_d00df_23 : decode cJ5_ensureCapacityInternal_d00df 23 = .ok (.iload_n 1, 1) := by decide +kernel
theorem dJ5_ensureCapacityInternal_d00df_24 : decode cJ5_ensureCapacityInternal_d00df 24 = .ok (.invokevirtual 104, 3) := by decide +kernel
theorem dJ5_ensureCapacityInternal_d00df_27 : decode cJ5_ensureCapacityInternal_d00df 27 = .ok (.aload_n 0, 1) := by decide +kernel
theorem dJ5_ensureCapacityInternal_d00df_28 : decode cJ5_ensureCapacityInternal_d00df 28 = .ok (.getfield 22, 3) := by decide +kernel
theorem dJ5_ensureCapacityInternal_d00df_31 : decode cJ5_ensureCapacityInternal_d00df 31 = .ok (.ishl, 1) := by decide +kernel
theorem dJ5_ensureCapacityInternal_d00df_32 : decode cJ5_ensureCapacityInternal_d00df 32 = .ok (.invokestatic 108, 3) := by decide +kernel
theorem dJ5_ensureCapacityInternal_d00df_35 : decode cJ5_ensureCapacityInternal_d00df 35 = .ok (.putfield 15, 3) := by decide +kernel
theorem dJ5_ensureCapacityInternal_d00df_38 : decode cJ5_ensureCapacityInternal_d00df 38 = .ok (.return_, 1) := by decide +kernel
theorem dJ5_newCapacity_0f7a4_0 : decode cJ5_newCapacity_0f7a4 0 = .ok (.aload_n 0, 1) := by decide +kernel
theorem dJ5_newCapacity_0f7a4_1 : decode cJ5_newCapacity_0f7a4 1 = .ok (.getfield 15, 3) := by decide +kernel
theorem dJ5_newCapacity_0f7a4_4 : decode cJ5_newCapacity_0f7a4 4 = .ok (.arraylength, 1) := by decide +kernel
theorem dJ5_newCapacity_0f7a4_5 : decode cJ5_newCapacity_0f7a4 5 = .ok (.istore_n 2, 1) := by decide +kernel
theorem dJ5_newCapacity_0f7a4_6 : decode cJ5_newCapacity_0f7a4 6 = .ok (.iload_n 1, 1) := by decide +kernel
theorem dJ5_newCapacity_0f7a4_7 : decode cJ5_newCapacity_0f7a4 7 = .ok (.aload_n 0, 1) := by decide +kernel
theorem dJ5_newCapacity_0f7a4_8 : decode cJ5_newCapacity_0f7a4 8 = .ok (.getfield 22, 3) := by decide +kernel
theorem dJ5_newCapacity_0f7a4_11 : decode cJ5_newCapacity_0f7a4 11 = .ok (.ishl, 1) := by decide +kernel
theorem dJ5_newCapacity_0f7a4_12 : decode cJ5_newCapacity_0f7a4 12 = .ok (.istore_n 3, 1) := by decide +kernel
theorem dJ5_newCapacity_0f7a4_13 : decode cJ5_newCapacity_0f7a4 13 = .ok (.iload_n 3, 1) := by decide +kernel
theorem dJ5_newCapacity_0f7a4_14 : decode cJ5_newCapacity_0f7a4 14 = .ok (.iload_n 2, 1) := by decide +kernel
theorem dJ5_newCapacity_0f7a4_15 : decode cJ5_newCapacity_0f7a4 15 = .ok (.isub, 1) := by decide +kernel
theorem dJ5_newCapacity_0f7a4_16 : decode cJ5_newCapacity_0f7a4 16 = .ok (.istore 4, 2) := by decide +kernel
theorem dJ5_newCapacity_0f7a4_18 : decode cJ5_newCapacity_0f7a4 18 = .ok (.iload_n 2, 1) := by decide +kernel
theorem dJ5_newCapacity_0f7a4_19 : decode cJ5_newCapacity_0f7a4 19 = .ok (.iload 4, 2) := by decide +kernel
theorem dJ5_newCapacity_0f7a4_21 : decode cJ5_newCapacity_0f7a4 21 = .ok (.iload_n 2, 1) := by decide +kernel
theorem dJ5_newCapacity_0f7a4_22 : decode cJ5_newCapacity_0f7a4 22 = .ok (.iconst 2, 1) := by decide +kernel
theorem dJ5_newCapacity_0f7a4_23 : decode cJ5_newCapacity_0f7a4 23 = .ok (.aload_n 0, 1) := by decide +kernel
theorem dJ5_newCapacity_0f7a4_24 : decode cJ5_newCapacity_0f7a4 24 = .ok (.getfield 22, 3) := by decide +kernel
theorem dJ5_newCapacity_0f7a4_27 : decode cJ5_newCapacity_0f7a4 27 = .ok (.ishl, 1) := by decide +kernel
theorem dJ5_newCapacity_0f7a4_28 : decode cJ5_newCapacity_0f7a4 28 = .ok (.iadd, 1) := by decide +kernel
theorem dJ5_newCapacity_0f7a4_29 : decode cJ5_newCapacity_0f7a4 29 = .ok (.invokestatic 114, 3) := by decide +kernel
theorem dJ5_newCapacity_0f7a4_32 : decode cJ5_newCapacity_0f7a4 32 = .ok (.istore 5, 2) := by decide +kernel
theorem dJ5_newCapacity_0f7a4_34 : decode cJ5_newCapacity_0f7a4 34 = .ok (.iload 5, 2) := by decide +kernel
theorem dJ5_newCapacity_0f7a4_36 : decode cJ5_newCapacity_0f7a4 36 = .ok (.ldc 39, 2) := by decide +kernel
theorem dJ5_newCapacity_0f7a4_38 : decode cJ5_newCapacity_0f7a4 38 = .ok (.if_icmp .ne 13, 3) := by decide +kernel
theorem dJ5_newCapacity_0f7a4_41 : decode cJ5_newCapacity_0f7a4 41 = .ok (.new 120, 3) := by decide +kernel
theorem dJ5_newCapacity_0f7a4_44 : decode cJ5_newCapacity_0f7a4 44 = .ok (.dup, 1) := by decide +kernel
theorem dJ5_newCapacity_0f7a4_45 : decode cJ5_newCapacity_0f7a4 45 = .ok (.ldc 122, 2) := by decide +kernel
theorem dJ5_newCapacity_0f7a4_47 : decode cJ5_newCapacity_0f7a4 47 = .ok (.invokespecial 124, 3) := by decide +kernel
theorem dJ5_newCapacity_0f7a4_50 : decode cJ5_newCapacity_0f7a4 50 = .ok (.athrow, 1) := by decide +kernel
theorem dJ5_newCapacity_0f7a4_51 : decode cJ5_newCapacity_0f7a4 51 = .ok (.iload 5, 2) := by decide +kernel
theorem dJ5_newCapacity_0f7a4_53 : decode cJ5_newCapacity_0f7a4 53 = .ok (.aload_n 0, 1) := by decide +kernel
theorem dJ5_newCapacity_0f7a4_54 : decode cJ5_newCapacity_0f7a4 54 = .ok (.getfield 22, 3) := by decide +kernel
theorem dJ5_newCapacity_0f7a4_57 : decode cJ5_newCapacity_0f7a4 57 = .ok (.ishr, 1) := by decide +kernel
theorem dJ5_newCapacity_0f7a4_58 : decode cJ5_newCapacity_0f7a4 58 = .ok (.ireturn, 1) := by decide +kernel
theorem dJ5_inflate_da8c8_0 : decode cJ5_inflate_da8c8 0 = .ok (.aload_n 0, 1) := by decide +kernel
theorem dJ5_inflate_da8c8_1 : decode cJ5_inflate_da8c8 1 = .ok (.invokevirtual 83, 3) := by decide +kernel
theorem dJ5_inflate_da8c8_4 : decode cJ5_inflate_da8c8 4 = .ok (.ifCond .ne 4, 3) := by decide +kernel
theorem dJ5_inflate_da8c8_7 : decode cJ5_inflate_da8c8 7 = .ok (.return_, 1) := by decide +kernel
theorem dJ5_inflate_da8c8_8 : decode cJ5_inflate_da8c8 8 = .ok (.aload_n 0, 1) := by decide +kernel
theorem dJ5_inflate_da8c8_9 : decode cJ5_inflate_da8c8 9 = .ok (.getfield 15, 3) := by decide +kernel
theorem dJ5_inflate_da8c8_12 : decode cJ5_inflate_da8c8 12 = .ok (.arraylength, 1) := by decide +kernel
theorem dJ5_inflate_da8c8_13 : decode cJ5_inflate_da8c8 13 = .ok (.invokestatic 26, 3) := by decide +kernel
theorem dJ5_inflate_da8c8_16 : decode cJ5_inflate_da8c8 16 = .ok (.astore_n 1, 1) := by decide +kernel
theorem dJ5_inflate_da8c8_17 : decode cJ5_inflate_da8c8 17 = .ok (.aload_n 0, 1) := by decide +kernel
theorem dJ5_inflate_da8c8_18 : decode cJ5_inflate_da8c8 18 = .ok (.getfield 15, 3) := by decide +kernel
theorem dJ5_inflate_da8c8_21 : decode cJ5_inflate_da8c8 21 = .ok (.iconst 0, 1) := by decide +kernel
theorem dJ5_inflate_da8c8_22 : decode cJ5_inflate_da8c8 22 = .ok (.aload_n 1, 1) := by decide +kernel
theorem dJ5_inflate_da8c8_23 : decode cJ5_inflate_da8c8 23 = .ok (.iconst 0, 1) := by decide +kernel
theorem dJ5_inflate_da8c8_24 : decode cJ5_inflate_da8c8 24 = .ok (.aload_n 0, 1) := by decide +kernel
theorem dJ5_inflate_da8c8_25 : decode cJ5_inflate_da8c8 25 = .ok (.getfield 79, 3) := by decide +kernel
theorem dJ5_inflate_da8c8_28 : decode cJ5_inflate_da8c8 28 = .ok (.invokestatic 125, 3) := by decide +kernel
theorem dJ5_inflate_da8c8_31 : decode cJ5_inflate_da8c8 31 = .ok (.aload_n 0, 1) := by decide +kernel
theorem dJ5_inflate_da8c8_32 : decode cJ5_inflate_da8c8 32 = .ok (.aload_n 1, 1) := by decide +kernel
theorem dJ5_inflate_da8c8_33 : decode cJ5_inflate_da8c8 33 = .ok (.putfield 15, 3) := by decide +kernel
theorem dJ5_inflate_da8c8_36 : decode cJ5_inflate_da8c8 36 = .ok (.aload_n 0, 1) := by decide +kernel
theorem dJ5_inflate_da8c8_37 : decode cJ5_inflate_da8c8 37 = .ok (.iconst 1, 1) := by decide +kernel
theorem dJ5_inflate_da8c8_38 : decode cJ5_inflate_da8c8 38 = .ok (.putfield 22, 3) := by decide +kernel
theorem dJ5_inflate_da8c8_41 : decode cJ5_inflate_da8c8 41 = .ok (.return_, 1) := by decide +kernel
theorem dJ5_setLength_d00df_0 : decode cJ5_setLength_d00df 0 = .ok (.iload_n 1, 1) := by decide +kernel
theorem dJ5_setLength_d00df_1 : decode cJ5_setLength_d00df 1 = .ok (.ifCond .ge 12, 3) := by decide +kernel
theorem dJ5_setLength_d00df_4 : decode cJ5_setLength_d00df 4 = .ok (.new 129, 3) := by decide +kernel
theorem dJ5_setLength_d00df_7 : decode cJ5_setLength_d00df 7 = .ok (.dup, 1) := by decide +kernel
theorem dJ5_setLength_d00df_8 : decode cJ5_setLength_d00df 8 = .ok (.iload_n 1, 1) := by decide +kernel
theorem dJ5_setLength_d00df_9 : decode cJ5_setLength_d00df 9 = .ok (.invokespecial 131, 3) := by decide +kernel
theorem dJ5_setLength_d00df_12 : decode cJ5_setLength_d00df 12 = .ok (.athrow, 1) := by decide +kernel
theorem dJ5_setLength_d00df_13 : decode cJ5_setLength_d00df 13 = .ok (.aload_n 0, 1) := by decide +kernel
theorem dJ5_setLength_d00df_14 : decode cJ5_setLength_d00df 14 = .ok (.iload_n 1, 1) := by decide +kernel
theorem dJ5_setLength_d00df_15 : decode cJ5_setLength_d00df 15 = .ok (.invokevirtual 100, 3) := by decide +kernel
theorem dJ5_setLength_d00df_18 : decode cJ5_setLength_d00df 18 = .ok (.aload_n 0, 1) := by decide +kernel
theorem dJ5_setLength_d00df_19 : decode cJ5_setLength_d00df 19 = .ok (.getfield 79, 3) := by decide +kernel
theorem dJ5_setLength_d00df_22 : decode cJ5_setLength_d00df 22 = .ok (.iload_n 1, 1) := by decide +kernel
theorem dJ5_setLength_d00df_23 : decode cJ5_setLength_d00df 23 = .ok (.if_icmp .ge 40, 3) := by decide +kernel
theorem dJ5_setLength_d00df_26 : decode cJ5_setLength_d00df 26 = .ok (.aload_n 0, 1) := by decide +kernel
theorem dJ5_setLength_d00df_27 : decode cJ5_setLength_d00df 27 = .ok (.invokevirtual 83, 3) := by decide +kernel
theorem dJ5_setLength_d00df_30 : decode cJ5_setLength_d00df 30 = .ok (.ifCond .eq 18, 3) := by decide +kernel
theorem dJ5_setLength_d00df_33 : decode cJ5_setLength_d00df 33 = .ok (.aload_n 0, 1) := by decide +kernel
theorem dJ5_setLength_d00df_34 : decode cJ5_setLength_d00df 34 = .ok (.getfield 15, 3) := by decide +kernel
theorem dJ5_setLength_d00df_37 : decode cJ5_setLength_d00df 37 = .ok (.aload_n 0, 1) := by decide +kernel
theorem dJ5_setLength_d00df_38 : decode cJ5_setLength_d00df 38 = .ok (.getfield 79, 3) := by decide +kernel
theorem dJ5_setLength_d00df_41 : decode cJ5_setLength_d00df 41 = .ok (.iload_n 1, 1) := by decide +kernel
theorem dJ5_setLength_d00df_42 : decode cJ5_setLength_d00df 42 = .ok (.invokestatic 133, 3) := by decide +kernel
theorem dJ5_setLength_d00df_45 : decode cJ5_setLength_d00df 45 = .ok (.goto 31, 3) := by decide +kernel
theorem dJ5_setLength_d00df_48 : decode cJ5_setLength_d00df 48 = .ok (.aload_n 0, 1) := by decide +kernel
theorem dJ5_setLength_d00df_49 : decode cJ5_setLength_d00df 49 = .ok (.getfield 15, 3) := by decide +kernel
theorem dJ5_setLength_d00df_52 : decode cJ5_setLength_d00df 52 = .ok (.aload_n 0, 1) := by decide +kernel
theorem dJ5_setLength_d00df_53 : decode cJ5_setLength_d00df 53 = .ok (.getfield 79, 3) := by decide +kernel
theorem dJ5_setLength_d00df_56 : decode cJ5_setLength_d00df 56 = .ok (.iload_n 1, 1) := by decide +kernel
theorem dJ5_setLength_d00df_57 : decode cJ5_setLength_d00df 57 = .ok (.invokestatic 137, 3) := by decide +kernel
theorem dJ5_setLength_d00df_60 : decode cJ5_setLength_d00df 60 = .ok (.goto 16, 3) := by decide +kernel
theorem dJ5_setLength_d00df_63 : decode cJ5_setLength_d00df 63 = .ok (.aload_n 0, 1) := by decide +kernel
theorem dJ5_setLength_d00df_64 : decode cJ5_setLength_d00df 64 = .ok (.getfield 79, 3) := by decide +kernel
theorem dJ5_setLength_d00df_67 : decode cJ5_setLength_d00df 67 = .ok (.iload_n 1, 1) := by decide +kernel
theorem dJ5_setLength_d00df_68 : decode cJ5_setLength_d00df 68 = .ok (.if_icmp .le 8, 3) := by decide +kernel
theorem dJ5_setLength_d00df_71 : decode cJ5_setLength_d00df 71 = .ok (.aload_n 0, 1) := by decide +kernel
theorem dJ5_setLength_d00df_72 : decode cJ5_setLength_d00df 72 = .ok (.iconst 1, 1) := by decide +kernel
theorem dJ5_setLength_d00df_73 : decode cJ5_setLength_d00df 73 = .ok (.putfield 73, 3) := by decide +kernel
theorem dJ5_setLength_d00df_76 : decode cJ5_setLength_d00df 76 = .ok (.aload_n 0, 1) := by decide +kernel
theorem dJ5_setLength_d00df_77 : decode cJ5_setLength_d00df 77 = .ok (.iload_n 1, 1) := by decide +kernel
theorem dJ5_setLength_d00df_78 : decode cJ5_setLength_d00df 78 = .ok (.putfield 79, 3) := by decide +kernel
theorem dJ5_setLength_d00df_81 : decode cJ5_setLength_d00df 81 = .ok (.return_, 1) := by decide +kernel
theorem dJ5_charAt_5068e_0 : decode cJ5_charAt_5068e 0 = .ok (.aload_n 0, 1) := by decide +kernel
theorem dJ5_charAt_5068e_1 : decode cJ5_charAt_5068e 1 = .ok (.getfield 22, 3) := by decide +kernel
theorem dJ5_charAt_5068e_4 : decode cJ5_charAt_5068e 4 = .ok (.istore_n 2, 1) := by decide +kernel
theorem dJ5_charAt_5068e_5 : decode cJ5_charAt_5068e 5 = .ok (.aload_n 0, 1) := by decide +kernel
theorem dJ5_charAt_5068e_6 : decode cJ5_charAt_5068e 6 = .ok (.getfield 15, 3) := by decide +kernel
theorem dJ5_charAt_5068e_9 : decode cJ5_charAt_5068e 9 = .ok (.astore_n 3, 1) := by decide +kernel
theorem dJ5_charAt_5068e_10 : decode cJ5_charAt_5068e 10 = .ok (.aload_n 0, 1) := by decide +kernel
theorem dJ5_charAt_5068e_11 : decode cJ5_charAt_5068e 11 = .ok (.getfield 79, 3) := by decide +kernel
theorem dJ5_charAt_5068e_14 : decode cJ5_charAt_5068e 14 = .ok (.aload_n 3, 1) := by decide +kernel
theorem dJ5_charAt_5068e_15 : decode cJ5_charAt_5068e 15 = .ok (.arraylength, 1) := by decide +kernel
theorem dJ5_charAt_5068e_16 : decode cJ5_charAt_5068e 16 = .ok (.iload_n 2, 1) := by decide +kernel
theorem dJ5_charAt_5068e_17 : decode cJ5_charAt_5068e 17 = .ok (.ishr, 1) := by decide +kernel
theorem dJ5_charAt_5068e_18 : decode cJ5_charAt_5068e 18 = .ok (.invokestatic 138, 3) := by decide +kernel
theorem dJ5_charAt_5068e_21 : decode cJ5_charAt_5068e 21 = .ok (.istore 4, 2) := by decide +kernel
theorem dJ5_charAt_5068e_23 : decode cJ5_charAt_5068e 23 = .ok (.iload_n 1, 1) := by decide +kernel
theorem dJ5_charAt_5068e_24 : decode cJ5_charAt_5068e 24 = .ok (.iload 4, 2) := by decide +kernel
theorem dJ5_charAt_5068e_26 : decode cJ5_charAt_5068e 26 = .ok (.invokestatic 144, 3) := by decide +kernel
theorem dJ5_charAt_5068e_29 : decode cJ5_charAt_5068e 29 = .ok (.iload_n 2, 1) := by decide +kernel
theorem dJ5_charAt_5068e_30 : decode cJ5_charAt_5068e 30 = .ok (.ifCond .ne 12, 3) := by decide +kernel
theorem dJ5_charAt_5068e_33 : decode cJ5_charAt_5068e 33 = .ok (.aload_n 3, 1) := by decide +kernel
theorem dJ5_charAt_5068e_34 : decode cJ5_charAt_5068e 34 = .ok (.iload_n 1, 1) := by decide +kernel
theorem dJ5_charAt_5068e_35 : decode cJ5_charAt_5068e 35 = .ok (.baload, 1) := by decide +kernel
theorem dJ5_charAt_5068e_36 : decode cJ5_charAt_5068e 36 = .ok (.sipush 255, 3) := by decide +kernel
theorem dJ5_charAt_5068e_39 : decode cJ5_charAt_5068e 39 = .ok (.iand, 1) := by decide +kernel
theorem dJ5_charAt_5068e_40 : decode cJ5_charAt_5068e 40 = .ok (.i2c, 1) := by decide +kernel
theorem dJ5_charAt_5068e_41 : decode cJ5_charAt_5068e 41 = .ok (.ireturn, 1) := by decide +kernel
theorem dJ5_charAt_5068e_42 : decode cJ5_charAt_5068e 42 = .ok (.aload_n 3, 1) := by decide +kernel
theorem dJ5_charAt_5068e_43 : decode cJ5_charAt_5068e 43 = .ok (.iload_n 1, 1) := by decide +kernel
theorem dJ5_charAt_5068e_44 : decode cJ5_charAt_5068e 44 = .ok (.invokestatic 148, 3) := by decide +kernel
theorem dJ5_charAt_5068e_47 : decode cJ5_charAt_5068e 47 = .ok (.ireturn, 1) := by decide +kernel
theorem dJ5_append_cf1ce_0 : decode cJ5_append_cf1ce 0 = .ok (.aload_n 1, 1) := by decide +kernel
theorem dJ5_append_cf1ce_1 : decode cJ5_append_cf1ce 1 = .ok (.ifnonnull 8, 3) := by decide +kernel
theorem dJ5_append_cf1ce_4 : decode cJ5_append_cf1ce 4 = .ok (.aload_n 0, 1) := by decide +kernel
theorem dJ5_append_cf1ce_5 : decode cJ5_append_cf1ce 5 = .ok (.invokevirtual 204, 3) := by decide +kernel
theorem dJ5_append_cf1ce_8 : decode cJ5_append_cf1ce 8 = .ok (.areturn, 1) := by decide +kernel
theorem dJ5_append_cf1ce_9 : decode cJ5_append_cf1ce 9 = .ok (.aload_n 1, 1) := by decide +kernel
theorem dJ5_append_cf1ce_10 : decode cJ5_append_cf1ce 10 = .ok (.invokevirtual 32, 3) := by decide +kernel
theorem dJ5_append_cf1ce_13 : decode cJ5_append_cf1ce 13 = .ok (.istore_n 2, 1) := by decide +kernel
theorem dJ5_append_cf1ce_14 : decode cJ5_append_cf1ce 14 = .ok (.aload_n 0, 1) := by decide +kernel
theorem dJ5_append_cf1ce_15 : decode cJ5_append_cf1ce 15 = .ok (.aload_n 0, 1) := by decide +kernel
theorem dJ5_append_cf1ce_16 : decode cJ5_append_cf1ce 16 = .ok (.getfield 79, 3) := by decide +kernel
theorem dJ5_append_cf1ce_19 : decode cJ5_append_cf1ce 19 = .ok (.iload_n 2, 1) := by decide +kernel
theorem dJ5_append_cf1ce_20 : decode cJ5_append_cf1ce 20 = .ok (.iadd, 1) := by decide +kernel
theorem dJ5_append_cf1ce_21 : decode cJ5_append_cf1ce 21 = .ok (.invokevirtual 100, 3) := by decide +kernel
theorem dJ5_append_cf1ce_24 : decode cJ5_append_cf1ce 24 = .ok (.aload_n 0, 1) := by decide +kernel
theorem dJ5_append_cf1ce_25 : decode cJ5_append_cf1ce 25 = .ok (.aload_n 0, 1) := by decide +kernel
theorem dJ5_append_cf1ce_26 : decode cJ5_append_cf1ce 26 = .ok (.getfield 79, 3) := by decide +kernel
theorem dJ5_append_cf1ce_29 : decode cJ5_append_cf1ce 29 = .ok (.aload_n 1, 1) := by decide +kernel
theorem dJ5_append_cf1ce_30 : decode cJ5_append_cf1ce 30 = .ok (.invokevirtual 208, 3) := by decide +kernel
theorem dJ5_append_cf1ce_33 : decode cJ5_append_cf1ce 33 = .ok (.aload_n 0, 1) := by decide +kernel
theorem dJ5_append_cf1ce_34 : decode cJ5_append_cf1ce 34 = .ok (.dup, 1) := by decide +kernel
theorem dJ5_append_cf1ce_35 : decode cJ5_append_cf1ce 35 = .ok (.getfield 79, 3) := by decide +kernel
theorem dJ5_append_cf1ce_38 : decode cJ5_append_cf1ce 38 = .ok (.iload_n 2, 1) := by decide +kernel
theorem dJ5_append_cf1ce_39 : decode cJ5_append_cf1ce 39 = .ok (.iadd, 1) := by decide +kernel
theorem dJ5_append_cf1ce_40 : decode cJ5_append_cf1ce 40 = .ok (.putfield 79, 3) := by decide +kernel
theorem dJ5_append_cf1ce_43 : decode cJ5_append_cf1ce 43 = .ok (.aload_n 0, 1) := by decide +kernel
theorem dJ5_append_cf1ce_44 : decode cJ5_append_cf1ce 44 = .ok (.areturn, 1) := by decide +kernel
theorem dJ5_appendNull_278bc_0 : decode cJ5_appendNull_278bc 0 = .ok (.aload_n 0, 1) := by decide +kernel
theorem dJ5_appendNull_278bc_1 : decode cJ5_appendNull_278bc 1 = .ok (.aload_n 0, 1) := by decide +kernel
theorem dJ5_appendNull_278bc_2 : decode cJ5_appendNull_278bc 2 = .ok (.getfield 79, 3) := by decide +kernel
theorem dJ5_appendNull_278bc_5 : decode cJ5_appendNull_278bc 5 = .ok (.iconst 4, 1) := by decide +kernel
theorem dJ5_appendNull_278bc_6 : decode cJ5_appendNull_278bc 6 = .ok (.iadd, 1) := by decide +kernel
theorem dJ5_appendNull_278bc_7 : decode cJ5_appendNull_278bc 7 = .ok (.invokevirtual 100, 3) := by decide +kernel
theorem dJ5_appendNull_278bc_10 : decode cJ5_appendNull_278bc 10 = .ok (.aload_n 0, 1) := by decide +kernel
theorem dJ5_appendNull_278bc_11 : decode cJ5_appendNull_278bc 11 = .ok (.getfield 79, 3) := by decide +kernel
theorem dJ5_appendNull_278bc_14 : decode cJ5_appendNull_278bc 14 = .ok (.istore_n 1, 1) := by decide +kernel
theorem dJ5_appendNull_278bc_15 : decode cJ5_appendNull_278bc 15 = .ok (.aload_n 0, 1) := by decide +kernel
theorem dJ5_appendNull_278bc_16 : decode cJ5_appendNull_278bc 16 = .ok (.getfield 15, 3) := by decide +kernel
theorem dJ5_appendNull_278bc_19 : decode cJ5_appendNull_278bc 19 = .ok (.astore_n 2, 1) := by decide +kernel
theorem dJ5_appendNull_278bc_20 : decode cJ5_appendNull_278bc 20 = .ok (.aload_n 0, 1) := by decide +kernel
theorem dJ5_appendNull_278bc_21 : decode cJ5_appendNull_278bc 21 = .ok (.invokevirtual 83, 3) := by decide +kernel
theorem dJ5_appendNull_278bc_24 : decode cJ5_appendNull_278bc 24 = .ok (.ifCond .eq 38, 3) := by decide +kernel
theorem dJ5_appendNull_278bc_27 : decode cJ5_appendNull_278bc 27 = .ok (.aload_n 2, 1) := by decide +kernel
theorem dJ5_appendNull_278bc_28 : decode cJ5_appendNull_278bc 28 = .ok (.iload_n 1, 1) := by decide +kernel
theorem dJ5_appendNull_278bc_29 : decode cJ5_appendNull_278bc 29 = .ok (.iinc 1 1, 3) := by decide +kernel
theorem dJ5_appendNull_278bc_32 : decode cJ5_appendNull_278bc 32 = .ok (.bipush 110, 2) := by decide +kernel
theorem dJ5_appendNull_278bc_34 : decode cJ5_appendNull_278bc 34 = .ok (.bastore, 1) := by decide +kernel
theorem dJ5_appendNull_278bc_35 : decode cJ5_appendNull_278bc 35 = .ok (.aload_n 2, 1) := by decide +kernel
theorem dJ5_appendNull_278bc_36 : decode cJ5_appendNull_278bc 36 = .ok (.iload_n 1, 1) := by decide +kernel
theorem dJ5_appendNull_278bc_37 : decode cJ5_appendNull_278bc 37 = .ok (.iinc 1 1, 3) := by decide +kernel
theorem dJ5_appendNull_278bc_40 : decode cJ5_appendNull_278bc 40 = .ok (.bipush 117, 2) := by decide +kernel
theorem dJ5_appendNull_278bc_42 : decode cJ5_appendNull_278bc 42 = .ok (.bastore, 1) := by decide +kernel
theorem dJ5_appendNull_278bc_43 : decode cJ5_appendNull_278bc 43 = .ok (.aload_n 2, 1) := by decide +kernel
theorem dJ5_appendNull_278bc_44 : decode cJ5_appendNull_278bc 44 = .ok (.iload_n 1, 1) := by decide +kernel
theorem dJ5_appendNull_278bc_45 : decode cJ5_appendNull_278bc 45 = .ok (.iinc 1 1, 3) := by decide +kernel
theorem dJ5_appendNull_278bc_48 : decode cJ5_appendNull_278bc 48 = .ok (.bipush 108, 2) := by decide +kernel
theorem dJ5_appendNull_278bc_50 : decode cJ5_appendNull_278bc 50 = .ok (.bastore, 1) := by decide +kernel
theorem dJ5_appendNull_278bc_51 : decode cJ5_appendNull_278bc 51 = .ok (.aload_n 2, 1) := by decide +kernel
theorem dJ5_appendNull_278bc_52 : decode cJ5_appendNull_278bc 52 = .ok (.iload_n 1, 1) := by decide +kernel
theorem dJ5_appendNull_278bc_53 : decode cJ5_appendNull_278bc 53 = .ok (.iinc 1 1, 3) := by decide +kernel
theorem dJ5_appendNull_278bc_56 : decode cJ5_appendNull_278bc 56 = .ok (.bipush 108, 2) := by decide +kernel
theorem dJ5_appendNull_278bc_58 : decode cJ5_appendNull_278bc 58 = .ok (.bastore, 1) := by decide +kernel
theorem dJ5_appendNull_278bc_59 : decode cJ5_appendNull_278bc 59 = .ok (.goto 17, 3) := by decide +kernel
theorem dJ5_appendNull_278bc_62 : decode cJ5_appendNull_278bc 62 = .ok (.aload_n 2, 1) := by decide +kernel
theorem dJ5_appendNull_278bc_63 : decode cJ5_appendNull_278bc 63 = .ok (.iload_n 1, 1) := by decide +kernel
theorem dJ5_appendNull_278bc_64 : decode cJ5_appendNull_278bc 64 = .ok (.bipush 110, 2) := by decide +kernel
theorem dJ5_appendNull_278bc_66 : decode cJ5_appendNull_278bc 66 = .ok (.bipush 117, 2) := by decide +kernel
theorem dJ5_appendNull_278bc_68 : decode cJ5_appendNull_278bc 68 = .ok (.bipush 108, 2) := by decide +kernel
theorem dJ5_appendNull_278bc_70 : decode cJ5_appendNull_278bc 70 = .ok (.bipush 108, 2) := by decide +kernel
theorem dJ5_appendNull_278bc_72 : decode cJ5_appendNull_278bc 72 = .ok (.invokestatic 226, 3) := by decide +kernel
theorem dJ5_appendNull_278bc_75 : decode cJ5_appendNull_278bc 75 = .ok (.istore_n 1, 1) := by decide +kernel
theorem dJ5_appendNull_278bc_76 : decode cJ5_appendNull_278bc 76 = .ok (.aload_n 0, 1) := by decide +kernel
theorem dJ5_appendNull_278bc_77 : decode cJ5_appendNull_278bc 77 = .ok (.iload_n 1, 1) := by decide +kernel
theorem dJ5_appendNull_278bc_78 : decode cJ5_appendNull_278bc 78 = .ok (.putfield 79, 3) := by decide +kernel
theorem dJ5_appendNull_278bc_81 : decode cJ5_appendNull_278bc 81 = .ok (.aload_n 0, 1) := by decide +kernel
theorem dJ5_appendNull_278bc_82 : decode cJ5_appendNull_278bc 82 = .ok (.areturn, 1) := by decide +kernel
theorem dJ5_append_3fe6f_0 : decode cJ5_append_3fe6f 0 = .ok (.aload_n 0, 1) := by decide +kernel
theorem dJ5_append_3fe6f_1 : decode cJ5_append_3fe6f 1 = .ok (.aload_n 0, 1) := by decide +kernel
theorem dJ5_append_3fe6f_2 : decode cJ5_append_3fe6f 2 = .ok (.getfield 79, 3) := by decide +kernel
theorem dJ5_append_3fe6f_5 : decode cJ5_append_3fe6f 5 = .ok (.iconst 1, 1) := by decide +kernel
theorem dJ5_append_3fe6f_6 : decode cJ5_append_3fe6f 6 = .ok (.iadd, 1) := by decide +kernel
theorem dJ5_append_3fe6f_7 : decode cJ5_append_3fe6f 7 = .ok (.invokevirtual 100, 3) := by decide +kernel
theorem dJ5_append_3fe6f_10 : decode cJ5_append_3fe6f 10 = .ok (.aload_n 0, 1) := by decide +kernel
theorem dJ5_append_3fe6f_11 : decode cJ5_append_3fe6f 11 = .ok (.invokevirtual 83, 3) := by decide +kernel
theorem dJ5_append_3fe6f_14 : decode cJ5_append_3fe6f 14 = .ok (.ifCond .eq 31, 3) := by decide +kernel
theorem dJ5_append_3fe6f_17 : decode cJ5_append_3fe6f 17 = .ok (.iload_n 1, 1) := by decide +kernel
theorem dJ5_append_3fe6f_18 : decode cJ5_append_3fe6f 18 = .ok (.invokestatic 191, 3) := by decide +kernel
theorem dJ5_append_3fe6f_21 : decode cJ5_append_3fe6f 21 = .ok (.ifCond .eq 24, 3) := by decide +kernel
theorem dJ5_append_3fe6f_24 : decode cJ5_append_3fe6f 24 = .ok (.aload_n 0, 1) := by decide +kernel
theorem dJ5_append_3fe6f_25 : decode cJ5_append_3fe6f 25 = .ok (.getfield 15, 3) := by decide +kernel
theorem dJ5_append_3fe6f_28 : decode cJ5_append_3fe6f 28 = .ok (.aload_n 0, 1) := by decide +kernel
theorem dJ5_append_3fe6f_29 : decode cJ5_append_3fe6f 29 = .ok (.dup, 1) := by decide +kernel
theorem dJ5_append_3fe6f_30 : decode cJ5_append_3fe6f 30 = .ok (.getfield 79, 3) := by decide +kernel
theorem dJ5_append_3fe6f_33 : decode cJ5_append_3fe6f 33 = .ok (.dup_x1, 1) := by decide +kernel
theorem dJ5_append_3fe6f_34 : decode cJ5_append_3fe6f 34 = .ok (.iconst 1, 1) := by decide +kernel
theorem dJ5_append_3fe6f_35 : decode cJ5_append_3fe6f 35 = .ok (.iadd, 1) := by decide +kernel
theorem dJ5_append_3fe6f_36 : decode cJ5_append_3fe6f 36 = .ok (.putfield 79, 3) := by decide +kernel
theorem dJ5_append_3fe6f_39 : decode cJ5_append_3fe6f 39 = .ok (.iload_n 1, 1) := by decide +kernel
theorem dJ5_append_3fe6f_40 : decode cJ5_append_3fe6f 40 = .ok (.i2b, 1) := by decide +kernel
theorem dJ5_append_3fe6f_41 : decode cJ5_append_3fe6f 41 = .ok (.bastore, 1) := by decide +kernel
theorem dJ5_append_3fe6f_42 : decode cJ5_append_3fe6f 42 = .ok (.goto 33, 3) := by decide +kernel
theorem dJ5_append_3fe6f_45 : decode cJ5_append_3fe6f 45 = .ok (.aload_n 0, 1) := by decide +kernel
theorem dJ5_append_3fe6f_46 : decode cJ5_append_3fe6f 46 = .ok (.invokevirtual 83, 3) := by decide +kernel
theorem dJ5_append_3fe6f_49 : decode cJ5_append_3fe6f 49 = .ok (.ifCond .eq 7, 3) := by decide +kernel
theorem dJ5_append_3fe6f_52 : decode cJ5_append_3fe6f 52 = .ok (.aload_n 0, 1) := by decide +kernel
theorem dJ5_append_3fe6f_53 : decode cJ5_append_3fe6f 53 = .ok (.invokevirtual 195, 3) := by decide +kernel
theorem dJ5_append_3fe6f_56 : decode cJ5_append_3fe6f 56 = .ok (.aload_n 0, 1) := by decide +kernel
theorem dJ5_append_3fe6f_57 : decode cJ5_append_3fe6f 57 = .ok (.getfield 15, 3) := by decide +kernel
theorem dJ5_append_3fe6f_60 : decode cJ5_append_3fe6f 60 = .ok (.aload_n 0, 1) := by decide +kernel
theorem dJ5_append_3fe6f_61 : decode cJ5_append_3fe6f 61 = .ok (.dup, 1) := by decide +kernel
theorem dJ5_append_3fe6f_62 : decode cJ5_append_3fe6f 62 = .ok (.getfield 79, 3) := by decide +kernel
theorem dJ5_append_3fe6f_65 : decode cJ5_append_3fe6f 65 = .ok (.dup_x1, 1) := by decide +kernel
theorem dJ5_append_3fe6f_66 : decode cJ5_append_3fe6f 66 = .ok (.iconst 1, 1) := by decide +kernel
theorem dJ5_append_3fe6f_67 : decode cJ5_append_3fe6f 67 = .ok (.iadd, 1) := by decide +kernel
theorem dJ5_append_3fe6f_68 : decode cJ5_append_3fe6f 68 = .ok (.putfield 79, 3) := by decide +kernel
theorem dJ5_append_3fe6f_71 : decode cJ5_append_3fe6f 71 = .ok (.iload_n 1, 1) := by decide +kernel
theorem dJ5_append_3fe6f_72 : decode cJ5_append_3fe6f 72 = .ok (.invokestatic 197, 3) := by decide +kernel
theorem dJ5_append_3fe6f_75 : decode cJ5_append_3fe6f 75 = .ok (.aload_n 0, 1) := by decide +kernel
theorem dJ5_append_3fe6f_76 : decode cJ5_append_3fe6f 76 = .ok (.areturn, 1) := by decide +kernel
theorem dJ5_append_c97b9_0 : decode cJ5_append_c97b9 0 = .ok (.aload_n 0, 1) := by decide +kernel
theorem dJ5_append_c97b9_1 : decode cJ5_append_c97b9 1 = .ok (.getfield 79, 3) := by decide +kernel
theorem dJ5_append_c97b9_4 : decode cJ5_append_c97b9 4 = .ok (.istore_n 2, 1) := by decide +kernel
theorem dJ5_append_c97b9_5 : decode cJ5_append_c97b9 5 = .ok (.iload_n 2, 1) := by decide +kernel
theorem dJ5_append_c97b9_6 : decode cJ5_append_c97b9 6 = .ok (.iload_n 1, 1) := by decide +kernel
theorem dJ5_append_c97b9_7 : decode cJ5_append_c97b9 7 = .ok (.invokestatic 245, 3) := by decide +kernel
theorem dJ5_append_c97b9_10 : decode cJ5_append_c97b9 10 = .ok (.iadd, 1) := by decide +kernel
theorem dJ5_append_c97b9_11 : decode cJ5_append_c97b9 11 = .ok (.istore_n 3, 1) := by decide +kernel
theorem dJ5_append_c97b9_12 : decode cJ5_append_c97b9 12 = .ok (.aload_n 0, 1) := by decide +kernel
theorem dJ5_append_c97b9_13 : decode cJ5_append_c97b9 13 = .ok (.iload_n 3, 1) := by decide +kernel
theorem dJ5_append_c97b9_14 : decode cJ5_append_c97b9 14 = .ok (.invokevirtual 100, 3) := by decide +kernel
theorem dJ5_append_c97b9_17 : decode cJ5_append_c97b9 17 = .ok (.aload_n 0, 1) := by decide +kernel
theorem dJ5_append_c97b9_18 : decode cJ5_append_c97b9 18 = .ok (.invokevirtual 83, 3) := by decide +kernel
theorem dJ5_append_c97b9_21 : decode cJ5_append_c97b9 21 = .ok (.ifCond .eq 16, 3) := by decide +kernel
theorem dJ5_append_c97b9_24 : decode cJ5_append_c97b9 24 = .ok (.iload_n 1, 1) := by decide +kernel
theorem dJ5_append_c97b9_25 : decode cJ5_append_c97b9 25 = .ok (.iload_n 3, 1) := by decide +kernel
theorem dJ5_append_c97b9_26 : decode cJ5_append_c97b9 26 = .ok (.aload_n 0, 1) := by decide +kernel
theorem dJ5_append_c97b9_27 : decode cJ5_append_c97b9 27 = .ok (.getfield 15, 3) := by decide +kernel
theorem dJ5_append_c97b9_30 : decode cJ5_append_c97b9 30 = .ok (.invokestatic 248, 3) := by decide +kernel
theorem dJ5_append_c97b9_33 : decode cJ5_append_c97b9 33 = .ok (.pop, 1) := by decide +kernel
theorem dJ5_append_c97b9_34 : decode cJ5_append_c97b9 34 = .ok (.goto 14, 3) := by decide +kernel
theorem dJ5_append_c97b9_37 : decode cJ5_append_c97b9 37 = .ok (.iload_n 1, 1) := by decide +kernel
theorem dJ5_append_c97b9_38 : decode cJ5_append_c97b9 38 = .ok (.iload_n 2, 1) := by decide +kernel
theorem dJ5_append_c97b9_39 : decode cJ5_append_c97b9 39 = .ok (.iload_n 3, 1) := by decide +kernel
theorem dJ5_append_c97b9_40 : decode cJ5_append_c97b9 40 = .ok (.aload_n 0, 1) := by decide +kernel
theorem dJ5_append_c97b9_41 : decode cJ5_append_c97b9 41 = .ok (.getfield 15, 3) := by decide +kernel
theorem dJ5_append_c97b9_44 : decode cJ5_append_c97b9 44 = .ok (.invokestatic 251, 3) := by decide +kernel
theorem dJ5_append_c97b9_47 : decode cJ5_append_c97b9 47 = .ok (.pop, 1) := by decide +kernel
theorem dJ5_append_c97b9_48 : decode cJ5_append_c97b9 48 = .ok (.aload_n 0, 1) := by decide +kernel
theorem dJ5_append_c97b9_49 : decode cJ5_append_c97b9 49 = .ok (.iload_n 3, 1) := by decide +kernel
theorem dJ5_append_c97b9_50 : decode cJ5_append_c97b9 50 = .ok (.putfield 79, 3) := by decide +kernel
theorem dJ5_append_c97b9_53 : decode cJ5_append_c97b9 53 = .ok (.aload_n 0, 1) := by decide +kernel
theorem dJ5_append_c97b9_54 : decode cJ5_append_c97b9 54 = .ok (.areturn, 1) := by decide +kernel
theorem dJ5_getValue_6d5f1_0 : decode cJ5_getValue_6d5f1 0 = .ok (.aload_n 0, 1) := by decide +kernel
theorem dJ5_getValue_6d5f1_1 : decode cJ5_getValue_6d5f1 1 = .ok (.getfield 15, 3) := by decide +kernel
theorem dJ5_getValue_6d5f1_4 : decode cJ5_getValue_6d5f1 4 = .ok (.areturn, 1) := by decide +kernel
theorem dJ5_isLatin1_aae02_0 : decode cJ5_isLatin1_aae02 0 = .ok (.getstatic 18, 3) := by decide +kernel
theorem dJ5_isLatin1_aae02_3 : decode cJ5_isLatin1_aae02 3 = .ok (.ifCond .eq 14, 3) := by decide +kernel
theorem dJ5_isLatin1_aae02_6 : decode cJ5_isLatin1_aae02 6 = .ok (.aload_n 0, 1) := by decide +kernel
theorem dJ5_isLatin1_aae02_7 : decode cJ5_isLatin1_aae02 7 = .ok (.getfield 22, 3) := by decide +kernel
theorem dJ5_isLatin1_aae02_10 : decode cJ5_isLatin1_aae02 10 = .ok (.ifCond .ne 7, 3) := by decide +kernel
theorem dJ5_isLatin1_aae02_13 : decode cJ5_isLatin1_aae02 13 = .ok (.iconst 1, 1) := by decide +kernel
theorem dJ5_isLatin1_aae02_14 : decode cJ5_isLatin1_aae02 14 = .ok (.goto 4, 3) := by decide +kernel
theorem dJ5_isLatin1_aae02_17 : decode cJ5_isLatin1_aae02 17 = .ok (.iconst 0, 1) := by decide +kernel
theorem dJ5_isLatin1_aae02_18 : decode cJ5_isLatin1_aae02 18 = .ok (.ireturn, 1) := by decide +kernel
theorem dJ5_inflateIfNeededFor_a7421_0 : decode cJ5_inflateIfNeededFor_a7421 0 = .ok (.getstatic 18, 3) := by decide +kernel
theorem dJ5_inflateIfNeededFor_a7421_3 : decode cJ5_inflateIfNeededFor_a7421 3 = .ok (.ifCond .eq 18, 3) := by decide +kernel
theorem dJ5_inflateIfNeededFor_a7421_6 : decode cJ5_inflateIfNeededFor_a7421 6 = .ok (.aload_n 0, 1) := by decide +kernel
theorem dJ5_inflateIfNeededFor_a7421_7 : decode cJ5_inflateIfNeededFor_a7421 7 = .ok (.getfield 22, 3) := by decide +kernel
theorem dJ5_inflateIfNeededFor_a7421_10 : decode cJ5_inflateIfNeededFor_a7421 10 = .ok (.aload_n 1, 1) := by decide +kernel
theorem dJ5_inflateIfNeededFor_a7421_11 : decode cJ5_inflateIfNeededFor_a7421 11 = .ok (.invokevirtual 40, 3) := by decide +kernel
theorem dJ5_inflateIfNeededFor_a7421_14 : decode cJ5_inflateIfNeededFor_a7421 14 = .ok (.if_icmp .eq 7, 3) := by decide +kernel
theorem dJ5_inflateIfNeededFor_a7421_17 : decode cJ5_inflateIfNeededFor_a7421 17 = .ok (.aload_n 0, 1) := by decide +kernel
theorem dJ5_inflateIfNeededFor_a7421_18 : decode cJ5_inflateIfNeededFor_a7421 18 = .ok (.invokevirtual 195, 3) := by decide +kernel
theorem dJ5_inflateIfNeededFor_a7421_21 : decode cJ5_inflateIfNeededFor_a7421 21 = .ok (.return_, 1) := by decide +kernel
theorem dJ5_putStringAt_47b60_0 : decode cJ5_putStringAt_47b60 0 = .ok (.aload_n 0, 1) := by decide +kernel
theorem dJ5_putStringAt_47b60_1 : decode cJ5_putStringAt_47b60 1 = .ok (.aload_n 2, 1) := by decide +kernel
theorem dJ5_putStringAt_47b60_2 : decode cJ5_putStringAt_47b60 2 = .ok (.invokevirtual 397, 3) := by decide +kernel
theorem dJ5_putStringAt_47b60_5 : decode cJ5_putStringAt_47b60 5 = .ok (.aload_n 2, 1) := by decide +kernel
theorem dJ5_putStringAt_47b60_6 : decode cJ5_putStringAt_47b60 6 = .ok (.aload_n 0, 1) := by decide +kernel
theorem dJ5_putStringAt_47b60_7 : decode cJ5_putStringAt_47b60 7 = .ok (.getfield 15, 3) := by decide +kernel
theorem dJ5_putStringAt_47b60_10 : decode cJ5_putStringAt_47b60 10 = .ok (.iload_n 1, 1) := by decide +kernel
theorem dJ5_putStringAt_47b60_11 : decode cJ5_putStringAt_47b60 11 = .ok (.aload_n 0, 1) := by decide +kernel
theorem dJ5_putStringAt_47b60_12 : decode cJ5_putStringAt_47b60 12 = .ok (.getfield 22, 3) := by decide +kernel
theorem dJ5_putStringAt_47b60_15 : decode cJ5_putStringAt_47b60 15 = .ok (.invokevirtual 399, 3) := by decide +kernel
theorem dJ5_putStringAt_47b60_18 : decode cJ5_putStringAt_47b60 18 = .ok (.return_, 1) := by decide +kernel
theorem dJx00060_init_a7421_0 : decode cJx00060_init_a7421 0 = .ok (.aload_n 0, 1) := by decide +kernel
theorem dJx00060_init_a7421_1 : decode cJx00060_init_a7421 1 = .ok (.aload_n 1, 1) := by decide +kernel
theorem dJx00060_init_a7421_2 : decode cJx00060_init_a7421 2 = .ok (.invokespecial 7, 3) := by decide +kernel
theorem dJx00060_init_a7421_5 : decode cJx00060_init_a7421 5 = .ok (.return_, 1) := by decide +kernel
theorem dJx00060_init_d00df_0 : decode cJx00060_init_d00df 0 = .ok (.aload_n 0, 1) := by decide +kernel
theorem dJx00060_init_d00df_1 : decode cJx00060_init_d00df 1 = .ok (.new 10, 3) := by decide +kernel
theorem dJx00060_init_d00df_4 : decode cJx00060_init_d00df 4 = .ok (.dup, 1) := by decide +kernel
theorem dJx00060_init_d00df_5 : decode cJx00060_init_d00df 5 = .ok (.invokespecial 12, 3) := by decide +kernel
theorem dJx00060_init_d00df_8 : decode cJx00060_init_d00df 8 = .ok (.ldc 13, 2) := by decide +kernel
theorem dJx00060_init_d00df_10 : decode cJx00060_init_d00df 10 = .ok (.invokevirtual 15, 3) := by decide +kernel
theorem dJx00060_init_d00df_13 : decode cJx00060_init_d00df 13 = .ok (.iload_n 1, 1) := by decide +kernel
theorem dJx00060_init_d00df_14 : decode cJx00060_init_d00df 14 = .ok (.invokevirtual 19, 3) := by decide +kernel
theorem dJx00060_init_d00df_17 : decode cJx00060_init_d00df 17 = .ok (.invokevirtual 22, 3) := by decide +kernel
theorem dJx00060_init_d00df_20 : decode cJx00060_init_d00df 20 = .ok (.invokespecial 7, 3) := by decide +kernel
theorem dJx00060_init_d00df_23 : decode cJx00060_init_d00df 23 = .ok (.return_, 1) := by decide +kernel
theorem dJxe99ae_isNaN_b9ae7_0 : decode cJxe99ae_isNaN_b9ae7 0 = .ok (.dload_n 0, 1) := by decide +kernel
theorem dJxe99ae_isNaN_b9ae7_1 : decode cJxe99ae_isNaN_b9ae7 1 = .ok (.dload_n 0, 1) := by decide +kernel
theorem dJxe99ae_isNaN_b9ae7_2 : decode cJxe99ae_isNaN_b9ae7 2 = .ok (.dcmp .l, 1) := by decide +kernel
theorem dJxe99ae_isNaN_b9ae7_3 : decode cJxe99ae_isNaN_b9ae7 3 = .ok (.ifCond .eq 7, 3) := by decide +kernel
theorem dJxe99ae_isNaN_b9ae7_6 : decode cJxe99ae_isNaN_b9ae7 6 = .ok (.iconst 1, 1) := by decide +kernel
theorem dJxe99ae_isNaN_b9ae7_7 : decode cJxe99ae_isNaN_b9ae7 7 = .ok (.goto 4, 3) := by decide +kernel
theorem dJxe99ae_isNaN_b9ae7_10 : decode cJxe99ae_isNaN_b9ae7 10 = .ok (.iconst 0, 1) := by decide +kernel
theorem dJxe99ae_isNaN_b9ae7_11 : decode cJxe99ae_isNaN_b9ae7 11 = .ok (.ireturn, 1) := by decide +kernel
theorem dJxe99ae_doubleToLongBits_ccdee_0 : decode cJxe99ae_doubleToLongBits_ccdee 0 = .ok (.dload_n 0, 1) := by decide +kernel
theorem dJxe99ae_doubleToLongBits_ccdee_1 : decode cJxe99ae_doubleToLongBits_ccdee 1 = .ok (.invokestatic 122, 3) := by decide +kernel
theorem dJxe99ae_doubleToLongBits_ccdee_4 : decode cJxe99ae_doubleToLongBits_ccdee 4 = .ok (.ifCond .ne 8, 3) := by decide +kernel
theorem dJxe99ae_doubleToLongBits_ccdee_7 : decode cJxe99ae_doubleToLongBits_ccdee 7 = .ok (.dload_n 0, 1) := by decide +kernel
theorem dJxe99ae_doubleToLongBits_ccdee_8 : decode cJxe99ae_doubleToLongBits_ccdee 8 = .ok (.invokestatic 134, 3) := by decide +kernel
theorem dJxe99ae_doubleToLongBits_ccdee_11 : decode cJxe99ae_doubleToLongBits_ccdee 11 = .ok (.lreturn, 1) := by decide +kernel
theorem dJxe99ae_doubleToLongBits_ccdee_12 : decode cJxe99ae_doubleToLongBits_ccdee 12 = .ok (.ldc2_w 137, 3) := by decide +kernel
theorem dJxe99ae_doubleToLongBits_ccdee_15 : decode cJxe99ae_doubleToLongBits_ccdee 15 = .ok (.lreturn, 1) := by decide +kernel
theorem dJxf58ca_isNaN_12338_0 : decode cJxf58ca_isNaN_12338 0 = .ok (.fload_n 0, 1) := by decide +kernel
theorem dJxf58ca_isNaN_12338_1 : decode cJxf58ca_isNaN_12338 1 = .ok (.fload_n 0, 1) := by decide +kernel
theorem dJxf58ca_isNaN_12338_2 : decode cJxf58ca_isNaN_12338 2 = .ok (.fcmp .l, 1) := by decide +kernel
theorem dJxf58ca_isNaN_12338_3 : decode cJxf58ca_isNaN_12338 3 = .ok (.ifCond .eq 7, 3) := by decide +kernel
theorem dJxf58ca_isNaN_12338_6 : decode cJxf58ca_isNaN_12338 6 = .ok (.iconst 1, 1) := by decide +kernel
theorem dJxf58ca_isNaN_12338_7 : decode cJxf58ca_isNaN_12338 7 = .ok (.goto 4, 3) := by decide +kernel
theorem dJxf58ca_isNaN_12338_10 : decode cJxf58ca_isNaN_12338 10 = .ok (.iconst 0, 1) := by decide +kernel
theorem dJxf58ca_isNaN_12338_11 : decode cJxf58ca_isNaN_12338 11 = .ok (.ireturn, 1) := by decide +kernel
theorem dJxf58ca_floatToIntBits_5c35a_0 : decode cJxf58ca_floatToIntBits_5c35a 0 = .ok (.fload_n 0, 1) := by decide +kernel
theorem dJxf58ca_floatToIntBits_5c35a_1 : decode cJxf58ca_floatToIntBits_5c35a 1 = .ok (.invokestatic 59, 3) := by decide +kernel
theorem dJxf58ca_floatToIntBits_5c35a_4 : decode cJxf58ca_floatToIntBits_5c35a 4 = .ok (.ifCond .ne 8, 3) := by decide +kernel
theorem dJxf58ca_floatToIntBits_5c35a_7 : decode cJxf58ca_floatToIntBits_5c35a 7 = .ok (.fload_n 0, 1) := by decide +kernel
theorem dJxf58ca_floatToIntBits_5c35a_8 : decode cJxf58ca_floatToIntBits_5c35a 8 = .ok (.invokestatic 74, 3) := by decide +kernel
theorem dJxf58ca_floatToIntBits_5c35a_11 : decode cJxf58ca_floatToIntBits_5c35a 11 = .ok (.ireturn, 1) := by decide +kernel
theorem dJxf58ca_floatToIntBits_5c35a_12 : decode cJxf58ca_floatToIntBits_5c35a 12 = .ok (.ldc 77, 2) := by decide +kernel
theorem dJxf58ca_floatToIntBits_5c35a_14 : decode cJxf58ca_floatToIntBits_5c35a 14 = .ok (.ireturn, 1) := by decide +kernel
theorem dJ6_getChars_ba4f3_0 : decode cJ6_getChars_ba4f3 0 = .ok (.iload_n 1, 1) := by decide +kernel
theorem dJ6_getChars_ba4f3_1 : decode cJ6_getChars_ba4f3 1 = .ok (.istore 5, 2) := by decide +kernel
theorem dJ6_getChars_ba4f3_3 : decode cJ6_getChars_ba4f3 3 = .ok (.iload_n 0, 1) := by decide +kernel
theorem dJ6_getChars_ba4f3_4 : decode cJ6_getChars_ba4f3 4 = .ok (.ifCond .ge 7, 3) := by decide +kernel
theorem dJ6_getChars_ba4f3_7 : decode cJ6_getChars_ba4f3 7 = .ok (.iconst 1, 1) := by decide +kernel
theorem dJ6_getChars_ba4f3_8 : decode cJ6_getChars_ba4f3 8 = .ok (.goto 4, 3) := by decide +kernel
theorem dJ6_getChars_ba4f3_11 : decode cJ6_getChars_ba4f3 11 = .ok (.iconst 0, 1) := by decide +kernel
theorem dJ6_getChars_ba4f3_12 : decode cJ6_getChars_ba4f3 12 = .ok (.istore 6, 2) := by decide +kernel
theorem dJ6_getChars_ba4f3_14 : decode cJ6_getChars_ba4f3 14 = .ok (.iload 6, 2) := by decide +kernel
theorem dJ6_getChars_ba4f3_16 : decode cJ6_getChars_ba4f3 16 = .ok (.ifCond .ne 6, 3) := by decide +kernel
theorem dJ6_getChars_ba4f3_19 : decode cJ6_getChars_ba4f3 19 = .ok (.iload_n 0, 1) := by decide +kernel
theorem dJ6_getChars_ba4f3_20 : decode cJ6_getChars_ba4f3 20 = .ok (.ineg, 1) := by decide +kernel
theorem dJ6_getChars_ba4f3_21 : decode cJ6_getChars_ba4f3 21 = .ok (.istore_n 0, 1) := by decide +kernel
theorem dJ6_getChars_ba4f3_22 : decode cJ6_getChars_ba4f3 22 = .ok (.iload_n 0, 1) := by decide +kernel
theorem dJ6_getChars_ba4f3_23 : decode cJ6_getChars_ba4f3 23 = .ok (.bipush (-100), 2) := by decide +kernel
theorem dJ6_getChars_ba4f3_25 : decode cJ6_getChars_ba4f3 25 = .ok (.if_icmp .gt 47, 3) := by decide +kernel
theorem dJ6_getChars_ba4f3_28 : decode cJ6_getChars_ba4f3 28 = .ok (.iload_n 0, 1) := by decide +kernel
theorem dJ6_getChars_ba4f3_29 : decode cJ6_getChars_ba4f3 29 = .ok (.bipush 100, 2) := by decide +kernel
theorem dJ6_getChars_ba4f3_31 : decode cJ6_getChars_ba4f3 31 = .ok (.idiv, 1) := by decide +kernel
theorem dJ6_getChars_ba4f3_32 : decode cJ6_getChars_ba4f3 32 = .ok (.istore_n 3, 1) := by decide +kernel
theorem dJ6_getChars_ba4f3_33 : decode cJ6_getChars_ba4f3 33 = .ok (.iload_n 3, 1) := by decide +kernel
theorem dJ6_getChars_ba4f3_34 : decode cJ6_getChars_ba4f3 34 = .ok (.bipush 100, 2) := by decide +kernel
theorem dJ6_getChars_ba4f3_36 : decode cJ6_getChars_ba4f3 36 = .ok (.imul, 1) := by decide +kernel
theorem dJ6_getChars_ba4f3_37 : decode cJ6_getChars_ba4f3 37 = .ok (.iload_n 0, 1) := by decide +kernel
theorem dJ6_getChars_ba4f3_38 : decode cJ6_getChars_ba4f3 38 = .ok (.isub, 1) := by decide +kernel
theorem dJ6_getChars_ba4f3_39 : decode cJ6_getChars_ba4f3 39 = .ok (.istore 4, 2) := by decide +kernel
theorem dJ6_getChars_ba4f3_41 : decode cJ6_getChars_ba4f3 41 = .ok (.iload_n 3, 1) := by decide +kernel
theorem dJ6_getChars_ba4f3_42 : decode cJ6_getChars_ba4f3 42 = .ok (.istore_n 0, 1) := by decide +kernel
theorem dJ6_getChars_ba4f3_43 : decode cJ6_getChars_ba4f3 43 = .ok (.aload_n 2, 1) := by decide +kernel
theorem dJ6_getChars_ba4f3_44 : decode cJ6_getChars_ba4f3 44 = .ok (.iinc 5 (-1), 3) := by decide +kernel
theorem dJ6_getChars_ba4f3_47 : decode cJ6_getChars_ba4f3 47 = .ok (.iload 5, 2) := by decide +kernel
theorem dJ6_getChars_ba4f3_49 : decode cJ6_getChars_ba4f3 49 = .ok (.getstatic 83, 3) := by decide +kernel
theorem dJ6_getChars_ba4f3_52 : decode cJ6_getChars_ba4f3 52 = .ok (.iload 4, 2) := by decide +kernel
theorem dJ6_getChars_ba4f3_54 : decode cJ6_getChars_ba4f3 54 = .ok (.baload, 1) := by decide +kernel
theorem dJ6_getChars_ba4f3_55 : decode cJ6_getChars_ba4f3 55 = .ok (.bastore, 1) := by decide +kernel
theorem dJ6_getChars_ba4f3_56 : decode cJ6_getChars_ba4f3 56 = .ok (.aload_n 2, 1) := by decide +kernel
theorem dJ6_getChars_ba4f3_57 : decode cJ6_getChars_ba4f3 57 = .ok (.iinc 5 (-1), 3) := by decide +kernel
theorem dJ6_getChars_ba4f3_60 : decode cJ6_getChars_ba4f3 60 = .ok (.iload 5, 2) := by decide +kernel
theorem dJ6_getChars_ba4f3_62 : decode cJ6_getChars_ba4f3 62 = .ok (.getstatic 87, 3) := by decide +kernel
theorem dJ6_getChars_ba4f3_65 : decode cJ6_getChars_ba4f3 65 = .ok (.iload 4, 2) := by decide +kernel
theorem dJ6_getChars_ba4f3_67 : decode cJ6_getChars_ba4f3 67 = .ok (.baload, 1) := by decide +kernel
theorem dJ6_getChars_ba4f3_68 : decode cJ6_getChars_ba4f3 68 = .ok (.bastore, 1) := by decide +kernel
theorem dJ6_getChars_ba4f3_69 : decode cJ6_getChars_ba4f3 69 = .ok (.goto (-47), 3) := by decide +kernel
theorem dJ6_getChars_ba4f3_72 : decode cJ6_getChars_ba4f3 72 = .ok (.aload_n 2, 1) := by decide +kernel
theorem dJ6_getChars_ba4f3_73 : decode cJ6_getChars_ba4f3 73 = .ok (.iinc 5 (-1), 3) := by decide +kernel
theorem dJ6_getChars_ba4f3_76 : decode cJ6_getChars_ba4f3 76 = .ok (.iload 5, 2) := by decide +kernel
theorem dJ6_getChars_ba4f3_78 : decode cJ6_getChars_ba4f3 78 = .ok (.getstatic 83, 3) := by decide +kernel
theorem dJ6_getChars_ba4f3_81 : decode cJ6_getChars_ba4f3 81 = .ok (.iload_n 0, 1) := by decide +kernel
theorem dJ6_getChars_ba4f3_82 : decode cJ6_getChars_ba4f3 82 = .ok (.ineg, 1) := by decide +kernel
theorem dJ6_getChars_ba4f3_83 : decode cJ6_getChars_ba4f3 83 = .ok (.baload, 1) := by decide +kernel
theorem dJ6_getChars_ba4f3_84 : decode cJ6_getChars_ba4f3 84 = .ok (.bastore, 1) := by decide +kernel
theorem dJ6_getChars_ba4f3_85 : decode cJ6_getChars_ba4f3 85 = .ok (.iload_n 0, 1) := by decide +kernel
theorem dJ6_getChars_ba4f3_86 : decode cJ6_getChars_ba4f3 86 = .ok (.bipush (-9), 2) := by decide +kernel
theorem dJ6_getChars_ba4f3_88 : decode cJ6_getChars_ba4f3 88 = .ok (.if_icmp .ge 16, 3) := by decide +kernel
theorem dJ6_getChars_ba4f3_91 : decode cJ6_getChars_ba4f3 91 = .ok (.aload_n 2, 1) := by decide +kernel
theorem dJ6_getChars_ba4f3_92 : decode cJ6_getChars_ba4f3 92 = .ok (.iinc 5 (-1), 3) := by decide +kernel
theorem dJ6_getChars_ba4f3_95 : decode cJ6_getChars_ba4f3 95 = .ok (.iload 5, 2) := by decide +kernel
theorem dJ6_getChars_ba4f3_97 : decode cJ6_getChars_ba4f3 97 = .ok (.getstatic 87, 3) := by decide +kernel
theorem dJ6_getChars_ba4f3_100 : decode cJ6_getChars_ba4f3 100 = .ok (.iload_n 0, 1) := by decide +kernel
theorem dJ6_getChars_ba4f3_101 : decode cJ6_getChars_ba4f3 101 = .ok (.ineg, 1) := by decide +kernel
theorem dJ6_getChars_ba4f3_102 : decode cJ6_getChars_ba4f3 102 = .ok (.baload, 1) := by decide +kernel
theorem dJ6_getChars_ba4f3_103 : decode cJ6_getChars_ba4f3 103 = .ok (.bastore, 1) := by decide +kernel
theorem dJ6_getChars_ba4f3_104 : decode cJ6_getChars_ba4f3 104 = .ok (.iload 6, 2) := by decide +kernel
theorem dJ6_getChars_ba4f3_106 : decode cJ6_getChars_ba4f3 106 = .ok (.ifCond .eq 12, 3) := by decide +kernel
theorem dJ6_getChars_ba4f3_109 : decode cJ6_getChars_ba4f3 109 = .ok (.aload_n 2, 1) := by decide +kernel
theorem dJ6_getChars_ba4f3_110 : decode cJ6_getChars_ba4f3 110 = .ok (.iinc 5 (-1), 3) := by decide +kernel
theorem dJ6_getChars_ba4f3_113 : decode cJ6_getChars_ba4f3 113 = .ok (.iload 5, 2) := by decide +kernel
theorem dJ6_getChars_ba4f3_115 : decode cJ6_getChars_ba4f3 115 = .ok (.bipush 45, 2) := by decide +kernel
theorem dJ6_getChars_ba4f3_117 : decode cJ6_getChars_ba4f3 117 = .ok (.bastore, 1) := by decide +kernel
theorem dJ6_getChars_ba4f3_118 : decode cJ6_getChars_ba4f3 118 = .ok (.iload 5, 2) := by decide +kernel
theorem dJ6_getChars_ba4f3_120 : decode cJ6_getChars_ba4f3 120 = .ok (.ireturn, 1) := by decide +kernel
theorem dJ6_stringSize_0f7a4_0 : decode cJ6_stringSize_0f7a4 0 = .ok (.iconst 1, 1) := by decide +kernel
theorem dJ6_stringSize_0f7a4_1 : decode cJ6_stringSize_0f7a4 1 = .ok (.istore_n 1, 1) := by decide +kernel
theorem dJ6_stringSize_0f7a4_2 : decode cJ6_stringSize_0f7a4 2 = .ok (.iload_n 0, 1) := by decide +kernel
theorem dJ6_stringSize_0f7a4_3 : decode cJ6_stringSize_0f7a4 3 = .ok (.ifCond .lt 8, 3) := by decide +kernel
theorem dJ6_stringSize_0f7a4_6 : decode cJ6_stringSize_0f7a4 6 = .ok (.iconst 0, 1) := by decide +kernel
theorem dJ6_stringSize_0f7a4_7 : decode cJ6_stringSize_0f7a4 7 = .ok (.istore_n 1, 1) := by decide +kernel
theorem dJ6_stringSize_0f7a4_8 : decode cJ6_stringSize_0f7a4 8 = .ok (.iload_n 0, 1) := by decide +kernel
theorem dJ6_stringSize_0f7a4_9 : decode cJ6_stringSize_0f7a4 9 = .ok (.ineg, 1) := by decide +kernel
theorem dJ6_stringSize_0f7a4_10 : decode cJ6_stringSize_0f7a4 10 = .ok (.istore_n 0, 1) := by decide +kernel
theorem dJ6_stringSize_0f7a4_11 : decode cJ6_stringSize_0f7a4 11 = .ok (.bipush (-10), 2) := by decide +kernel
theorem dJ6_stringSize_0f7a4_13 : decode cJ6_stringSize_0f7a4 13 = .ok (.istore_n 2, 1) := by decide +kernel
theorem dJ6_stringSize_0f7a4_14 : decode cJ6_stringSize_0f7a4 14 = .ok (.iconst 1, 1) := by decide +kernel
theorem dJ6_stringSize_0f7a4_15 : decode cJ6_stringSize_0f7a4 15 = .ok (.istore_n 3, 1) := by decide +kernel
theorem dJ6_stringSize_0f7a4_16 : decode cJ6_stringSize_0f7a4 16 = .ok (.iload_n 3, 1) := by decide +kernel
theorem dJ6_stringSize_0f7a4_17 : decode cJ6_stringSize_0f7a4 17 = .ok (.bipush 10, 2) := by decide +kernel
theorem dJ6_stringSize_0f7a4_19 : decode cJ6_stringSize_0f7a4 19 = .ok (.if_icmp .ge 23, 3) := by decide +kernel
theorem dJ6_stringSize_0f7a4_22 : decode cJ6_stringSize_0f7a4 22 = .ok (.iload_n 0, 1) := by decide +kernel
theorem dJ6_stringSize_0f7a4_23 : decode cJ6_stringSize_0f7a4 23 = .ok (.iload_n 2, 1) := by decide +kernel
theorem dJ6_stringSize_0f7a4_24 : decode cJ6_stringSize_0f7a4 24 = .ok (.if_icmp .le 7, 3) := by decide +kernel
theorem dJ6_stringSize_0f7a4_27 : decode cJ6_stringSize_0f7a4 27 = .ok (.iload_n 3, 1) := by decide +kernel
theorem dJ6_stringSize_0f7a4_28 : decode cJ6_stringSize_0f7a4 28 = .ok (.iload_n 1, 1) := by decide +kernel
theorem dJ6_stringSize_0f7a4_29 : decode cJ6_stringSize_0f7a4 29 = .ok (.iadd, 1) := by decide +kernel
theorem dJ6_stringSize_0f7a4_30 : decode cJ6_stringSize_0f7a4 30 = .ok (.ireturn, 1) := by decide +kernel
theorem dJ6_stringSize_0f7a4_31 : decode cJ6_stringSize_0f7a4 31 = .ok (.bipush 10, 2) := by decide +kernel
theorem dJ6_stringSize_0f7a4_33 : decode cJ6_stringSize_0f7a4 33 = .ok (.iload_n 2, 1) := by decide +kernel
theorem dJ6_stringSize_0f7a4_34 : decode cJ6_stringSize_0f7a4 34 = .ok (.imul, 1) := by decide +kernel
theorem dJ6_stringSize_0f7a4_35 : decode cJ6_stringSize_0f7a4 35 = .ok (.istore_n 2, 1) := by decide +kernel
theorem dJ6_stringSize_0f7a4_36 : decode cJ6_stringSize_0f7a4 36 = .ok (.iinc 3 1, 3) := by decide +kernel
theorem dJ6_stringSize_0f7a4_39 : decode cJ6_stringSize_0f7a4 39 = .ok (.goto (-23), 3) := by decide +kernel
theorem dJ6_stringSize_0f7a4_42 : decode cJ6_stringSize_0f7a4 42 = .ok (.bipush 10, 2) := by decide +kernel
theorem dJ6_stringSize_0f7a4_44 : decode cJ6_stringSize_0f7a4 44 = .ok (.iload_n 1, 1) := by decide +kernel
theorem dJ6_stringSize_0f7a4_45 : decode cJ6_stringSize_0f7a4 45 = .ok (.iadd, 1) := by decide +kernel
theorem dJ6_stringSize_0f7a4_46 : decode cJ6_stringSize_0f7a4 46 = .ok (.ireturn, 1) := by decide +kernel
theorem dJ9_max_7cf53_0 : decode cJ9_max_7cf53 0 = .ok (.iload_n 0, 1) := by decide +kernel
theorem dJ9_max_7cf53_1 : decode cJ9_max_7cf53 1 = .ok (.iload_n 1, 1) := by decide +kernel
theorem dJ9_max_7cf53_2 : decode cJ9_max_7cf53 2 = .ok (.if_icmp .lt 7, 3) := by decide +kernel
theorem dJ9_max_7cf53_5 : decode cJ9_max_7cf53 5 = .ok (.iload_n 0, 1) := by decide +kernel
theorem dJ9_max_7cf53_6 : decode cJ9_max_7cf53 6 = .ok (.goto 4, 3) := by decide +kernel
theorem dJ9_max_7cf53_9 : decode cJ9_max_7cf53 9 = .ok (.iload_n 1, 1) := by decide +kernel
theorem dJ9_max_7cf53_10 : decode cJ9_max_7cf53 10 = .ok (.ireturn, 1) := by decide +kernel
theorem dJ9_min_7cf53_0 : decode cJ9_min_7cf53 0 = .ok (.iload_n 0, 1) := by decide +kernel
theorem dJ9_min_7cf53_1 : decode cJ9_min_7cf53 1 = .ok (.iload_n 1, 1) := by decide +kernel
theorem dJ9_min_7cf53_2 : decode cJ9_min_7cf53 2 = .ok (.if_icmp .gt 7, 3) := by decide +kernel
theorem dJ9_min_7cf53_5 : decode cJ9_min_7cf53 5 = .ok (.iload_n 0, 1) := by decide +kernel
theorem dJ9_min_7cf53_6 : decode cJ9_min_7cf53 6 = .ok (.goto 4, 3) := by decide +kernel
theorem dJ9_min_7cf53_9 : decode cJ9_min_7cf53 9 = .ok (.iload_n 1, 1) := by decide +kernel
theorem dJ9_min_7cf53_10 : decode cJ9_min_7cf53 10 = .ok (.ireturn, 1) := by decide +kernel
theorem dJ0_init_81219_0 : decode cJ0_init_81219 0 = .ok (.aload_n 0, 1) := by decide +kernel
theorem dJ0_init_81219_1 : decode cJ0_init_81219 1 = .ok (.aload_n 1, 1) := by decide +kernel
theorem dJ0_init_81219_2 : decode cJ0_init_81219 2 = .ok (.aconst_null, 1) := by decide +kernel
theorem dJ0_init_81219_3 : decode cJ0_init_81219 3 = .ok (.invokespecial 489, 3) := by decide +kernel
theorem dJ0_init_81219_6 : decode cJ0_init_81219 6 = .ok (.return_, 1) := by decide +kernel
theorem dJ0_length_8abf5_0 : decode cJ0_length_8abf5 0 = .ok (.aload_n 0, 1) := by decide +kernel
theorem dJ0_length_8abf5_1 : decode cJ0_length_8abf5 1 = .ok (.getfield 9, 3) := by decide +kernel
theorem dJ0_length_8abf5_4 : decode cJ0_length_8abf5 4 = .ok (.arraylength, 1) := by decide +kernel
theorem dJ0_length_8abf5_5 : decode cJ0_length_8abf5 5 = .ok (.aload_n 0, 1) := by decide +kernel
theorem dJ0_length_8abf5_6 : decode cJ0_length_8abf5 6 = .ok (.invokevirtual 335, 3) := by decide +kernel
theorem dJ0_length_8abf5_9 : decode cJ0_length_8abf5 9 = .ok (.ishr, 1) := by decide +kernel
theorem dJ0_length_8abf5_10 : decode cJ0_length_8abf5 10 = .ok (.ireturn, 1) := by decide +kernel
theorem dJ0_getBytes_840e7_0 : decode cJ0_getBytes_840e7 0 = .ok (.aload_n 0, 1) := by decide +kernel
theorem dJ0_getBytes_840e7_1 : decode cJ0_getBytes_840e7 1 = .ok (.invokevirtual 335, 3) := by decide +kernel
theorem dJ0_getBytes_840e7_4 : decode cJ0_getBytes_840e7 4 = .ok (.iload_n 3, 1) := by decide +kernel
theorem dJ0_getBytes_840e7_5 : decode cJ0_getBytes_840e7 5 = .ok (.if_icmp .ne 23, 3) := by decide +kernel
theorem dJ0_getBytes_840e7_8 : decode cJ0_getBytes_840e7 8 = .ok (.aload_n 0, 1) := by decide +kernel
theorem dJ0_getBytes_840e7_9 : decode cJ0_getBytes_840e7 9 = .ok (.getfield 9, 3) := by decide +kernel
theorem dJ0_getBytes_840e7_12 : decode cJ0_getBytes_840e7 12 = .ok (.iconst 0, 1) := by decide +kernel
theorem dJ0_getBytes_840e7_13 : decode cJ0_getBytes_840e7 13 = .ok (.aload_n 1, 1) := by decide +kernel
theorem dJ0_getBytes_840e7_14 : decode cJ0_getBytes_840e7 14 = .ok (.iload_n 2, 1) := by decide +kernel
theorem dJ0_getBytes_840e7_15 : decode cJ0_getBytes_840e7 15 = .ok (.iload_n 3, 1) := by decide +kernel
theorem dJ0_getBytes_840e7_16 : decode cJ0_getBytes_840e7 16 = .ok (.ishl, 1) := by decide +kernel
theorem dJ0_getBytes_840e7_17 : decode cJ0_getBytes_840e7 17 = .ok (.aload_n 0, 1) := by decide +kernel
theorem dJ0_getBytes_840e7_18 : decode cJ0_getBytes_840e7 18 = .ok (.getfield 9, 3) := by decide +kernel
theorem dJ0_getBytes_840e7_21 : decode cJ0_getBytes_840e7 21 = .ok (.arraylength, 1) := by decide +kernel
theorem dJ0_getBytes_840e7_22 : decode cJ0_getBytes_840e7 22 = .ok (.invokestatic 212, 3) := by decide +kernel
theorem dJ0_getBytes_840e7_25 : decode cJ0_getBytes_840e7 25 = .ok (.goto 18, 3) := by decide +kernel
theorem dJ0_getBytes_840e7_28 : decode cJ0_getBytes_840e7 28 = .ok (.aload_n 0, 1) := by decide +kernel
theorem dJ0_getBytes_840e7_29 : decode cJ0_getBytes_840e7 29 = .ok (.getfield 9, 3) := by decide +kernel
theorem dJ0_getBytes_840e7_32 : decode cJ0_getBytes_840e7 32 = .ok (.iconst 0, 1) := by decide +kernel
theorem dJ0_getBytes_840e7_33 : decode cJ0_getBytes_840e7 33 = .ok (.aload_n 1, 1) := by decide +kernel
theorem dJ0_getBytes_840e7_34 : decode cJ0_getBytes_840e7 34 = .ok (.iload_n 2, 1) := by decide +kernel
theorem dJ0_getBytes_840e7_35 : decode cJ0_getBytes_840e7 35 = .ok (.aload_n 0, 1) := by decide +kernel
theorem dJ0_getBytes_840e7_36 : decode cJ0_getBytes_840e7 36 = .ok (.getfield 9, 3) := by decide +kernel
theorem dJ0_getBytes_840e7_39 : decode cJ0_getBytes_840e7 39 = .ok (.arraylength, 1) := by decide +kernel
theorem dJ0_getBytes_840e7_40 : decode cJ0_getBytes_840e7 40 = .ok (.invokestatic 106, 3) := by decide +kernel
theorem dJ0_getBytes_840e7_43 : decode cJ0_getBytes_840e7 43 = .ok (.return_, 1) := by decide +kernel
theorem dJ0_init_db425_0 : decode cJ0_init_db425 0 = .ok (.aload_n 0, 1) := by decide +kernel
theorem dJ0_init_db425_1 : decode cJ0_init_db425 1 = .ok (.invokespecial 1, 3) := by decide +kernel
theorem dJ0_init_db425_4 : decode cJ0_init_db425 4 = .ok (.aload_n 1, 1) := by decide +kernel
theorem dJ0_init_db425_5 : decode cJ0_init_db425 5 = .ok (.invokevirtual 552, 3) := by decide +kernel
theorem dJ0_init_db425_8 : decode cJ0_init_db425 8 = .ok (.astore_n 3, 1) := by decide +kernel
theorem dJ0_init_db425_9 : decode cJ0_init_db425 9 = .ok (.aload_n 1, 1) := by decide +kernel
theorem dJ0_init_db425_10 : decode cJ0_init_db425 10 = .ok (.invokevirtual 549, 3) := by decide +kernel
theorem dJ0_init_db425_13 : decode cJ0_init_db425 13 = .ok (.istore 4, 2) := by decide +kernel
theorem dJ0_init_db425_15 : decode cJ0_init_db425 15 = .ok (.aload_n 1, 1) := by decide +kernel
theorem dJ0_init_db425_16 : decode cJ0_init_db425 16 = .ok (.invokevirtual 1047, 3) := by decide +kernel
theorem dJ0_init_db425_19 : decode cJ0_init_db425 19 = .ok (.ifCond .eq 22, 3) := by decide +kernel
theorem dJ0_init_db425_22 : decode cJ0_init_db425 22 = .ok (.aload_n 0, 1) := by decide +kernel
theorem dJ0_init_db425_23 : decode cJ0_init_db425 23 = .ok (.iconst 0, 1) := by decide +kernel
theorem dJ0_init_db425_24 : decode cJ0_init_db425 24 = .ok (.putfield 15, 3) := by decide +kernel
theorem dJ0_init_db425_27 : decode cJ0_init_db425 27 = .ok (.aload_n 0, 1) := by decide +kernel
theorem dJ0_init_db425_28 : decode cJ0_init_db425 28 = .ok (.aload_n 3, 1) := by decide +kernel
theorem dJ0_init_db425_29 : decode cJ0_init_db425 29 = .ok (.iconst 0, 1) := by decide +kernel
theorem dJ0_init_db425_30 : decode cJ0_init_db425 30 = .ok (.iload 4, 2) := by decide +kernel
theorem dJ0_init_db425_32 : decode cJ0_init_db425 32 = .ok (.invokestatic 54, 3) := by decide +kernel
theorem dJ0_init_db425_35 : decode cJ0_init_db425 35 = .ok (.putfield 9, 3) := by decide +kernel
theorem dJ0_init_db425_38 : decode cJ0_init_db425 38 = .ok (.goto 59, 3) := by decide +kernel
theorem dJ0_init_db425_41 : decode cJ0_init_db425 41 = .ok (.getstatic 38, 3) := by decide +kernel
theorem dJ0_init_db425_44 : decode cJ0_init_db425 44 = .ok (.ifCond .eq 35, 3) := by decide +kernel
theorem dJ0_init_db425_47 : decode cJ0_init_db425 47 = .ok (.aload_n 1, 1) := by decide +kernel
theorem dJ0_init_db425_48 : decode cJ0_init_db425 48 = .ok (.getfield 1048, 3) := by decide +kernel
theorem dJ0_init_db425_51 : decode cJ0_init_db425 51 = .ok (.ifCond .eq 28, 3) := by decide +kernel
theorem dJ0_init_db425_54 : decode cJ0_init_db425 54 = .ok (.aload_n 0, 1) := by decide +kernel
theorem dJ0_init_db425_55 : decode cJ0_init_db425 55 = .ok (.aload_n 3, 1) := by decide +kernel
theorem dJ0_init_db425_56 : decode cJ0_init_db425 56 = .ok (.iconst 0, 1) := by decide +kernel
theorem dJ0_init_db425_57 : decode cJ0_init_db425 57 = .ok (.iload 4, 2) := by decide +kernel
theorem dJ0_init_db425_59 : decode cJ0_init_db425 59 = .ok (.invokestatic 1051, 3) := by decide +kernel
theorem dJ0_init_db425_62 : decode cJ0_init_db425 62 = .ok (.putfield 9, 3) := by decide +kernel
theorem dJ0_init_db425_65 : decode cJ0_init_db425 65 = .ok (.aload_n 0, 1) := by decide +kernel
theorem dJ0_init_db425_66 : decode cJ0_init_db425 66 = .ok (.aload_n 0, 1) := by decide +kernel
theorem dJ0_init_db425_67 : decode cJ0_init_db425 67 = .ok (.getfield 9, 3) := by decide +kernel
theorem dJ0_init_db425_70 : decode cJ0_init_db425 70 = .ok (.iload 4, 2) := by decide +kernel
theorem dJ0_init_db425_72 : decode cJ0_init_db425 72 = .ok (.invokestatic 47, 3) := by decide +kernel
theorem dJ0_init_db425_75 : decode cJ0_init_db425 75 = .ok (.putfield 15, 3) := by decide +kernel
theorem dJ0_init_db425_78 : decode cJ0_init_db425 78 = .ok (.return_, 1) := by decide +kernel
theorem dJ0_init_db425_79 : decode cJ0_init_db425 79 = .ok (.aload_n 0, 1) := by decide +kernel
theorem dJ0_init_db425_80 : decode cJ0_init_db425 80 = .ok (.iconst 1, 1) := by decide +kernel
theorem dJ0_init_db425_81 : decode cJ0_init_db425 81 = .ok (.putfield 15, 3) := by decide +kernel
theorem dJ0_init_db425_84 : decode cJ0_init_db425 84 = .ok (.aload_n 0, 1) := by decide +kernel
theorem dJ0_init_db425_85 : decode cJ0_init_db425 85 = .ok (.aload_n 3, 1) := by decide +kernel
theorem dJ0_init_db425_86 : decode cJ0_init_db425 86 = .ok (.iconst 0, 1) := by decide +kernel
theorem dJ0_init_db425_87 : decode cJ0_init_db425 87 = .ok (.iload 4, 2) := by decide +kernel
theorem dJ0_init_db425_89 : decode cJ0_init_db425 89 = .ok (.iconst 1, 1) := by decide +kernel
theorem dJ0_init_db425_90 : decode cJ0_init_db425 90 = .ok (.ishl, 1) := by decide +kernel
theorem dJ0_init_db425_91 : decode cJ0_init_db425 91 = .ok (.invokestatic 54, 3) := by decide +kernel
theorem dJ0_init_db425_94 : decode cJ0_init_db425 94 = .ok (.putfield 9, 3) := by decide +kernel
theorem dJ0_init_db425_97 : decode cJ0_init_db425 97 = .ok (.return_, 1) := by decide +kernel
theorem dJ0_coder_7d493_0 : decode cJ0_coder_7d493 0 = .ok (.getstatic 38, 3) := by decide +kernel
theorem dJ0_coder_7d493_3 : decode cJ0_coder_7d493 3 = .ok (.ifCond .eq 10, 3) := by decide +kernel
theorem dJ0_coder_7d493_6 : decode cJ0_coder_7d493 6 = .ok (.aload_n 0, 1) := by decide +kernel
theorem dJ0_coder_7d493_7 : decode cJ0_coder_7d493 7 = .ok (.getfield 15, 3) := by decide +kernel
theorem dJ0_coder_7d493_10 : decode cJ0_coder_7d493 10 = .ok (.goto 4, 3) := by decide +kernel
theorem dJ0_coder_7d493_13 : decode cJ0_coder_7d493 13 = .ok (.iconst 1, 1) := by decide +kernel
theorem dJ0_coder_7d493_14 : decode cJ0_coder_7d493 14 = .ok (.ireturn, 1) := by decide +kernel
theorem dJ0_checkIndex_df160_0 : decode cJ0_checkIndex_df160 0 = .ok (.iload_n 0, 1) := by decide +kernel
theorem dJ0_checkIndex_df160_1 : decode cJ0_checkIndex_df160 1 = .ok (.iload_n 1, 1) := by decide +kernel
theorem dJ0_checkIndex_df160_2 : decode cJ0_checkIndex_df160 2 = .ok (.getstatic 1053, 3) := by decide +kernel
theorem dJ0_checkIndex_df160_5 : decode cJ0_checkIndex_df160 5 = .ok (.invokestatic 1059, 3) := by decide +kernel
theorem dJ0_checkIndex_df160_8 : decode cJ0_checkIndex_df160 8 = .ok (.pop, 1) := by decide +kernel
theorem dJ0_checkIndex_df160_9 : decode cJ0_checkIndex_df160 9 = .ok (.return_, 1) := by decide +kernel
theorem dJ0_checkBoundsOffCount_cabcc_0 : decode cJ0_checkBoundsOffCount_cabcc 0 = .ok (.iload_n 0, 1) := by decide +kernel
theorem dJ0_checkBoundsOffCount_cabcc_1 : decode cJ0_checkBoundsOffCount_cabcc 1 = .ok (.iload_n 1, 1) := by decide +kernel
theorem dJ0_checkBoundsOffCount_cabcc_2 : decode cJ0_checkBoundsOffCount_cabcc 2 = .ok (.iload_n 2, 1) := by decide +kernel
theorem dJ0_checkBoundsOffCount_cabcc_3 : decode cJ0_checkBoundsOffCount_cabcc 3 = .ok (.getstatic 1053, 3) := by decide +kernel
theorem dJ0_checkBoundsOffCount_cabcc_6 : decode cJ0_checkBoundsOffCount_cabcc 6 = .ok (.invokestatic 1065, 3) := by decide +kernel
theorem dJ0_checkBoundsOffCount_cabcc_9 : decode cJ0_checkBoundsOffCount_cabcc 9 = .ok (.ireturn, 1) := by decide +kernel
theorem dJ0_checkBoundsBeginEnd_23922_0 : decode cJ0_checkBoundsBeginEnd_23922 0 = .ok (.iload_n 0, 1) := by decide +kernel
theorem dJ0_checkBoundsBeginEnd_23922_1 : decode cJ0_checkBoundsBeginEnd_23922 1 = .ok (.iload_n 1, 1) := by decide +kernel
theorem dJ0_checkBoundsBeginEnd_23922_2 : decode cJ0_checkBoundsBeginEnd_23922 2 = .ok (.iload_n 2, 1) := by decide +kernel
theorem dJ0_checkBoundsBeginEnd_23922_3 : decode cJ0_checkBoundsBeginEnd_23922 3 = .ok (.getstatic 1053, 3) := by decide +kernel
theorem dJ0_checkBoundsBeginEnd_23922_6 : decode cJ0_checkBoundsBeginEnd_23922 6 = .ok (.invokestatic 1062, 3) := by decide +kernel
theorem dJ0_checkBoundsBeginEnd_23922_9 : decode cJ0_checkBoundsBeginEnd_23922 9 = .ok (.pop, 1) := by decide +kernel
theorem dJ0_checkBoundsBeginEnd_23922_10 : decode cJ0_checkBoundsBeginEnd_23922 10 = .ok (.return_, 1) := by decide +kernel
theorem dJ4_init_da8c8_0 : decode cJ4_init_da8c8 0 = .ok (.aload_n 0, 1) := by decide +kernel
theorem dJ4_init_da8c8_1 : decode cJ4_init_da8c8 1 = .ok (.bipush 16, 2) := by decide +kernel
theorem dJ4_init_da8c8_3 : decode cJ4_init_da8c8 3 = .ok (.invokespecial 1, 3) := by decide +kernel
theorem dJ4_init_da8c8_6 : decode cJ4_init_da8c8 6 = .ok (.return_, 1) := by decide +kernel
theorem dJ4_append_15ec4_0 : decode cJ4_append_15ec4 0 = .ok (.aload_n 0, 1) := by decide +kernel
theorem dJ4_append_15ec4_1 : decode cJ4_append_15ec4 1 = .ok (.aload_n 1, 1) := by decide +kernel
theorem dJ4_append_15ec4_2 : decode cJ4_append_15ec4 2 = .ok (.invokespecial 29, 3) := by decide +kernel
theorem dJ4_append_15ec4_5 : decode cJ4_append_15ec4 5 = .ok (.pop, 1) := by decide +kernel
theorem dJ4_append_15ec4_6 : decode cJ4_append_15ec4 6 = .ok (.aload_n 0, 1) := by decide +kernel
theorem dJ4_append_15ec4_7 : decode cJ4_append_15ec4 7 = .ok (.areturn, 1) := by decide +kernel
theorem dJ4_append_cf468_0 : decode cJ4_append_cf468 0 = .ok (.aload_n 0, 1) := by decide +kernel
theorem dJ4_append_cf468_1 : decode cJ4_append_cf468 1 = .ok (.iload_n 1, 1) := by decide +kernel
theorem dJ4_append_cf468_2 : decode cJ4_append_cf468 2 = .ok (.invokespecial 50, 3) := by decide +kernel
theorem dJ4_append_cf468_5 : decode cJ4_append_cf468 5 = .ok (.pop, 1) := by decide +kernel
theorem dJ4_append_cf468_6 : decode cJ4_append_cf468 6 = .ok (.aload_n 0, 1) := by decide +kernel
theorem dJ4_append_cf468_7 : decode cJ4_append_cf468 7 = .ok (.areturn, 1) := by decide +kernel
theorem dJ4_append_bf812_0 : decode cJ4_append_bf812 0 = .ok (.aload_n 0, 1) := by decide +kernel
theorem dJ4_append_bf812_1 : decode cJ4_append_bf812 1 = .ok (.iload_n 1, 1) := by decide +kernel
theorem dJ4_append_bf812_2 : decode cJ4_append_bf812 2 = .ok (.invokespecial 53, 3) := by decide +kernel
theorem dJ4_append_bf812_5 : decode cJ4_append_bf812 5 = .ok (.pop, 1) := by decide +kernel
theorem dJ4_append_bf812_6 : decode cJ4_append_bf812 6 = .ok (.aload_n 0, 1) := by decide +kernel
theorem dJ4_append_bf812_7 : decode cJ4_append_bf812 7 = .ok (.areturn, 1) := by decide +kernel
theorem dJ4_toString_0e30d_0 : decode cJ4_toString_0e30d 0 = .ok (.new 18, 3) := by decide +kernel
theorem dJ4_toString_0e30d_3 : decode cJ4_toString_0e30d 3 = .ok (.dup, 1) := by decide +kernel
theorem dJ4_toString_0e30d_4 : decode cJ4_toString_0e30d 4 = .ok (.aload_n 0, 1) := by decide +kernel
theorem dJ4_toString_0e30d_5 : decode cJ4_toString_0e30d 5 = .ok (.invokespecial 137, 3) := by decide +kernel
theorem dJ4_toString_0e30d_8 : decode cJ4_toString_0e30d 8 = .ok (.areturn, 1) := by decide +kernel
theorem dJ4_charAt_5068e_0 : decode cJ4_charAt_5068e 0 = .ok (.aload_n 0, 1) := by decide +kernel
theorem dJ4_charAt_5068e_1 : decode cJ4_charAt_5068e 1 = .ok (.iload_n 1, 1) := by decide +kernel
theorem dJ4_charAt_5068e_2 : decode cJ4_charAt_5068e 2 = .ok (.invokespecial 329, 3) := by decide +kernel
theorem dJ4_charAt_5068e_5 : decode cJ4_charAt_5068e 5 = .ok (.ireturn, 1) := by decide +kernel
theorem dJ4_setLength_d00df_0 : decode cJ4_setLength_d00df 0 = .ok (.aload_n 0, 1) := by decide +kernel
theorem dJ4_setLength_d00df_1 : decode cJ4_setLength_d00df 1 = .ok (.iload_n 1, 1) := by decide +kernel
theorem dJ4_setLength_d00df_2 : decode cJ4_setLength_d00df 2 = .ok (.invokespecial 333, 3) := by decide +kernel
theorem dJ4_setLength_d00df_5 : decode cJ4_setLength_d00df 5 = .ok (.return_, 1) := by decide +kernel
theorem dJ4_length_8abf5_0 : decode cJ4_length_8abf5 0 = .ok (.aload_n 0, 1) := by decide +kernel
theorem dJ4_length_8abf5_1 : decode cJ4_length_8abf5 1 = .ok (.invokespecial 343, 3) := by decide +kernel
theorem dJ4_length_8abf5_4 : decode cJ4_length_8abf5 4 = .ok (.ireturn, 1) := by decide +kernel
theorem dJx7c733_init_d00df_0 : decode cJx7c733_init_d00df 0 = .ok (.aload_n 0, 1) := by decide +kernel
theorem dJx7c733_init_d00df_1 : decode cJx7c733_init_d00df 1 = .ok (.new 10, 3) := by decide +kernel
theorem dJx7c733_init_d00df_4 : decode cJx7c733_init_d00df 4 = .ok (.dup, 1) := by decide +kernel
theorem dJx7c733_init_d00df_5 : decode cJx7c733_init_d00df 5 = .ok (.invokespecial 12, 3) := by decide +kernel
theorem dJx7c733_init_d00df_8 : decode cJx7c733_init_d00df 8 = .ok (.ldc 13, 2) := by decide +kernel
theorem dJx7c733_init_d00df_10 : decode cJx7c733_init_d00df 10 = .ok (.invokevirtual 15, 3) := by decide +kernel
theorem dJx7c733_init_d00df_13 : decode cJx7c733_init_d00df 13 = .ok (.iload_n 1, 1) := by decide +kernel
theorem dJx7c733_init_d00df_14 : decode cJx7c733_init_d00df 14 = .ok (.invokevirtual 19, 3) := by decide +kernel
theorem dJx7c733_init_d00df_17 : decode cJx7c733_init_d00df 17 = .ok (.invokevirtual 22, 3) := by decide +kernel
theorem dJx7c733_init_d00df_20 : decode cJx7c733_init_d00df 20 = .ok (.invokespecial 7, 3) := by decide +kernel
theorem dJx7c733_init_d00df_23 : decode cJx7c733_init_d00df 23 = .ok (.return_, 1) := by decide +kernel
theorem dJ1_canEncode_fc78d_0 : decode cJ1_canEncode_fc78d 0 = .ok (.iload_n 0, 1) := by decide +kernel
theorem dJ1_canEncode_fc78d_1 : decode cJ1_canEncode_fc78d 1 = .ok (.sipush 255, 3) := by decide +kernel
theorem dJ1_canEncode_fc78d_4 : decode cJ1_canEncode_fc78d 4 = .ok (.if_icmp .gt 7, 3) := by decide +kernel
theorem dJ1_canEncode_fc78d_7 : decode cJ1_canEncode_fc78d 7 = .ok (.iconst 1, 1) := by decide +kernel
theorem dJ1_canEncode_fc78d_8 : decode cJ1_canEncode_fc78d 8 = .ok (.goto 4, 3) := by decide +kernel
theorem dJ1_canEncode_fc78d_11 : decode cJ1_canEncode_fc78d 11 = .ok (.iconst 0, 1) := by decide +kernel
theorem dJ1_canEncode_fc78d_12 : decode cJ1_canEncode_fc78d 12 = .ok (.ireturn, 1) := by decide +kernel
theorem dJ1_fillNull_b72d1_0 : decode cJ1_fillNull_b72d1 0 = .ok (.aload_n 0, 1) := by decide +kernel
theorem dJ1_fillNull_b72d1_1 : decode cJ1_fillNull_b72d1 1 = .ok (.iload_n 1, 1) := by decide +kernel
theorem dJ1_fillNull_b72d1_2 : decode cJ1_fillNull_b72d1 2 = .ok (.iload_n 2, 1) := by decide +kernel
theorem dJ1_fillNull_b72d1_3 : decode cJ1_fillNull_b72d1 3 = .ok (.iconst 0, 1) := by decide +kernel
theorem dJ1_fillNull_b72d1_4 : decode cJ1_fillNull_b72d1 4 = .ok (.invokestatic 236, 3) := by decide +kernel
theorem dJ1_fillNull_b72d1_7 : decode cJ1_fillNull_b72d1 7 = .ok (.return_, 1) := by decide +kernel
theorem dJ1_inflate_0e8fd_0 : decode cJ1_inflate_0e8fd 0 = .ok (.aload_n 0, 1) := by decide +kernel
theorem dJ1_inflate_0e8fd_1 : decode cJ1_inflate_0e8fd 1 = .ok (.iload_n 1, 1) := by decide +kernel
theorem dJ1_inflate_0e8fd_2 : decode cJ1_inflate_0e8fd 2 = .ok (.aload_n 2, 1) := by decide +kernel
theorem dJ1_inflate_0e8fd_3 : decode cJ1_inflate_0e8fd 3 = .ok (.iload_n 3, 1) := by decide +kernel
theorem dJ1_inflate_0e8fd_4 : decode cJ1_inflate_0e8fd 4 = .ok (.iload 4, 2) := by decide +kernel
theorem dJ1_inflate_0e8fd_6 : decode cJ1_inflate_0e8fd 6 = .ok (.invokestatic 240, 3) := by decide +kernel
theorem dJ1_inflate_0e8fd_9 : decode cJ1_inflate_0e8fd 9 = .ok (.return_, 1) := by decide +kernel
theorem dJ2_newBytesFor_77867_0 : decode cJ2_newBytesFor_77867 0 = .ok (.iload_n 0, 1) := by decide +kernel
theorem dJ2_newBytesFor_77867_1 : decode cJ2_newBytesFor_77867 1 = .ok (.invokestatic 11, 3) := by decide +kernel
theorem dJ2_newBytesFor_77867_4 : decode cJ2_newBytesFor_77867 4 = .ok (.newarray .byte, 2) := by decide +kernel
theorem dJ2_newBytesFor_77867_6 : decode cJ2_newBytesFor_77867 6 = .ok (.areturn, 1) := by decide +kernel
theorem dJ2_newBytesLength_0f7a4_0 : decode cJ2_newBytesLength_0f7a4 0 = .ok (.iload_n 0, 1) := by decide +kernel
theorem dJ2_newBytesLength_0f7a4_1 : decode cJ2_newBytesLength_0f7a4 1 = .ok (.ifCond .ge 11, 3) := by decide +kernel
theorem dJ2_newBytesLength_0f7a4_4 : decode cJ2_newBytesLength_0f7a4 4 = .ok (.new 17, 3) := by decide +kernel
theorem dJ2_newBytesLength_0f7a4_7 : decode cJ2_newBytesLength_0f7a4 7 = .ok (.dup, 1) := by decide +kernel
theorem dJ2_newBytesLength_0f7a4_8 : decode cJ2_newBytesLength_0f7a4 8 = .ok (.invokespecial 19, 3) := by decide +kernel
theorem dJ2_newBytesLength_0f7a4_11 : decode cJ2_newBytesLength_0f7a4 11 = .ok (.athrow, 1) := by decide +kernel
theorem dJ2_newBytesLength_0f7a4_12 : decode cJ2_newBytesLength_0f7a4 12 = .ok (.iload_n 0, 1) := by decide +kernel
theorem dJ2_newBytesLength_0f7a4_13 : decode cJ2_newBytesLength_0f7a4 13 = .ok (.ldc 20, 2) := by decide +kernel
theorem dJ2_newBytesLength_0f7a4_15 : decode cJ2_newBytesLength_0f7a4 15 = .ok (.if_icmp .lt 40, 3) := by decide +kernel
theorem dJ2_newBytesLength_0f7a4_18 : decode cJ2_newBytesLength_0f7a4 18 = .ok (.new 21, 3) := by decide +kernel
theorem dJ2_newBytesLength_0f7a4_21 : decode cJ2_newBytesLength_0f7a4 21 = .ok (.dup, 1) := by decide +kernel
theorem dJ2_newBytesLength_0f7a4_22 : decode cJ2_newBytesLength_0f7a4 22 = .ok (.new 23, 3) := by decide +kernel
theorem dJ2_newBytesLength_0f7a4_25 : decode cJ2_newBytesLength_0f7a4 25 = .ok (.dup, 1) := by decide +kernel
theorem dJ2_newBytesLength_0f7a4_26 : decode cJ2_newBytesLength_0f7a4 26 = .ok (.invokespecial 25, 3) := by decide +kernel
theorem dJ2_newBytesLength_0f7a4_29 : decode cJ2_newBytesLength_0f7a4 29 = .ok (.ldc 26, 2) := by decide +kernel
theorem dJ2_newBytesLength_0f7a4_31 : decode cJ2_newBytesLength_0f7a4 31 = .ok (.invokevirtual 28, 3) := by decide +kernel
theorem dJ2_newBytesLength_0f7a4_34 : decode cJ2_newBytesLength_0f7a4 34 = .ok (.iload_n 0, 1) := by decide +kernel
theorem dJ2_newBytesLength_0f7a4_35 : decode cJ2_newBytesLength_0f7a4 35 = .ok (.invokevirtual 32, 3) := by decide +kernel
theorem dJ2_newBytesLength_0f7a4_38 : decode cJ2_newBytesLength_0f7a4 38 = .ok (.ldc 35, 2) := by decide +kernel
theorem dJ2_newBytesLength_0f7a4_40 : decode cJ2_newBytesLength_0f7a4 40 = .ok (.invokevirtual 28, 3) := by decide +kernel
theorem dJ2_newBytesLength_0f7a4_43 : decode cJ2_newBytesLength_0f7a4 43 = .ok (.ldc 20, 2) := by decide +kernel
theorem dJ2_newBytesLength_0f7a4_45 : decode cJ2_newBytesLength_0f7a4 45 = .ok (.invokevirtual 32, 3) := by decide +kernel
theorem dJ2_newBytesLength_0f7a4_48 : decode cJ2_newBytesLength_0f7a4 48 = .ok (.invokevirtual 37, 3) := by decide +kernel
theorem dJ2_newBytesLength_0f7a4_51 : decode cJ2_newBytesLength_0f7a4 51 = .ok (.invokespecial 41, 3) := by decide +kernel
theorem dJ2_newBytesLength_0f7a4_54 : decode cJ2_newBytesLength_0f7a4 54 = .ok (.athrow, 1) := by decide +kernel
theorem dJ2_newBytesLength_0f7a4_55 : decode cJ2_newBytesLength_0f7a4 55 = .ok (.iload_n 0, 1) := by decide +kernel
theorem dJ2_newBytesLength_0f7a4_56 : decode cJ2_newBytesLength_0f7a4 56 = .ok (.iconst 1, 1) := by decide +kernel
theorem dJ2_newBytesLength_0f7a4_57 : decode cJ2_newBytesLength_0f7a4 57 = .ok (.ishl, 1) := by decide +kernel
theorem dJ2_newBytesLength_0f7a4_58 : decode cJ2_newBytesLength_0f7a4 58 = .ok (.ireturn, 1) := by decide +kernel
theorem dJ2_putChar_b72d1_0 : decode cJ2_putChar_b72d1 0 = .ok (.getstatic 44, 3) := by decide +kernel
theorem dJ2_putChar_b72d1_3 : decode cJ2_putChar_b72d1 3 = .ok (.ifCond .ne 25, 3) := by decide +kernel
theorem dJ2_putChar_b72d1_6 : decode cJ2_putChar_b72d1 6 = .ok (.iload_n 1, 1) := by decide +kernel
theorem dJ2_putChar_b72d1_7 : decode cJ2_putChar_b72d1 7 = .ok (.ifCond .lt 11, 3) := by decide +kernel
theorem dJ2_putChar_b72d1_10 : decode cJ2_putChar_b72d1 10 = .ok (.iload_n 1, 1) := by decide +kernel
theorem dJ2_putChar_b72d1_11 : decode cJ2_putChar_b72d1 11 = .ok (.aload_n 0, 1) := by decide +kernel
theorem dJ2_putChar_b72d1_12 : decode cJ2_putChar_b72d1 12 = .ok (.invokestatic 48, 3) := by decide +kernel
theorem dJ2_putChar_b72d1_15 : decode cJ2_putChar_b72d1 15 = .ok (.if_icmp .lt 13, 3) := by decide +kernel
theorem dJ2_putChar_b72d1_18 : decode cJ2_putChar_b72d1 18 = .ok (.new 52, 3) := by decide +kernel
theorem dJ2_putChar_b72d1_21 : decode cJ2_putChar_b72d1 21 = .ok (.dup, 1) := by decide +kernel
theorem dJ2_putChar_b72d1_22 : decode cJ2_putChar_b72d1 22 = .ok (.ldc 54, 2) := by decide +kernel
theorem dJ2_putChar_b72d1_24 : decode cJ2_putChar_b72d1 24 = .ok (.invokespecial 56, 3) := by decide +kernel
theorem dJ2_putChar_b72d1_27 : decode cJ2_putChar_b72d1 27 = .ok (.athrow, 1) := by decide +kernel
theorem dJ2_putChar_b72d1_28 : decode cJ2_putChar_b72d1 28 = .ok (.iload_n 1, 1) := by decide +kernel
theorem dJ2_putChar_b72d1_29 : decode cJ2_putChar_b72d1 29 = .ok (.iconst 1, 1) := by decide +kernel
theorem dJ2_putChar_b72d1_30 : decode cJ2_putChar_b72d1 30 = .ok (.ishl, 1) := by decide +kernel
theorem dJ2_putChar_b72d1_31 : decode cJ2_putChar_b72d1 31 = .ok (.istore_n 1, 1) := by decide +kernel
theorem dJ2_putChar_b72d1_32 : decode cJ2_putChar_b72d1 32 = .ok (.aload_n 0, 1) := by decide +kernel
theorem dJ2_putChar_b72d1_33 : decode cJ2_putChar_b72d1 33 = .ok (.iload_n 1, 1) := by decide +kernel
theorem dJ2_putChar_b72d1_34 : decode cJ2_putChar_b72d1 34 = .ok (.iinc 1 1, 3) := by decide +kernel
theorem dJ2_putChar_b72d1_37 : decode cJ2_putChar_b72d1 37 = .ok (.iload_n 2, 1) := by decide +kernel
theorem dJ2_putChar_b72d1_38 : decode cJ2_putChar_b72d1 38 = .ok (.getstatic 59, 3) := by decide +kernel
theorem dJ2_putChar_b72d1_41 : decode cJ2_putChar_b72d1 41 = .ok (.ishr, 1) := by decide +kernel
theorem dJ2_putChar_b72d1_42 : decode cJ2_putChar_b72d1 42 = .ok (.i2b, 1) := by decide +kernel
theorem dJ2_putChar_b72d1_43 : decode cJ2_putChar_b72d1 43 = .ok (.bastore, 1) := by decide +kernel
theorem dJ2_putChar_b72d1_44 : decode cJ2_putChar_b72d1 44 = .ok (.aload_n 0, 1) := by decide +kernel
theorem dJ2_putChar_b72d1_45 : decode cJ2_putChar_b72d1 45 = .ok (.iload_n 1, 1) := by decide +kernel
theorem dJ2_putChar_b72d1_46 : decode cJ2_putChar_b72d1 46 = .ok (.iload_n 2, 1) := by decide +kernel
theorem dJ2_putChar_b72d1_47 : decode cJ2_putChar_b72d1 47 = .ok (.getstatic 63, 3) := by decide +kernel
theorem dJ2_putChar_b72d1_50 : decode cJ2_putChar_b72d1 50 = .ok (.ishr, 1) := by decide +kernel
theorem dJ2_putChar_b72d1_51 : decode cJ2_putChar_b72d1 51 = .ok (.i2b, 1) := by decide +kernel
theorem dJ2_putChar_b72d1_52 : decode cJ2_putChar_b72d1 52 = .ok (.bastore, 1) := by decide +kernel
theorem dJ2_putChar_b72d1_53 : decode cJ2_putChar_b72d1 53 = .ok (.return_, 1) := by decide +kernel
theorem dJ2_getChar_3b067_0 : decode cJ2_getChar_3b067 0 = .ok (.getstatic 44, 3) := by decide +kernel
theorem dJ2_getChar_3b067_3 : decode cJ2_getChar_3b067 3 = .ok (.ifCond .ne 25, 3) := by decide +kernel
theorem dJ2_getChar_3b067_6 : decode cJ2_getChar_3b067 6 = .ok (.iload_n 1, 1) := by decide +kernel
theorem dJ2_getChar_3b067_7 : decode cJ2_getChar_3b067 7 = .ok (.ifCond .lt 11, 3) := by decide +kernel
theorem dJ2_getChar_3b067_10 : decode cJ2_getChar_3b067 10 = .ok (.iload_n 1, 1) := by decide +kernel
theorem dJ2_getChar_3b067_11 : decode cJ2_getChar_3b067 11 = .ok (.aload_n 0, 1) := by decide +kernel
theorem dJ2_getChar_3b067_12 : decode cJ2_getChar_3b067 12 = .ok (.invokestatic 48, 3) := by decide +kernel
theorem dJ2_getChar_3b067_15 : decode cJ2_getChar_3b067 15 = .ok (.if_icmp .lt 13, 3) := by decide +kernel
theorem dJ2_getChar_3b067_18 : decode cJ2_getChar_3b067 18 = .ok (.new 52, 3) := by decide +kernel
theorem dJ2_getChar_3b067_21 : decode cJ2_getChar_3b067 21 = .ok (.dup, 1) := by decide +kernel
theorem dJ2_getChar_3b067_22 : decode cJ2_getChar_3b067 22 = .ok (.ldc 54, 2) := by decide +kernel
theorem dJ2_getChar_3b067_24 : decode cJ2_getChar_3b067 24 = .ok (.invokespecial 56, 3) := by decide +kernel
theorem dJ2_getChar_3b067_27 : decode cJ2_getChar_3b067 27 = .ok (.athrow, 1) := by decide +kernel
theorem dJ2_getChar_3b067_28 : decode cJ2_getChar_3b067 28 = .ok (.iload_n 1, 1) := by decide +kernel
theorem dJ2_getChar_3b067_29 : decode cJ2_getChar_3b067 29 = .ok (.iconst 1, 1) := by decide +kernel
theorem dJ2_getChar_3b067_30 : decode cJ2_getChar_3b067 30 = .ok (.ishl, 1) := by decide +kernel
theorem dJ2_getChar_3b067_31 : decode cJ2_getChar_3b067 31 = .ok (.istore_n 1, 1) := by decide +kernel
theorem dJ2_getChar_3b067_32 : decode cJ2_getChar_3b067 32 = .ok (.aload_n 0, 1) := by decide +kernel
theorem dJ2_getChar_3b067_33 : decode cJ2_getChar_3b067 33 = .ok (.iload_n 1, 1) := by decide +kernel
theorem dJ2_getChar_3b067_34 : decode cJ2_getChar_3b067 34 = .ok (.iinc 1 1, 3) := by decide +kernel
theorem dJ2_getChar_3b067_37 : decode cJ2_getChar_3b067 37 = .ok (.baload, 1) := by decide +kernel
theorem dJ2_getChar_3b067_38 : decode cJ2_getChar_3b067 38 = .ok (.sipush 255, 3) := by decide +kernel
theorem dJ2_getChar_3b067_41 : decode cJ2_getChar_3b067 41 = .ok (.iand, 1) := by decide +kernel
theorem dJ2_getChar_3b067_42 : decode cJ2_getChar_3b067 42 = .ok (.getstatic 59, 3) := by decide +kernel
theorem dJ2_getChar_3b067_45 : decode cJ2_getChar_3b067 45 = .ok (.ishl, 1) := by decide +kernel
theorem dJ2_getChar_3b067_46 : decode cJ2_getChar_3b067 46 = .ok (.aload_n 0, 1) := by decide +kernel
theorem dJ2_getChar_3b067_47 : decode cJ2_getChar_3b067 47 = .ok (.iload_n 1, 1) := by decide +kernel
theorem dJ2_getChar_3b067_48 : decode cJ2_getChar_3b067 48 = .ok (.baload, 1) := by decide +kernel
theorem dJ2_getChar_3b067_49 : decode cJ2_getChar_3b067 49 = .ok (.sipush 255, 3) := by decide +kernel
theorem dJ2_getChar_3b067_52 : decode cJ2_getChar_3b067 52 = .ok (.iand, 1) := by decide +kernel
theorem dJ2_getChar_3b067_53 : decode cJ2_getChar_3b067 53 = .ok (.getstatic 63, 3) := by decide +kernel
theorem dJ2_getChar_3b067_56 : decode cJ2_getChar_3b067 56 = .ok (.ishl, 1) := by decide +kernel
theorem dJ2_getChar_3b067_57 : decode cJ2_getChar_3b067 57 = .ok (.ior, 1) := by decide +kernel
theorem dJ2_getChar_3b067_58 : decode cJ2_getChar_3b067 58 = .ok (.i2c, 1) := by decide +kernel
theorem dJ2_getChar_3b067_59 : decode cJ2_getChar_3b067 59 = .ok (.ireturn, 1) := by decide +kernel
theorem dJ2_length_9d52b_0 : decode cJ2_length_9d52b 0 = .ok (.aload_n 0, 1) := by decide +kernel
theorem dJ2_length_9d52b_1 : decode cJ2_length_9d52b 1 = .ok (.arraylength, 1) := by decide +kernel
theorem dJ2_length_9d52b_2 : decode cJ2_length_9d52b 2 = .ok (.iconst 1, 1) := by decide +kernel
theorem dJ2_length_9d52b_3 : decode cJ2_length_9d52b 3 = .ok (.ishr, 1) := by decide +kernel
theorem dJ2_length_9d52b_4 : decode cJ2_length_9d52b 4 = .ok (.ireturn, 1) := by decide +kernel
theorem dJ2_coderFromArrayLen_85cad_0 : decode cJ2_coderFromArrayLen_85cad 0 = .ok (.iload_n 1, 1) := by decide +kernel
theorem dJ2_coderFromArrayLen_85cad_1 : decode cJ2_coderFromArrayLen_85cad 1 = .ok (.aload_n 0, 1) := by decide +kernel
theorem dJ2_coderFromArrayLen_85cad_2 : decode cJ2_coderFromArrayLen_85cad 2 = .ok (.arraylength, 1) := by decide +kernel
theorem dJ2_coderFromArrayLen_85cad_3 : decode cJ2_coderFromArrayLen_85cad 3 = .ok (.isub, 1) := by decide +kernel
theorem dJ2_coderFromArrayLen_85cad_4 : decode cJ2_coderFromArrayLen_85cad 4 = .ok (.bipush 31, 2) := by decide +kernel
theorem dJ2_coderFromArrayLen_85cad_6 : decode cJ2_coderFromArrayLen_85cad 6 = .ok (.iushr, 1) := by decide +kernel
theorem dJ2_coderFromArrayLen_85cad_7 : decode cJ2_coderFromArrayLen_85cad 7 = .ok (.i2b, 1) := by decide +kernel
theorem dJ2_coderFromArrayLen_85cad_8 : decode cJ2_coderFromArrayLen_85cad 8 = .ok (.ireturn, 1) := by decide +kernel
theorem dJ2_compress_39247_0 : decode cJ2_compress_39247 0 = .ok (.iload_n 2, 1) := by decide +kernel
theorem dJ2_compress_39247_1 : decode cJ2_compress_39247 1 = .ok (.newarray .byte, 2) := by decide +kernel
theorem dJ2_compress_39247_3 : decode cJ2_compress_39247 3 = .ok (.astore_n 3, 1) := by decide +kernel
theorem dJ2_compress_39247_4 : decode cJ2_compress_39247 4 = .ok (.aload_n 0, 1) := by decide +kernel
theorem dJ2_compress_39247_5 : decode cJ2_compress_39247 5 = .ok (.iload_n 1, 1) := by decide +kernel
theorem dJ2_compress_39247_6 : decode cJ2_compress_39247 6 = .ok (.aload_n 3, 1) := by decide +kernel
theorem dJ2_compress_39247_7 : decode cJ2_compress_39247 7 = .ok (.iconst 0, 1) := by decide +kernel
theorem dJ2_compress_39247_8 : decode cJ2_compress_39247 8 = .ok (.iload_n 2, 1) := by decide +kernel
theorem dJ2_compress_39247_9 : decode cJ2_compress_39247 9 = .ok (.invokestatic 123, 3) := by decide +kernel
theorem dJ2_compress_39247_12 : decode cJ2_compress_39247 12 = .ok (.istore 4, 2) := by decide +kernel
theorem dJ2_compress_39247_14 : decode cJ2_compress_39247 14 = .ok (.iload 4, 2) := by decide +kernel
theorem dJ2_compress_39247_16 : decode cJ2_compress_39247 16 = .ok (.iload_n 2, 1) := by decide +kernel
theorem dJ2_compress_39247_17 : decode cJ2_compress_39247 17 = .ok (.if_icmp .eq 47, 3) := by decide +kernel
theorem dJ2_compress_39247_20 : decode cJ2_compress_39247 20 = .ok (.aload_n 0, 1) := by decide +kernel
theorem dJ2_compress_39247_21 : decode cJ2_compress_39247 21 = .ok (.iload_n 1, 1) := by decide +kernel
theorem dJ2_compress_39247_22 : decode cJ2_compress_39247 22 = .ok (.iconst 1, 1) := by decide +kernel
theorem dJ2_compress_39247_23 : decode cJ2_compress_39247 23 = .ok (.ishl, 1) := by decide +kernel
theorem dJ2_compress_39247_24 : decode cJ2_compress_39247 24 = .ok (.iload_n 1, 1) := by decide +kernel
theorem dJ2_compress_39247_25 : decode cJ2_compress_39247 25 = .ok (.iload_n 2, 1) := by decide +kernel
theorem dJ2_compress_39247_26 : decode cJ2_compress_39247 26 = .ok (.iadd, 1) := by decide +kernel
theorem dJ2_compress_39247_27 : decode cJ2_compress_39247 27 = .ok (.invokestatic 11, 3) := by decide +kernel
theorem dJ2_compress_39247_30 : decode cJ2_compress_39247 30 = .ok (.invokestatic 126, 3) := by decide +kernel
theorem dJ2_compress_39247_33 : decode cJ2_compress_39247 33 = .ok (.astore 5, 2) := by decide +kernel
theorem dJ2_compress_39247_35 : decode cJ2_compress_39247 35 = .ok (.aload 5, 2) := by decide +kernel
theorem dJ2_compress_39247_37 : decode cJ2_compress_39247 37 = .ok (.iload 4, 2) := by decide +kernel
theorem dJ2_compress_39247_39 : decode cJ2_compress_39247 39 = .ok (.invokestatic 71, 3) := by decide +kernel
theorem dJ2_compress_39247_42 : decode cJ2_compress_39247 42 = .ok (.sipush 255, 3) := by decide +kernel
theorem dJ2_compress_39247_45 : decode cJ2_compress_39247 45 = .ok (.if_icmp .gt 16, 3) := by decide +kernel
theorem dJ2_compress_39247_48 : decode cJ2_compress_39247 48 = .ok (.aload 5, 2) := by decide +kernel
theorem dJ2_compress_39247_50 : decode cJ2_compress_39247 50 = .ok (.iconst 0, 1) := by decide +kernel
theorem dJ2_compress_39247_51 : decode cJ2_compress_39247 51 = .ok (.aload_n 3, 1) := by decide +kernel
theorem dJ2_compress_39247_52 : decode cJ2_compress_39247 52 = .ok (.iconst 0, 1) := by decide +kernel
theorem dJ2_compress_39247_53 : decode cJ2_compress_39247 53 = .ok (.iload_n 2, 1) := by decide +kernel
theorem dJ2_compress_39247_54 : decode cJ2_compress_39247 54 = .ok (.invokestatic 123, 3) := by decide +kernel
theorem dJ2_compress_39247_57 : decode cJ2_compress_39247 57 = .ok (.iload_n 2, 1) := by decide +kernel
theorem dJ2_compress_39247_58 : decode cJ2_compress_39247 58 = .ok (.if_icmp .eq 6, 3) := by decide +kernel
theorem dJ2_compress_39247_61 : decode cJ2_compress_39247 61 = .ok (.aload 5, 2) := by decide +kernel
theorem dJ2_compress_39247_63 : decode cJ2_compress_39247 63 = .ok (.areturn, 1) := by decide +kernel
theorem dJ2_compress_39247_64 : decode cJ2_compress_39247 64 = .ok (.aload_n 3, 1) := by decide +kernel
theorem dJ2_compress_39247_65 : decode cJ2_compress_39247 65 = .ok (.areturn, 1) := by decide +kernel
theorem dJ2_compress_5af95_0 : decode cJ2_compress_5af95 0 = .ok (.iload_n 1, 1) := by decide +kernel
theorem dJ2_compress_5af95_1 : decode cJ2_compress_5af95 1 = .ok (.iload 4, 2) := by decide +kernel
theorem dJ2_compress_5af95_3 : decode cJ2_compress_5af95 3 = .ok (.aload_n 0, 1) := by decide +kernel
theorem dJ2_compress_5af95_4 : decode cJ2_compress_5af95 4 = .ok (.invokestatic 173, 3) := by decide +kernel
theorem dJ2_compress_5af95_7 : decode cJ2_compress_5af95 7 = .ok (.iconst 0, 1) := by decide +kernel
theorem dJ2_compress_5af95_8 : decode cJ2_compress_5af95 8 = .ok (.istore 5, 2) := by decide +kernel
theorem dJ2_compress_5af95_10 : decode cJ2_compress_5af95 10 = .ok (.iload 5, 2) := by decide +kernel
theorem dJ2_compress_5af95_12 : decode cJ2_compress_5af95 12 = .ok (.iload 4, 2) := by decide +kernel
theorem dJ2_compress_5af95_14 : decode cJ2_compress_5af95 14 = .ok (.if_icmp .ge 39, 3) := by decide +kernel
theorem dJ2_compress_5af95_17 : decode cJ2_compress_5af95 17 = .ok (.aload_n 0, 1) := by decide +kernel
theorem dJ2_compress_5af95_18 : decode cJ2_compress_5af95 18 = .ok (.iload_n 1, 1) := by decide +kernel
theorem dJ2_compress_5af95_19 : decode cJ2_compress_5af95 19 = .ok (.invokestatic 71, 3) := by decide +kernel
theorem dJ2_compress_5af95_22 : decode cJ2_compress_5af95 22 = .ok (.istore 6, 2) := by decide +kernel
theorem dJ2_compress_5af95_24 : decode cJ2_compress_5af95 24 = .ok (.iload 6, 2) := by decide +kernel
theorem dJ2_compress_5af95_26 : decode cJ2_compress_5af95 26 = .ok (.sipush 255, 3) := by decide +kernel
theorem dJ2_compress_5af95_29 : decode cJ2_compress_5af95 29 = .ok (.if_icmp .le 6, 3) := by decide +kernel
theorem dJ2_compress_5af95_32 : decode cJ2_compress_5af95 32 = .ok (.iload 5, 2) := by decide +kernel
theorem dJ2_compress_5af95_34 : decode cJ2_compress_5af95 34 = .ok (.ireturn, 1) := by decide +kernel
theorem dJ2_compress_5af95_35 : decode cJ2_compress_5af95 35 = .ok (.aload_n 2, 1) := by decide +kernel
theorem dJ2_compress_5af95_36 : decode cJ2_compress_5af95 36 = .ok (.iload_n 3, 1) := by decide +kernel
theorem dJ2_compress_5af95_37 : decode cJ2_compress_5af95 37 = .ok (.iload 6, 2) := by decide +kernel
theorem dJ2_compress_5af95_39 : decode cJ2_compress_5af95 39 = .ok (.i2b, 1) := by decide +kernel
theorem dJ2_compress_5af95_40 : decode cJ2_compress_5af95 40 = .ok (.bastore, 1) := by decide +kernel
theorem dJ2_compress_5af95_41 : decode cJ2_compress_5af95 41 = .ok (.iinc 1 1, 3) := by decide +kernel
theorem dJ2_compress_5af95_44 : decode cJ2_compress_5af95 44 = .ok (.iinc 3 1, 3) := by decide +kernel
theorem dJ2_compress_5af95_47 : decode cJ2_compress_5af95 47 = .ok (.iinc 5 1, 3) := by decide +kernel
theorem dJ2_compress_5af95_50 : decode cJ2_compress_5af95 50 = .ok (.goto (-40), 3) := by decide +kernel
theorem dJ2_compress_5af95_53 : decode cJ2_compress_5af95 53 = .ok (.iload 4, 2) := by decide +kernel
theorem dJ2_compress_5af95_55 : decode cJ2_compress_5af95 55 = .ok (.ireturn, 1) := by decide +kernel
theorem dJ2_fillNull_b72d1_0 : decode cJ2_fillNull_b72d1 0 = .ok (.aload_n 0, 1) := by decide +kernel
theorem dJ2_fillNull_b72d1_1 : decode cJ2_fillNull_b72d1 1 = .ok (.iload_n 1, 1) := by decide +kernel
theorem dJ2_fillNull_b72d1_2 : decode cJ2_fillNull_b72d1 2 = .ok (.iconst 1, 1) := by decide +kernel
theorem dJ2_fillNull_b72d1_3 : decode cJ2_fillNull_b72d1 3 = .ok (.ishl, 1) := by decide +kernel
theorem dJ2_fillNull_b72d1_4 : decode cJ2_fillNull_b72d1 4 = .ok (.iload_n 2, 1) := by decide +kernel
theorem dJ2_fillNull_b72d1_5 : decode cJ2_fillNull_b72d1 5 = .ok (.iconst 1, 1) := by decide +kernel
theorem dJ2_fillNull_b72d1_6 : decode cJ2_fillNull_b72d1 6 = .ok (.ishl, 1) := by decide +kernel
theorem dJ2_fillNull_b72d1_7 : decode cJ2_fillNull_b72d1 7 = .ok (.iconst 0, 1) := by decide +kernel
theorem dJ2_fillNull_b72d1_8 : decode cJ2_fillNull_b72d1 8 = .ok (.invokestatic 380, 3) := by decide +kernel
theorem dJ2_fillNull_b72d1_11 : decode cJ2_fillNull_b72d1 11 = .ok (.return_, 1) := by decide +kernel
theorem dJ2_putCharSB_b72d1_0 : decode cJ2_putCharSB_b72d1 0 = .ok (.iload_n 1, 1) := by decide +kernel
theorem dJ2_putCharSB_b72d1_1 : decode cJ2_putCharSB_b72d1 1 = .ok (.aload_n 0, 1) := by decide +kernel
theorem dJ2_putCharSB_b72d1_2 : decode cJ2_putCharSB_b72d1 2 = .ok (.invokestatic 67, 3) := by decide +kernel
theorem dJ2_putCharSB_b72d1_5 : decode cJ2_putCharSB_b72d1 5 = .ok (.aload_n 0, 1) := by decide +kernel
theorem dJ2_putCharSB_b72d1_6 : decode cJ2_putCharSB_b72d1 6 = .ok (.iload_n 1, 1) := by decide +kernel
theorem dJ2_putCharSB_b72d1_7 : decode cJ2_putCharSB_b72d1 7 = .ok (.iload_n 2, 1) := by decide +kernel
theorem dJ2_putCharSB_b72d1_8 : decode cJ2_putCharSB_b72d1 8 = .ok (.invokestatic 111, 3) := by decide +kernel
theorem dJ2_putCharSB_b72d1_11 : decode cJ2_putCharSB_b72d1 11 = .ok (.return_, 1) := by decide +kernel
theorem dJ2_getChars_46870_0 : decode cJ2_getChars_46870 0 = .ok (.iload_n 1, 1) := by decide +kernel
theorem dJ2_getChars_46870_1 : decode cJ2_getChars_46870 1 = .ok (.iload_n 2, 1) := by decide +kernel
theorem dJ2_getChars_46870_2 : decode cJ2_getChars_46870 2 = .ok (.aload_n 3, 1) := by decide +kernel
theorem dJ2_getChars_46870_3 : decode cJ2_getChars_46870 3 = .ok (.invokestatic 96, 3) := by decide +kernel
theorem dJ2_getChars_46870_6 : decode cJ2_getChars_46870 6 = .ok (.iload_n 0, 1) := by decide +kernel
theorem dJ2_getChars_46870_7 : decode cJ2_getChars_46870 7 = .ok (.iload_n 2, 1) := by decide +kernel
theorem dJ2_getChars_46870_8 : decode cJ2_getChars_46870 8 = .ok (.aload_n 3, 1) := by decide +kernel
theorem dJ2_getChars_46870_9 : decode cJ2_getChars_46870 9 = .ok (.invokestatic 393, 3) := by decide +kernel
theorem dJ2_getChars_46870_12 : decode cJ2_getChars_46870 12 = .ok (.istore 4, 2) := by decide +kernel
theorem dJ2_getChars_46870_14 : decode cJ2_getChars_46870 14 = .ok (.getstatic 44, 3) := by decide +kernel
theorem dJ2_getChars_46870_17 : decode cJ2_getChars_46870 17 = .ok (.ifCond .ne 17, 3) := by decide +kernel
theorem dJ2_getChars_46870_20 : decode cJ2_getChars_46870 20 = .ok (.iload_n 1, 1) := by decide +kernel
theorem dJ2_getChars_46870_21 : decode cJ2_getChars_46870 21 = .ok (.iload 4, 2) := by decide +kernel
theorem dJ2_getChars_46870_23 : decode cJ2_getChars_46870 23 = .ok (.if_icmp .eq 11, 3) := by decide +kernel
theorem dJ2_getChars_46870_26 : decode cJ2_getChars_46870 26 = .ok (.new 52, 3) := by decide +kernel
theorem dJ2_getChars_46870_29 : decode cJ2_getChars_46870 29 = .ok (.dup, 1) := by decide +kernel
theorem dJ2_getChars_46870_30 : decode cJ2_getChars_46870 30 = .ok (.invokespecial 66, 3) := by decide +kernel
theorem dJ2_getChars_46870_33 : decode cJ2_getChars_46870 33 = .ok (.athrow, 1) := by decide +kernel
theorem dJ2_getChars_46870_34 : decode cJ2_getChars_46870 34 = .ok (.iload 4, 2) := by decide +kernel
theorem dJ2_getChars_46870_36 : decode cJ2_getChars_46870 36 = .ok (.ireturn, 1) := by decide +kernel
theorem dJ2_putCharsAt_cd4e5_0 : decode cJ2_putCharsAt_cd4e5 0 = .ok (.iload_n 1, 1) := by decide +kernel
theorem dJ2_putCharsAt_cd4e5_1 : decode cJ2_putCharsAt_cd4e5 1 = .ok (.iconst 4, 1) := by decide +kernel
theorem dJ2_putCharsAt_cd4e5_2 : decode cJ2_putCharsAt_cd4e5 2 = .ok (.iadd, 1) := by decide +kernel
theorem dJ2_putCharsAt_cd4e5_3 : decode cJ2_putCharsAt_cd4e5 3 = .ok (.istore 6, 2) := by decide +kernel
theorem dJ2_putCharsAt_cd4e5_5 : decode cJ2_putCharsAt_cd4e5 5 = .ok (.iload_n 1, 1) := by decide +kernel
theorem dJ2_putCharsAt_cd4e5_6 : decode cJ2_putCharsAt_cd4e5 6 = .ok (.iload 6, 2) := by decide +kernel
theorem dJ2_putCharsAt_cd4e5_8 : decode cJ2_putCharsAt_cd4e5 8 = .ok (.aload_n 0, 1) := by decide +kernel
theorem dJ2_putCharsAt_cd4e5_9 : decode cJ2_putCharsAt_cd4e5 9 = .ok (.invokestatic 96, 3) := by decide +kernel
theorem dJ2_putCharsAt_cd4e5_12 : decode cJ2_putCharsAt_cd4e5 12 = .ok (.aload_n 0, 1) := by decide +kernel
theorem dJ2_putCharsAt_cd4e5_13 : decode cJ2_putCharsAt_cd4e5 13 = .ok (.iload_n 1, 1) := by decide +kernel
theorem dJ2_putCharsAt_cd4e5_14 : decode cJ2_putCharsAt_cd4e5 14 = .ok (.iinc 1 1, 3) := by decide +kernel
theorem dJ2_putCharsAt_cd4e5_17 : decode cJ2_putCharsAt_cd4e5 17 = .ok (.iload_n 2, 1) := by decide +kernel
theorem dJ2_putCharsAt_cd4e5_18 : decode cJ2_putCharsAt_cd4e5 18 = .ok (.invokestatic 111, 3) := by decide +kernel
theorem dJ2_putCharsAt_cd4e5_21 : decode cJ2_putCharsAt_cd4e5 21 = .ok (.aload_n 0, 1) := by decide +kernel
theorem dJ2_putCharsAt_cd4e5_22 : decode cJ2_putCharsAt_cd4e5 22 = .ok (.iload_n 1, 1) := by decide +kernel
theorem dJ2_putCharsAt_cd4e5_23 : decode cJ2_putCharsAt_cd4e5 23 = .ok (.iinc 1 1, 3) := by decide +kernel
theorem dJ2_putCharsAt_cd4e5_26 : decode cJ2_putCharsAt_cd4e5 26 = .ok (.iload_n 3, 1) := by decide +kernel
theorem dJ2_putCharsAt_cd4e5_27 : decode cJ2_putCharsAt_cd4e5 27 = .ok (.invokestatic 111, 3) := by decide +kernel
theorem dJ2_putCharsAt_cd4e5_30 : decode cJ2_putCharsAt_cd4e5 30 = .ok (.aload_n 0, 1) := by decide +kernel
theorem dJ2_putCharsAt_cd4e5_31 : decode cJ2_putCharsAt_cd4e5 31 = .ok (.iload_n 1, 1) := by decide +kernel
theorem dJ2_putCharsAt_cd4e5_32 : decode cJ2_putCharsAt_cd4e5 32 = .ok (.iinc 1 1, 3) := by decide +kernel
theorem dJ2_putCharsAt_cd4e5_35 : decode cJ2_putCharsAt_cd4e5 35 = .ok (.iload 4, 2) := by decide +kernel
theorem dJ2_putCharsAt_cd4e5_37 : decode cJ2_putCharsAt_cd4e5 37 = .ok (.invokestatic 111, 3) := by decide +kernel
theorem dJ2_putCharsAt_cd4e5_40 : decode cJ2_putCharsAt_cd4e5 40 = .ok (.aload_n 0, 1) := by decide +kernel
theorem dJ2_putCharsAt_cd4e5_41 : decode cJ2_putCharsAt_cd4e5 41 = .ok (.iload_n 1, 1) := by decide +kernel
theorem dJ2_putCharsAt_cd4e5_42 : decode cJ2_putCharsAt_cd4e5 42 = .ok (.iinc 1 1, 3) := by decide +kernel
theorem dJ2_putCharsAt_cd4e5_45 : decode cJ2_putCharsAt_cd4e5 45 = .ok (.iload 5, 2) := by decide +kernel
theorem dJ2_putCharsAt_cd4e5_47 : decode cJ2_putCharsAt_cd4e5 47 = .ok (.invokestatic 111, 3) := by decide +kernel
theorem dJ2_putCharsAt_cd4e5_50 : decode cJ2_putCharsAt_cd4e5 50 = .ok (.getstatic 44, 3) := by decide +kernel
theorem dJ2_putCharsAt_cd4e5_53 : decode cJ2_putCharsAt_cd4e5 53 = .ok (.ifCond .ne 17, 3) := by decide +kernel
theorem dJ2_putCharsAt_cd4e5_56 : decode cJ2_putCharsAt_cd4e5 56 = .ok (.iload_n 1, 1) := by decide +kernel
theorem dJ2_putCharsAt_cd4e5_57 : decode cJ2_putCharsAt_cd4e5 57 = .ok (.iload 6, 2) := by decide +kernel
theorem dJ2_putCharsAt_cd4e5_59 : decode cJ2_putCharsAt_cd4e5 59 = .ok (.if_icmp .eq 11, 3) := by decide +kernel
theorem dJ2_putCharsAt_cd4e5_62 : decode cJ2_putCharsAt_cd4e5 62 = .ok (.new 52, 3) := by decide +kernel
theorem dJ2_putCharsAt_cd4e5_65 : decode cJ2_putCharsAt_cd4e5 65 = .ok (.dup, 1) := by decide +kernel
theorem dJ2_putCharsAt_cd4e5_66 : decode cJ2_putCharsAt_cd4e5 66 = .ok (.invokespecial 66, 3) := by decide +kernel
theorem dJ2_putCharsAt_cd4e5_69 : decode cJ2_putCharsAt_cd4e5 69 = .ok (.athrow, 1) := by decide +kernel
theorem dJ2_putCharsAt_cd4e5_70 : decode cJ2_putCharsAt_cd4e5 70 = .ok (.iload 6, 2) := by decide +kernel
theorem dJ2_putCharsAt_cd4e5_72 : decode cJ2_putCharsAt_cd4e5 72 = .ok (.ireturn, 1) := by decide +kernel
theorem dJ2_inflate_0e8fd_0 : decode cJ2_inflate_0e8fd 0 = .ok (.iload_n 3, 1) := by decide +kernel
theorem dJ2_inflate_0e8fd_1 : decode cJ2_inflate_0e8fd 1 = .ok (.iload 4, 2) := by decide +kernel
theorem dJ2_inflate_0e8fd_3 : decode cJ2_inflate_0e8fd 3 = .ok (.aload_n 2, 1) := by decide +kernel
theorem dJ2_inflate_0e8fd_4 : decode cJ2_inflate_0e8fd 4 = .ok (.invokestatic 173, 3) := by decide +kernel
theorem dJ2_inflate_0e8fd_7 : decode cJ2_inflate_0e8fd 7 = .ok (.iconst 0, 1) := by decide +kernel
theorem dJ2_inflate_0e8fd_8 : decode cJ2_inflate_0e8fd 8 = .ok (.istore 5, 2) := by decide +kernel
theorem dJ2_inflate_0e8fd_10 : decode cJ2_inflate_0e8fd 10 = .ok (.iload 5, 2) := by decide +kernel
theorem dJ2_inflate_0e8fd_12 : decode cJ2_inflate_0e8fd 12 = .ok (.iload 4, 2) := by decide +kernel
theorem dJ2_inflate_0e8fd_14 : decode cJ2_inflate_0e8fd 14 = .ok (.if_icmp .ge 27, 3) := by decide +kernel
theorem dJ2_inflate_0e8fd_17 : decode cJ2_inflate_0e8fd 17 = .ok (.aload_n 2, 1) := by decide +kernel
theorem dJ2_inflate_0e8fd_18 : decode cJ2_inflate_0e8fd 18 = .ok (.iload_n 3, 1) := by decide +kernel
theorem dJ2_inflate_0e8fd_19 : decode cJ2_inflate_0e8fd 19 = .ok (.iinc 3 1, 3) := by decide +kernel
theorem dJ2_inflate_0e8fd_22 : decode cJ2_inflate_0e8fd 22 = .ok (.aload_n 0, 1) := by decide +kernel
theorem dJ2_inflate_0e8fd_23 : decode cJ2_inflate_0e8fd 23 = .ok (.iload_n 1, 1) := by decide +kernel
theorem dJ2_inflate_0e8fd_24 : decode cJ2_inflate_0e8fd 24 = .ok (.iinc 1 1, 3) := by decide +kernel
theorem dJ2_inflate_0e8fd_27 : decode cJ2_inflate_0e8fd 27 = .ok (.baload, 1) := by decide +kernel
theorem dJ2_inflate_0e8fd_28 : decode cJ2_inflate_0e8fd 28 = .ok (.sipush 255, 3) := by decide +kernel
theorem dJ2_inflate_0e8fd_31 : decode cJ2_inflate_0e8fd 31 = .ok (.iand, 1) := by decide +kernel
theorem dJ2_inflate_0e8fd_32 : decode cJ2_inflate_0e8fd 32 = .ok (.invokestatic 111, 3) := by decide +kernel
theorem dJ2_inflate_0e8fd_35 : decode cJ2_inflate_0e8fd 35 = .ok (.iinc 5 1, 3) := by decide +kernel
theorem dJ2_inflate_0e8fd_38 : decode cJ2_inflate_0e8fd 38 = .ok (.goto (-28), 3) := by decide +kernel
theorem dJ2_inflate_0e8fd_41 : decode cJ2_inflate_0e8fd 41 = .ok (.return_, 1) := by decide +kernel
theorem dJ2_getChars_ba4f3_0 : decode cJ2_getChars_ba4f3 0 = .ok (.iload_n 1, 1) := by decide +kernel
theorem dJ2_getChars_ba4f3_1 : decode cJ2_getChars_ba4f3 1 = .ok (.istore 5, 2) := by decide +kernel
theorem dJ2_getChars_ba4f3_3 : decode cJ2_getChars_ba4f3 3 = .ok (.iload_n 0, 1) := by decide +kernel
theorem dJ2_getChars_ba4f3_4 : decode cJ2_getChars_ba4f3 4 = .ok (.ifCond .ge 7, 3) := by decide +kernel
theorem dJ2_getChars_ba4f3_7 : decode cJ2_getChars_ba4f3 7 = .ok (.iconst 1, 1) := by decide +kernel
theorem dJ2_getChars_ba4f3_8 : decode cJ2_getChars_ba4f3 8 = .ok (.goto 4, 3) := by decide +kernel
theorem dJ2_getChars_ba4f3_11 : decode cJ2_getChars_ba4f3 11 = .ok (.iconst 0, 1) := by decide +kernel
theorem dJ2_getChars_ba4f3_12 : decode cJ2_getChars_ba4f3 12 = .ok (.istore 6, 2) := by decide +kernel
theorem dJ2_getChars_ba4f3_14 : decode cJ2_getChars_ba4f3 14 = .ok (.iload 6, 2) := by decide +kernel
theorem dJ2_getChars_ba4f3_16 : decode cJ2_getChars_ba4f3 16 = .ok (.ifCond .ne 6, 3) := by decide +kernel
theorem dJ2_getChars_ba4f3_19 : decode cJ2_getChars_ba4f3 19 = .ok (.iload_n 0, 1) := by decide +kernel
theorem dJ2_getChars_ba4f3_20 : decode cJ2_getChars_ba4f3 20 = .ok (.ineg, 1) := by decide +kernel
theorem dJ2_getChars_ba4f3_21 : decode cJ2_getChars_ba4f3 21 = .ok (.istore_n 0, 1) := by decide +kernel
theorem dJ2_getChars_ba4f3_22 : decode cJ2_getChars_ba4f3 22 = .ok (.iload_n 0, 1) := by decide +kernel
theorem dJ2_getChars_ba4f3_23 : decode cJ2_getChars_ba4f3 23 = .ok (.bipush (-100), 2) := by decide +kernel
theorem dJ2_getChars_ba4f3_25 : decode cJ2_getChars_ba4f3 25 = .ok (.if_icmp .gt 51, 3) := by decide +kernel
theorem dJ2_getChars_ba4f3_28 : decode cJ2_getChars_ba4f3 28 = .ok (.iload_n 0, 1) := by decide +kernel
theorem dJ2_getChars_ba4f3_29 : decode cJ2_getChars_ba4f3 29 = .ok (.bipush 100, 2) := by decide +kernel
theorem dJ2_getChars_ba4f3_31 : decode cJ2_getChars_ba4f3 31 = .ok (.idiv, 1) := by decide +kernel
theorem dJ2_getChars_ba4f3_32 : decode cJ2_getChars_ba4f3 32 = .ok (.istore_n 3, 1) := by decide +kernel
theorem dJ2_getChars_ba4f3_33 : decode cJ2_getChars_ba4f3 33 = .ok (.iload_n 3, 1) := by decide +kernel
theorem dJ2_getChars_ba4f3_34 : decode cJ2_getChars_ba4f3 34 = .ok (.bipush 100, 2) := by decide +kernel
theorem dJ2_getChars_ba4f3_36 : decode cJ2_getChars_ba4f3 36 = .ok (.imul, 1) := by decide +kernel
theorem dJ2_getChars_ba4f3_37 : decode cJ2_getChars_ba4f3 37 = .ok (.iload_n 0, 1) := by decide +kernel
theorem dJ2_getChars_ba4f3_38 : decode cJ2_getChars_ba4f3 38 = .ok (.isub, 1) := by decide +kernel
theorem dJ2_getChars_ba4f3_39 : decode cJ2_getChars_ba4f3 39 = .ok (.istore 4, 2) := by decide +kernel
theorem dJ2_getChars_ba4f3_41 : decode cJ2_getChars_ba4f3 41 = .ok (.iload_n 3, 1) := by decide +kernel
theorem dJ2_getChars_ba4f3_42 : decode cJ2_getChars_ba4f3 42 = .ok (.istore_n 0, 1) := by decide +kernel
theorem dJ2_getChars_ba4f3_43 : decode cJ2_getChars_ba4f3 43 = .ok (.aload_n 2, 1) := by decide +kernel
theorem dJ2_getChars_ba4f3_44 : decode cJ2_getChars_ba4f3 44 = .ok (.iinc 5 (-1), 3) := by decide +kernel
theorem dJ2_getChars_ba4f3_47 : decode cJ2_getChars_ba4f3 47 = .ok (.iload 5, 2) := by decide +kernel
theorem dJ2_getChars_ba4f3_49 : decode cJ2_getChars_ba4f3 49 = .ok (.getstatic 403, 3) := by decide +kernel
theorem dJ2_getChars_ba4f3_52 : decode cJ2_getChars_ba4f3 52 = .ok (.iload 4, 2) := by decide +kernel
theorem dJ2_getChars_ba4f3_54 : decode cJ2_getChars_ba4f3 54 = .ok (.baload, 1) := by decide +kernel
theorem dJ2_getChars_ba4f3_55 : decode cJ2_getChars_ba4f3 55 = .ok (.invokestatic 111, 3) := by decide +kernel
theorem dJ2_getChars_ba4f3_58 : decode cJ2_getChars_ba4f3 58 = .ok (.aload_n 2, 1) := by decide +kernel
theorem dJ2_getChars_ba4f3_59 : decode cJ2_getChars_ba4f3 59 = .ok (.iinc 5 (-1), 3) := by decide +kernel
theorem dJ2_getChars_ba4f3_62 : decode cJ2_getChars_ba4f3 62 = .ok (.iload 5, 2) := by decide +kernel
theorem dJ2_getChars_ba4f3_64 : decode cJ2_getChars_ba4f3 64 = .ok (.getstatic 407, 3) := by decide +kernel
theorem dJ2_getChars_ba4f3_67 : decode cJ2_getChars_ba4f3 67 = .ok (.iload 4, 2) := by decide +kernel
theorem dJ2_getChars_ba4f3_69 : decode cJ2_getChars_ba4f3 69 = .ok (.baload, 1) := by decide +kernel
theorem dJ2_getChars_ba4f3_70 : decode cJ2_getChars_ba4f3 70 = .ok (.invokestatic 111, 3) := by decide +kernel
theorem dJ2_getChars_ba4f3_73 : decode cJ2_getChars_ba4f3 73 = .ok (.goto (-51), 3) := by decide +kernel
theorem dJ2_getChars_ba4f3_76 : decode cJ2_getChars_ba4f3 76 = .ok (.aload_n 2, 1) := by decide +kernel
theorem dJ2_getChars_ba4f3_77 : decode cJ2_getChars_ba4f3 77 = .ok (.iinc 5 (-1), 3) := by decide +kernel
theorem dJ2_getChars_ba4f3_80 : decode cJ2_getChars_ba4f3 80 = .ok (.iload 5, 2) := by decide +kernel
theorem dJ2_getChars_ba4f3_82 : decode cJ2_getChars_ba4f3 82 = .ok (.getstatic 403, 3) := by decide +kernel
theorem dJ2_getChars_ba4f3_85 : decode cJ2_getChars_ba4f3 85 = .ok (.iload_n 0, 1) := by decide +kernel
theorem dJ2_getChars_ba4f3_86 : decode cJ2_getChars_ba4f3 86 = .ok (.ineg, 1) := by decide +kernel
theorem dJ2_getChars_ba4f3_87 : decode cJ2_getChars_ba4f3 87 = .ok (.baload, 1) := by decide +kernel
theorem dJ2_getChars_ba4f3_88 : decode cJ2_getChars_ba4f3 88 = .ok (.invokestatic 111, 3) := by decide +kernel
theorem dJ2_getChars_ba4f3_91 : decode cJ2_getChars_ba4f3 91 = .ok (.iload_n 0, 1) := by decide +kernel
theorem dJ2_getChars_ba4f3_92 : decode cJ2_getChars_ba4f3 92 = .ok (.bipush (-9), 2) := by decide +kernel
theorem dJ2_getChars_ba4f3_94 : decode cJ2_getChars_ba4f3 94 = .ok (.if_icmp .ge 18, 3) := by decide +kernel
theorem dJ2_getChars_ba4f3_97 : decode cJ2_getChars_ba4f3 97 = .ok (.aload_n 2, 1) := by decide +kernel
theorem dJ2_getChars_ba4f3_98 : decode cJ2_getChars_ba4f3 98 = .ok (.iinc 5 (-1), 3) := by decide +kernel
theorem dJ2_getChars_ba4f3_101 : decode cJ2_getChars_ba4f3 101 = .ok (.iload 5, 2) := by decide +kernel
theorem dJ2_getChars_ba4f3_103 : decode cJ2_getChars_ba4f3 103 = .ok (.getstatic 407, 3) := by decide +kernel
theorem dJ2_getChars_ba4f3_106 : decode cJ2_getChars_ba4f3 106 = .ok (.iload_n 0, 1) := by decide +kernel
theorem dJ2_getChars_ba4f3_107 : decode cJ2_getChars_ba4f3 107 = .ok (.ineg, 1) := by decide +kernel
theorem dJ2_getChars_ba4f3_108 : decode cJ2_getChars_ba4f3 108 = .ok (.baload, 1) := by decide +kernel
theorem dJ2_getChars_ba4f3_109 : decode cJ2_getChars_ba4f3 109 = .ok (.invokestatic 111, 3) := by decide +kernel
theorem dJ2_getChars_ba4f3_112 : decode cJ2_getChars_ba4f3 112 = .ok (.iload 6, 2) := by decide +kernel
theorem dJ2_getChars_ba4f3_114 : decode cJ2_getChars_ba4f3 114 = .ok (.ifCond .eq 14, 3) := by decide +kernel
theorem dJ2_getChars_ba4f3_117 : decode cJ2_getChars_ba4f3 117 = .ok (.aload_n 2, 1) := by decide +kernel
theorem dJ2_getChars_ba4f3_118 : decode cJ2_getChars_ba4f3 118 = .ok (.iinc 5 (-1), 3) := by decide +kernel
theorem dJ2_getChars_ba4f3_121 : decode cJ2_getChars_ba4f3 121 = .ok (.iload 5, 2) := by decide +kernel
theorem dJ2_getChars_ba4f3_123 : decode cJ2_getChars_ba4f3 123 = .ok (.bipush 45, 2) := by decide +kernel
theorem dJ2_getChars_ba4f3_125 : decode cJ2_getChars_ba4f3 125 = .ok (.invokestatic 111, 3) := by decide +kernel
theorem dJ2_getChars_ba4f3_128 : decode cJ2_getChars_ba4f3 128 = .ok (.iload 5, 2) := by decide +kernel
theorem dJ2_getChars_ba4f3_130 : decode cJ2_getChars_ba4f3 130 = .ok (.ireturn, 1) := by decide +kernel
theorem dJ2_checkIndex_2214a_0 : decode cJ2_checkIndex_2214a 0 = .ok (.iload_n 0, 1) := by decide +kernel
theorem dJ2_checkIndex_2214a_1 : decode cJ2_checkIndex_2214a 1 = .ok (.aload_n 1, 1) := by decide +kernel
theorem dJ2_checkIndex_2214a_2 : decode cJ2_checkIndex_2214a 2 = .ok (.invokestatic 48, 3) := by decide +kernel
theorem dJ2_checkIndex_2214a_5 : decode cJ2_checkIndex_2214a 5 = .ok (.invokestatic 414, 3) := by decide +kernel
theorem dJ2_checkIndex_2214a_8 : decode cJ2_checkIndex_2214a 8 = .ok (.return_, 1) := by decide +kernel
theorem dJ2_checkBoundsBeginEnd_d044e_0 : decode cJ2_checkBoundsBeginEnd_d044e 0 = .ok (.iload_n 0, 1) := by decide +kernel
theorem dJ2_checkBoundsBeginEnd_d044e_1 : decode cJ2_checkBoundsBeginEnd_d044e 1 = .ok (.iload_n 1, 1) := by decide +kernel
theorem dJ2_checkBoundsBeginEnd_d044e_2 : decode cJ2_checkBoundsBeginEnd_d044e 2 = .ok (.aload_n 2, 1) := by decide +kernel
theorem dJ2_checkBoundsBeginEnd_d044e_3 : decode cJ2_checkBoundsBeginEnd_d044e 3 = .ok (.invokestatic 48, 3) := by decide +kernel
theorem dJ2_checkBoundsBeginEnd_d044e_6 : decode cJ2_checkBoundsBeginEnd_d044e 6 = .ok (.invokestatic 241, 3) := by decide +kernel
theorem dJ2_checkBoundsBeginEnd_d044e_9 : decode cJ2_checkBoundsBeginEnd_d044e 9 = .ok (.return_, 1) := by decide +kernel
theorem dJ2_checkBoundsOffCount_d044e_0 : decode cJ2_checkBoundsOffCount_d044e 0 = .ok (.iload_n 0, 1) := by decide +kernel
theorem dJ2_checkBoundsOffCount_d044e_1 : decode cJ2_checkBoundsOffCount_d044e 1 = .ok (.iload_n 1, 1) := by decide +kernel
theorem dJ2_checkBoundsOffCount_d044e_2 : decode cJ2_checkBoundsOffCount_d044e 2 = .ok (.aload_n 2, 1) := by decide +kernel
theorem dJ2_checkBoundsOffCount_d044e_3 : decode cJ2_checkBoundsOffCount_d044e 3 = .ok (.invokestatic 48, 3) := by decide +kernel
theorem dJ2_checkBoundsOffCount_d044e_6 : decode cJ2_checkBoundsOffCount_d044e 6 = .ok (.invokestatic 419, 3) := by decide +kernel
theorem dJ2_checkBoundsOffCount_d044e_9 : decode cJ2_checkBoundsOffCount_d044e 9 = .ok (.pop, 1) := by decide +kernel
theorem dJ2_checkBoundsOffCount_d044e_10 : decode cJ2_checkBoundsOffCount_d044e 10 = .ok (.return_, 1) := by decide +kernel
theorem dJxa1e45_init_da8c8_0 : decode cJxa1e45_init_da8c8 0 = .ok (.aload_n 0, 1) := by decide +kernel
theorem dJxa1e45_init_da8c8_1 : decode cJxa1e45_init_da8c8 1 = .ok (.invokespecial 1, 3) := by decide +kernel
theorem dJxa1e45_init_da8c8_4 : decode cJxa1e45_init_da8c8 4 = .ok (.return_, 1) := by decide +kernel
theorem dJxc12de_init_da8c8_0 : decode cJxc12de_init_da8c8 0 = .ok (.aload_n 0, 1) := by decide +kernel
theorem dJxc12de_init_da8c8_1 : decode cJxc12de_init_da8c8 1 = .ok (.invokespecial 1, 3) := by decide +kernel
theorem dJxc12de_init_da8c8_4 : decode cJxc12de_init_da8c8 4 = .ok (.aload_n 0, 1) := by decide +kernel
theorem dJxc12de_init_da8c8_5 : decode cJxc12de_init_da8c8 5 = .ok (.iconst 0, 1) := by decide +kernel
theorem dJxc12de_init_da8c8_6 : decode cJxc12de_init_da8c8 6 = .ok (.putfield 7, 3) := by decide +kernel
theorem dJxc12de_init_da8c8_9 : decode cJxc12de_init_da8c8 9 = .ok (.return_, 1) := by decide +kernel
theorem dJx4a65c_init_da8c8_0 : decode cJx4a65c_init_da8c8 0 = .ok (.aload_n 0, 1) := by decide +kernel
theorem dJx4a65c_init_da8c8_1 : decode cJx4a65c_init_da8c8 1 = .ok (.invokespecial 1, 3) := by decide +kernel
theorem dJx4a65c_init_da8c8_4 : decode cJx4a65c_init_da8c8 4 = .ok (.aload_n 0, 1) := by decide +kernel
theorem dJx4a65c_init_da8c8_5 : decode cJx4a65c_init_da8c8 5 = .ok (.getstatic 39, 3) := by decide +kernel
theorem dJx4a65c_init_da8c8_8 : decode cJx4a65c_init_da8c8 8 = .ok (.putfield 9, 3) := by decide +kernel
theorem dJx4a65c_init_da8c8_11 : decode cJx4a65c_init_da8c8 11 = .ok (.return_, 1) := by decide +kernel
theorem dJx4a65c_grow_92f84_0 : decode cJx4a65c_grow_92f84 0 = .ok (.aload_n 0, 1) := by decide +kernel
theorem dJx4a65c_grow_92f84_1 : decode cJx4a65c_grow_92f84 1 = .ok (.getfield 9, 3) := by decide +kernel
theorem dJx4a65c_grow_92f84_4 : decode cJx4a65c_grow_92f84 4 = .ok (.arraylength, 1) := by decide +kernel
theorem dJx4a65c_grow_92f84_5 : decode cJx4a65c_grow_92f84 5 = .ok (.istore_n 2, 1) := by decide +kernel
theorem dJx4a65c_grow_92f84_6 : decode cJx4a65c_grow_92f84 6 = .ok (.iload_n 2, 1) := by decide +kernel
theorem dJx4a65c_grow_92f84_7 : decode cJx4a65c_grow_92f84 7 = .ok (.ifCond .gt 13, 3) := by decide +kernel
theorem dJx4a65c_grow_92f84_10 : decode cJx4a65c_grow_92f84 10 = .ok (.aload_n 0, 1) := by decide +kernel
theorem dJx4a65c_grow_92f84_11 : decode cJx4a65c_grow_92f84 11 = .ok (.getfield 9, 3) := by decide +kernel
theorem dJx4a65c_grow_92f84_14 : decode cJx4a65c_grow_92f84 14 = .ok (.getstatic 39, 3) := by decide +kernel
theorem dJx4a65c_grow_92f84_17 : decode cJx4a65c_grow_92f84 17 = .ok (.if_acmp .eq 28, 3) := by decide +kernel
theorem dJx4a65c_grow_92f84_20 : decode cJx4a65c_grow_92f84 20 = .ok (.iload_n 2, 1) := by decide +kernel
theorem dJx4a65c_grow_92f84_21 : decode cJx4a65c_grow_92f84 21 = .ok (.iload_n 1, 1) := by decide +kernel
theorem dJx4a65c_grow_92f84_22 : decode cJx4a65c_grow_92f84 22 = .ok (.iload_n 2, 1) := by decide +kernel
theorem dJx4a65c_grow_92f84_23 : decode cJx4a65c_grow_92f84 23 = .ok (.isub, 1) := by decide +kernel
theorem dJx4a65c_grow_92f84_24 : decode cJx4a65c_grow_92f84 24 = .ok (.iload_n 2, 1) := by decide +kernel
theorem dJx4a65c_grow_92f84_25 : decode cJx4a65c_grow_92f84 25 = .ok (.iconst 1, 1) := by decide +kernel
theorem dJx4a65c_grow_92f84_26 : decode cJx4a65c_grow_92f84 26 = .ok (.ishr, 1) := by decide +kernel
theorem dJx4a65c_grow_92f84_27 : decode cJx4a65c_grow_92f84 27 = .ok (.invokestatic 73, 3) := by decide +kernel
theorem dJx4a65c_grow_92f84_30 : decode cJx4a65c_grow_92f84 30 = .ok (.istore_n 3, 1) := by decide +kernel
theorem dJx4a65c_grow_92f84_31 : decode cJx4a65c_grow_92f84 31 = .ok (.aload_n 0, 1) := by decide +kernel
theorem dJx4a65c_grow_92f84_32 : decode cJx4a65c_grow_92f84 32 = .ok (.aload_n 0, 1) := by decide +kernel
theorem dJx4a65c_grow_92f84_33 : decode cJx4a65c_grow_92f84 33 = .ok (.getfield 9, 3) := by decide +kernel
theorem dJx4a65c_grow_92f84_36 : decode cJx4a65c_grow_92f84 36 = .ok (.iload_n 3, 1) := by decide +kernel
theorem dJx4a65c_grow_92f84_37 : decode cJx4a65c_grow_92f84 37 = .ok (.invokestatic 66, 3) := by decide +kernel
theorem dJx4a65c_grow_92f84_40 : decode cJx4a65c_grow_92f84 40 = .ok (.dup_x1, 1) := by decide +kernel
theorem dJx4a65c_grow_92f84_41 : decode cJx4a65c_grow_92f84 41 = .ok (.putfield 9, 3) := by decide +kernel
theorem dJx4a65c_grow_92f84_44 : decode cJx4a65c_grow_92f84 44 = .ok (.areturn, 1) := by decide +kernel
theorem dJx4a65c_grow_92f84_45 : decode cJx4a65c_grow_92f84 45 = .ok (.aload_n 0, 1) := by decide +kernel
theorem dJx4a65c_grow_92f84_46 : decode cJx4a65c_grow_92f84 46 = .ok (.bipush 10, 2) := by decide +kernel
theorem dJx4a65c_grow_92f84_48 : decode cJx4a65c_grow_92f84 48 = .ok (.iload_n 1, 1) := by decide +kernel
theorem dJx4a65c_grow_92f84_49 : decode cJx4a65c_grow_92f84 49 = .ok (.invokestatic 79, 3) := by decide +kernel
theorem dJx4a65c_grow_92f84_52 : decode cJx4a65c_grow_92f84 52 = .ok (.anewarray 7, 3) := by decide +kernel
theorem dJx4a65c_grow_92f84_55 : decode cJx4a65c_grow_92f84 55 = .ok (.dup_x1, 1) := by decide +kernel
theorem dJx4a65c_grow_92f84_56 : decode cJx4a65c_grow_92f84 56 = .ok (.putfield 9, 3) := by decide +kernel
theorem dJx4a65c_grow_92f84_59 : decode cJx4a65c_grow_92f84 59 = .ok (.areturn, 1) := by decide +kernel
theorem dJx4a65c_grow_d5877_0 : decode cJx4a65c_grow_d5877 0 = .ok (.aload_n 0, 1) := by decide +kernel
theorem dJx4a65c_grow_d5877_1 : decode cJx4a65c_grow_d5877 1 = .ok (.aload_n 0, 1) := by decide +kernel
theorem dJx4a65c_grow_d5877_2 : decode cJx4a65c_grow_d5877 2 = .ok (.getfield 48, 3) := by decide +kernel
theorem dJx4a65c_grow_d5877_5 : decode cJx4a65c_grow_d5877 5 = .ok (.iconst 1, 1) := by decide +kernel
theorem dJx4a65c_grow_d5877_6 : decode cJx4a65c_grow_d5877 6 = .ok (.iadd, 1) := by decide +kernel
theorem dJx4a65c_grow_d5877_7 : decode cJx4a65c_grow_d5877 7 = .ok (.invokevirtual 69, 3) := by decide +kernel
theorem dJx4a65c_grow_d5877_10 : decode cJx4a65c_grow_d5877 10 = .ok (.areturn, 1) := by decide +kernel
theorem dJx4a65c_size_8abf5_0 : decode cJx4a65c_size_8abf5 0 = .ok (.aload_n 0, 1) := by decide +kernel
theorem dJx4a65c_size_8abf5_1 : decode cJx4a65c_size_8abf5 1 = .ok (.getfield 48, 3) := by decide +kernel
theorem dJx4a65c_size_8abf5_4 : decode cJx4a65c_size_8abf5 4 = .ok (.ireturn, 1) := by decide +kernel
theorem dJx4a65c_isEmpty_aae02_0 : decode cJx4a65c_isEmpty_aae02 0 = .ok (.aload_n 0, 1) := by decide +kernel
theorem dJx4a65c_isEmpty_aae02_1 : decode cJx4a65c_isEmpty_aae02 1 = .ok (.getfield 48, 3) := by decide +kernel
theorem dJx4a65c_isEmpty_aae02_4 : decode cJx4a65c_isEmpty_aae02 4 = .ok (.ifCond .ne 7, 3) := by decide +kernel
theorem dJx4a65c_isEmpty_aae02_7 : decode cJx4a65c_isEmpty_aae02 7 = .ok (.iconst 1, 1) := by decide +kernel
theorem dJx4a65c_isEmpty_aae02_8 : decode cJx4a65c_isEmpty_aae02 8 = .ok (.goto 4, 3) := by decide +kernel
theorem dJx4a65c_isEmpty_aae02_11 : decode cJx4a65c_isEmpty_aae02 11 = .ok (.iconst 0, 1) := by decide +kernel
theorem dJx4a65c_isEmpty_aae02_12 : decode cJx4a65c_isEmpty_aae02 12 = .ok (.ireturn, 1) := by decide +kernel
theorem dJx4a65c_elementData_915e3_0 : decode cJx4a65c_elementData_915e3 0 = .ok (.aload_n 0, 1) := by decide +kernel
theorem dJx4a65c_elementData_915e3_1 : decode cJx4a65c_elementData_915e3 1 = .ok (.getfield 9, 3) := by decide +kernel
theorem dJx4a65c_elementData_915e3_4 : decode cJx4a65c_elementData_915e3 4 = .ok (.iload_n 1, 1) := by decide +kernel
theorem dJx4a65c_elementData_915e3_5 : decode cJx4a65c_elementData_915e3 5 = .ok (.aaload, 1) := by decide +kernel
theorem dJx4a65c_elementData_915e3_6 : decode cJx4a65c_elementData_915e3 6 = .ok (.areturn, 1) := by decide +kernel
theorem dJx4a65c_get_915e3_0 : decode cJx4a65c_get_915e3 0 = .ok (.iload_n 1, 1) := by decide +kernel
theorem dJx4a65c_get_915e3_1 : decode cJx4a65c_get_915e3 1 = .ok (.aload_n 0, 1) := by decide +kernel
theorem dJx4a65c_get_915e3_2 : decode cJx4a65c_get_915e3 2 = .ok (.getfield 48, 3) := by decide +kernel
theorem dJx4a65c_get_915e3_5 : decode cJx4a65c_get_915e3 5 = .ok (.invokestatic 118, 3) := by decide +kernel
theorem dJx4a65c_get_915e3_8 : decode cJx4a65c_get_915e3 8 = .ok (.pop, 1) := by decide +kernel
theorem dJx4a65c_get_915e3_9 : decode cJx4a65c_get_915e3 9 = .ok (.aload_n 0, 1) := by decide +kernel
theorem dJx4a65c_get_915e3_10 : decode cJx4a65c_get_915e3 10 = .ok (.iload_n 1, 1) := by decide +kernel
theorem dJx4a65c_get_915e3_11 : decode cJx4a65c_get_915e3 11 = .ok (.invokevirtual 123, 3) := by decide +kernel
theorem dJx4a65c_get_915e3_14 : decode cJx4a65c_get_915e3 14 = .ok (.areturn, 1) := by decide +kernel
theorem dJx4a65c_add_72be8_0 : decode cJx4a65c_add_72be8 0 = .ok (.iload_n 3, 1) := by decide +kernel
theorem dJx4a65c_add_72be8_1 : decode cJx4a65c_add_72be8 1 = .ok (.aload_n 2, 1) := by decide +kernel
theorem dJx4a65c_add_72be8_2 : decode cJx4a65c_add_72be8 2 = .ok (.arraylength, 1) := by decide +kernel
theorem dJx4a65c_add_72be8_3 : decode cJx4a65c_add_72be8 3 = .ok (.if_icmp .ne 8, 3) := by decide +kernel
theorem dJx4a65c_add_72be8_6 : decode cJx4a65c_add_72be8 6 = .ok (.aload_n 0, 1) := by decide +kernel
theorem dJx4a65c_add_72be8_7 : decode cJx4a65c_add_72be8 7 = .ok (.invokevirtual 129, 3) := by decide +kernel
theorem dJx4a65c_add_72be8_10 : decode cJx4a65c_add_72be8 10 = .ok (.astore_n 2, 1) := by decide +kernel
theorem dJx4a65c_add_72be8_11 : decode cJx4a65c_add_72be8 11 = .ok (.aload_n 2, 1) := by decide +kernel
theorem dJx4a65c_add_72be8_12 : decode cJx4a65c_add_72be8 12 = .ok (.iload_n 3, 1) := by decide +kernel
theorem dJx4a65c_add_72be8_13 : decode cJx4a65c_add_72be8 13 = .ok (.aload_n 1, 1) := by decide +kernel
theorem dJx4a65c_add_72be8_14 : decode cJx4a65c_add_72be8 14 = .ok (.aastore, 1) := by decide +kernel
theorem dJx4a65c_add_72be8_15 : decode cJx4a65c_add_72be8 15 = .ok (.aload_n 0, 1) := by decide +kernel
theorem dJx4a65c_add_72be8_16 : decode cJx4a65c_add_72be8 16 = .ok (.iload_n 3, 1) := by decide +kernel
theorem dJx4a65c_add_72be8_17 : decode cJx4a65c_add_72be8 17 = .ok (.iconst 1, 1) := by decide +kernel
theorem dJx4a65c_add_72be8_18 : decode cJx4a65c_add_72be8 18 = .ok (.iadd, 1) := by decide +kernel
theorem dJx4a65c_add_72be8_19 : decode cJx4a65c_add_72be8 19 = .ok (.putfield 48, 3) := by decide +kernel
theorem dJx4a65c_add_72be8_22 : decode cJx4a65c_add_72be8 22 = .ok (.return_, 1) := by decide +kernel
theorem dJx4a65c_add_9ea2d_0 : decode cJx4a65c_add_9ea2d 0 = .ok (.aload_n 0, 1) := by decide +kernel
theorem dJx4a65c_add_9ea2d_1 : decode cJx4a65c_add_9ea2d 1 = .ok (.dup, 1) := by decide +kernel
theorem dJx4a65c_add_9ea2d_2 : decode cJx4a65c_add_9ea2d 2 = .ok (.getfield 63, 3) := by decide +kernel
theorem dJx4a65c_add_9ea2d_5 : decode cJx4a65c_add_9ea2d 5 = .ok (.iconst 1, 1) := by decide +kernel
theorem dJx4a65c_add_9ea2d_6 : decode cJx4a65c_add_9ea2d 6 = .ok (.iadd, 1) := by decide +kernel
theorem dJx4a65c_add_9ea2d_7 : decode cJx4a65c_add_9ea2d 7 = .ok (.putfield 63, 3) := by decide +kernel
theorem dJx4a65c_add_9ea2d_10 : decode cJx4a65c_add_9ea2d 10 = .ok (.aload_n 0, 1) := by decide +kernel
theorem dJx4a65c_add_9ea2d_11 : decode cJx4a65c_add_9ea2d 11 = .ok (.aload_n 1, 1) := by decide +kernel
theorem dJx4a65c_add_9ea2d_12 : decode cJx4a65c_add_9ea2d 12 = .ok (.aload_n 0, 1) := by decide +kernel
theorem dJx4a65c_add_9ea2d_13 : decode cJx4a65c_add_9ea2d 13 = .ok (.getfield 9, 3) := by decide +kernel
theorem dJx4a65c_add_9ea2d_16 : decode cJx4a65c_add_9ea2d 16 = .ok (.aload_n 0, 1) := by decide +kernel
theorem dJx4a65c_add_9ea2d_17 : decode cJx4a65c_add_9ea2d 17 = .ok (.getfield 48, 3) := by decide +kernel
theorem dJx4a65c_add_9ea2d_20 : decode cJx4a65c_add_9ea2d 20 = .ok (.invokevirtual 131, 3) := by decide +kernel
theorem dJx4a65c_add_9ea2d_23 : decode cJx4a65c_add_9ea2d 23 = .ok (.iconst 1, 1) := by decide +kernel
theorem dJx4a65c_add_9ea2d_24 : decode cJx4a65c_add_9ea2d 24 = .ok (.ireturn, 1) := by decide +kernel
theorem dJx4a65c_add_7a177_0 : decode cJx4a65c_add_7a177 0 = .ok (.aload_n 0, 1) := by decide +kernel
theorem dJx4a65c_add_7a177_1 : decode cJx4a65c_add_7a177 1 = .ok (.iload_n 1, 1) := by decide +kernel
theorem dJx4a65c_add_7a177_2 : decode cJx4a65c_add_7a177 2 = .ok (.invokevirtual 135, 3) := by decide +kernel
theorem dJx4a65c_add_7a177_5 : decode cJx4a65c_add_7a177 5 = .ok (.aload_n 0, 1) := by decide +kernel
theorem dJx4a65c_add_7a177_6 : decode cJx4a65c_add_7a177 6 = .ok (.dup, 1) := by decide +kernel
theorem dJx4a65c_add_7a177_7 : decode cJx4a65c_add_7a177 7 = .ok (.getfield 63, 3) := by decide +kernel
theorem dJx4a65c_add_7a177_10 : decode cJx4a65c_add_7a177 10 = .ok (.iconst 1, 1) := by decide +kernel
theorem dJx4a65c_add_7a177_11 : decode cJx4a65c_add_7a177 11 = .ok (.iadd, 1) := by decide +kernel
theorem dJx4a65c_add_7a177_12 : decode cJx4a65c_add_7a177 12 = .ok (.putfield 63, 3) := by decide +kernel
theorem dJx4a65c_add_7a177_15 : decode cJx4a65c_add_7a177 15 = .ok (.aload_n 0, 1) := by decide +kernel
theorem dJx4a65c_add_7a177_16 : decode cJx4a65c_add_7a177 16 = .ok (.getfield 48, 3) := by decide +kernel
theorem dJx4a65c_add_7a177_19 : decode cJx4a65c_add_7a177 19 = .ok (.dup, 1) := by decide +kernel
theorem dJx4a65c_add_7a177_20 : decode cJx4a65c_add_7a177 20 = .ok (.istore_n 3, 1) := by decide +kernel
theorem dJx4a65c_add_7a177_21 : decode cJx4a65c_add_7a177 21 = .ok (.aload_n 0, 1) := by decide +kernel
theorem dJx4a65c_add_7a177_22 : decode cJx4a65c_add_7a177 22 = .ok (.getfield 9, 3) := by decide +kernel
theorem dJx4a65c_add_7a177_25 : decode cJx4a65c_add_7a177 25 = .ok (.dup, 1) := by decide +kernel
theorem dJx4a65c_add_7a177_26 : decode cJx4a65c_add_7a177 26 = .ok (.astore 4, 2) := by decide +kernel
theorem dJx4a65c_add_7a177_28 : decode cJx4a65c_add_7a177 28 = .ok (.arraylength, 1) := by decide +kernel
theorem dJx4a65c_add_7a177_29 : decode cJx4a65c_add_7a177 29 = .ok (.if_icmp .ne 9, 3) := by decide +kernel
theorem dJx4a65c_add_7a177_32 : decode cJx4a65c_add_7a177 32 = .ok (.aload_n 0, 1) := by decide +kernel
theorem dJx4a65c_add_7a177_33 : decode cJx4a65c_add_7a177 33 = .ok (.invokevirtual 129, 3) := by decide +kernel
theorem dJx4a65c_add_7a177_36 : decode cJx4a65c_add_7a177 36 = .ok (.astore 4, 2) := by decide +kernel
theorem dJx4a65c_add_7a177_38 : decode cJx4a65c_add_7a177 38 = .ok (.aload 4, 2) := by decide +kernel
theorem dJx4a65c_add_7a177_40 : decode cJx4a65c_add_7a177 40 = .ok (.iload_n 1, 1) := by decide +kernel
theorem dJx4a65c_add_7a177_41 : decode cJx4a65c_add_7a177 41 = .ok (.aload 4, 2) := by decide +kernel
theorem dJx4a65c_add_7a177_43 : decode cJx4a65c_add_7a177 43 = .ok (.iload_n 1, 1) := by decide +kernel
theorem dJx4a65c_add_7a177_44 : decode cJx4a65c_add_7a177 44 = .ok (.iconst 1, 1) := by decide +kernel
theorem dJx4a65c_add_7a177_45 : decode cJx4a65c_add_7a177 45 = .ok (.iadd, 1) := by decide +kernel
theorem dJx4a65c_add_7a177_46 : decode cJx4a65c_add_7a177 46 = .ok (.iload_n 3, 1) := by decide +kernel
theorem dJx4a65c_add_7a177_47 : decode cJx4a65c_add_7a177 47 = .ok (.iload_n 1, 1) := by decide +kernel
theorem dJx4a65c_add_7a177_48 : decode cJx4a65c_add_7a177 48 = .ok (.isub, 1) := by decide +kernel
theorem dJx4a65c_add_7a177_49 : decode cJx4a65c_add_7a177 49 = .ok (.invokestatic 112, 3) := by decide +kernel
theorem dJx4a65c_add_7a177_52 : decode cJx4a65c_add_7a177 52 = .ok (.aload 4, 2) := by decide +kernel
theorem dJx4a65c_add_7a177_54 : decode cJx4a65c_add_7a177 54 = .ok (.iload_n 1, 1) := by decide +kernel
theorem dJx4a65c_add_7a177_55 : decode cJx4a65c_add_7a177 55 = .ok (.aload_n 2, 1) := by decide +kernel
theorem dJx4a65c_add_7a177_56 : decode cJx4a65c_add_7a177 56 = .ok (.aastore, 1) := by decide +kernel
theorem dJx4a65c_add_7a177_57 : decode cJx4a65c_add_7a177 57 = .ok (.aload_n 0, 1) := by decide +kernel
theorem dJx4a65c_add_7a177_58 : decode cJx4a65c_add_7a177 58 = .ok (.iload_n 3, 1) := by decide +kernel
theorem dJx4a65c_add_7a177_59 : decode cJx4a65c_add_7a177 59 = .ok (.iconst 1, 1) := by decide +kernel
theorem dJx4a65c_add_7a177_60 : decode cJx4a65c_add_7a177 60 = .ok (.iadd, 1) := by decide +kernel
theorem dJx4a65c_add_7a177_61 : decode cJx4a65c_add_7a177 61 = .ok (.putfield 48, 3) := by decide +kernel
theorem dJx4a65c_add_7a177_64 : decode cJx4a65c_add_7a177 64 = .ok (.return_, 1) := by decide +kernel
theorem dJx4a65c_clear_da8c8_0 : decode cJx4a65c_clear_da8c8 0 = .ok (.aload_n 0, 1) := by decide +kernel
theorem dJx4a65c_clear_da8c8_1 : decode cJx4a65c_clear_da8c8 1 = .ok (.dup, 1) := by decide +kernel
theorem dJx4a65c_clear_da8c8_2 : decode cJx4a65c_clear_da8c8 2 = .ok (.getfield 63, 3) := by decide +kernel
theorem dJx4a65c_clear_da8c8_5 : decode cJx4a65c_clear_da8c8 5 = .ok (.iconst 1, 1) := by decide +kernel
theorem dJx4a65c_clear_da8c8_6 : decode cJx4a65c_clear_da8c8 6 = .ok (.iadd, 1) := by decide +kernel
theorem dJx4a65c_clear_da8c8_7 : decode cJx4a65c_clear_da8c8 7 = .ok (.putfield 63, 3) := by decide +kernel
theorem dJx4a65c_clear_da8c8_10 : decode cJx4a65c_clear_da8c8 10 = .ok (.aload_n 0, 1) := by decide +kernel
theorem dJx4a65c_clear_da8c8_11 : decode cJx4a65c_clear_da8c8 11 = .ok (.getfield 9, 3) := by decide +kernel
theorem dJx4a65c_clear_da8c8_14 : decode cJx4a65c_clear_da8c8 14 = .ok (.astore_n 1, 1) := by decide +kernel
theorem dJx4a65c_clear_da8c8_15 : decode cJx4a65c_clear_da8c8 15 = .ok (.aload_n 0, 1) := by decide +kernel
theorem dJx4a65c_clear_da8c8_16 : decode cJx4a65c_clear_da8c8 16 = .ok (.getfield 48, 3) := by decide +kernel
theorem dJx4a65c_clear_da8c8_19 : decode cJx4a65c_clear_da8c8 19 = .ok (.istore_n 2, 1) := by decide +kernel
theorem dJx4a65c_clear_da8c8_20 : decode cJx4a65c_clear_da8c8 20 = .ok (.aload_n 0, 1) := by decide +kernel
theorem dJx4a65c_clear_da8c8_21 : decode cJx4a65c_clear_da8c8 21 = .ok (.iconst 0, 1) := by decide +kernel
theorem dJx4a65c_clear_da8c8_22 : decode cJx4a65c_clear_da8c8 22 = .ok (.dup_x1, 1) := by decide +kernel
theorem dJx4a65c_clear_da8c8_23 : decode cJx4a65c_clear_da8c8 23 = .ok (.putfield 48, 3) := by decide +kernel
theorem dJx4a65c_clear_da8c8_26 : decode cJx4a65c_clear_da8c8 26 = .ok (.istore_n 3, 1) := by decide +kernel
theorem dJx4a65c_clear_da8c8_27 : decode cJx4a65c_clear_da8c8 27 = .ok (.iload_n 3, 1) := by decide +kernel
theorem dJx4a65c_clear_da8c8_28 : decode cJx4a65c_clear_da8c8 28 = .ok (.iload_n 2, 1) := by decide +kernel
theorem dJx4a65c_clear_da8c8_29 : decode cJx4a65c_clear_da8c8 29 = .ok (.if_icmp .ge 13, 3) := by decide +kernel
theorem dJx4a65c_clear_da8c8_32 : decode cJx4a65c_clear_da8c8 32 = .ok (.aload_n 1, 1) := by decide +kernel
theorem dJx4a65c_clear_da8c8_33 : decode cJx4a65c_clear_da8c8 33 = .ok (.iload_n 3, 1) := by decide +kernel
theorem dJx4a65c_clear_da8c8_34 : decode cJx4a65c_clear_da8c8 34 = .ok (.aconst_null, 1) := by decide +kernel
theorem dJx4a65c_clear_da8c8_35 : decode cJx4a65c_clear_da8c8 35 = .ok (.aastore, 1) := by decide +kernel
theorem dJx4a65c_clear_da8c8_36 : decode cJx4a65c_clear_da8c8 36 = .ok (.iinc 3 1, 3) := by decide +kernel
theorem dJx4a65c_clear_da8c8_39 : decode cJx4a65c_clear_da8c8 39 = .ok (.goto (-12), 3) := by decide +kernel
theorem dJx4a65c_clear_da8c8_42 : decode cJx4a65c_clear_da8c8 42 = .ok (.return_, 1) := by decide +kernel
theorem dJx4a65c_rangeCheckForAdd_d00df_0 : decode cJx4a65c_rangeCheckForAdd_d00df 0 = .ok (.iload_n 1, 1) := by decide +kernel
theorem dJx4a65c_rangeCheckForAdd_d00df_1 : decode cJx4a65c_rangeCheckForAdd_d00df 1 = .ok (.aload_n 0, 1) := by decide +kernel
theorem dJx4a65c_rangeCheckForAdd_d00df_2 : decode cJx4a65c_rangeCheckForAdd_d00df 2 = .ok (.getfield 48, 3) := by decide +kernel
theorem dJx4a65c_rangeCheckForAdd_d00df_5 : decode cJx4a65c_rangeCheckForAdd_d00df 5 = .ok (.if_icmp .gt 7, 3) := by decide +kernel
theorem dJx4a65c_rangeCheckForAdd_d00df_8 : decode cJx4a65c_rangeCheckForAdd_d00df 8 = .ok (.iload_n 1, 1) := by decide +kernel
theorem dJx4a65c_rangeCheckForAdd_d00df_9 : decode cJx4a65c_rangeCheckForAdd_d00df 9 = .ok (.ifCond .ge 16, 3) := by decide +kernel
theorem dJx4a65c_rangeCheckForAdd_d00df_12 : decode cJx4a65c_rangeCheckForAdd_d00df 12 = .ok (.new 187, 3) := by decide +kernel
theorem dJx4a65c_rangeCheckForAdd_d00df_15 : decode cJx4a65c_rangeCheckForAdd_d00df 15 = .ok (.dup, 1) := by decide +kernel
theorem dJx4a65c_rangeCheckForAdd_d00df_16 : decode cJx4a65c_rangeCheckForAdd_d00df 16 = .ok (.aload_n 0, 1) := by decide +kernel
theorem dJx4a65c_rangeCheckForAdd_d00df_17 : decode cJx4a65c_rangeCheckForAdd_d00df 17 = .ok (.iload_n 1, 1) := by decide +kernel
theorem dJx4a65c_rangeCheckForAdd_d00df_18 : decode cJx4a65c_rangeCheckForAdd_d00df 18 = .ok (.invokevirtual 198, 3) := by decide +kernel
theorem dJx4a65c_rangeCheckForAdd_d00df_21 : decode cJx4a65c_rangeCheckForAdd_d00df 21 = .ok (.invokespecial 193, 3) := by decide +kernel
theorem dJx4a65c_rangeCheckForAdd_d00df_24 : decode cJx4a65c_rangeCheckForAdd_d00df 24 = .ok (.athrow, 1) := by decide +kernel
theorem dJx4a65c_rangeCheckForAdd_d00df_25 : decode cJx4a65c_rangeCheckForAdd_d00df 25 = .ok (.return_, 1) := by decide +kernel
theorem dJx4a65c_outOfBoundsMsg_b52d3_0 : decode cJx4a65c_outOfBoundsMsg_b52d3 0 = .ok (.new 20, 3) := by decide +kernel
theorem dJx4a65c_outOfBoundsMsg_b52d3_3 : decode cJx4a65c_outOfBoundsMsg_b52d3 3 = .ok (.dup, 1) := by decide +kernel
theorem dJx4a65c_outOfBoundsMsg_b52d3_4 : decode cJx4a65c_outOfBoundsMsg_b52d3 4 = .ok (.invokespecial 22, 3) := by decide +kernel
theorem dJx4a65c_outOfBoundsMsg_b52d3_7 : decode cJx4a65c_outOfBoundsMsg_b52d3 7 = .ok (.ldc 201, 2) := by decide +kernel
theorem dJx4a65c_outOfBoundsMsg_b52d3_9 : decode cJx4a65c_outOfBoundsMsg_b52d3 9 = .ok (.invokevirtual 25, 3) := by decide +kernel
theorem dJx4a65c_outOfBoundsMsg_b52d3_12 : decode cJx4a65c_outOfBoundsMsg_b52d3 12 = .ok (.iload_n 1, 1) := by decide +kernel
theorem dJx4a65c_outOfBoundsMsg_b52d3_13 : decode cJx4a65c_outOfBoundsMsg_b52d3 13 = .ok (.invokevirtual 29, 3) := by decide +kernel
theorem dJx4a65c_outOfBoundsMsg_b52d3_16 : decode cJx4a65c_outOfBoundsMsg_b52d3 16 = .ok (.ldc 203, 2) := by decide +kernel
theorem dJx4a65c_outOfBoundsMsg_b52d3_18 : decode cJx4a65c_outOfBoundsMsg_b52d3 18 = .ok (.invokevirtual 25, 3) := by decide +kernel
theorem dJx4a65c_outOfBoundsMsg_b52d3_21 : decode cJx4a65c_outOfBoundsMsg_b52d3 21 = .ok (.aload_n 0, 1) := by decide +kernel
theorem dJx4a65c_outOfBoundsMsg_b52d3_22 : decode cJx4a65c_outOfBoundsMsg_b52d3 22 = .ok (.getfield 48, 3) := by decide +kernel
theorem dJx4a65c_outOfBoundsMsg_b52d3_25 : decode cJx4a65c_outOfBoundsMsg_b52d3 25 = .ok (.invokevirtual 29, 3) := by decide +kernel
theorem dJx4a65c_outOfBoundsMsg_b52d3_28 : decode cJx4a65c_outOfBoundsMsg_b52d3 28 = .ok (.invokevirtual 32, 3) := by decide +kernel
theorem dJx4a65c_outOfBoundsMsg_b52d3_31 : decode cJx4a65c_outOfBoundsMsg_b52d3 31 = .ok (.areturn, 1) := by decide +kernel
theorem dJ7_rangeCheck_23922_0 : decode cJ7_rangeCheck_23922 0 = .ok (.iload_n 1, 1) := by decide +kernel
theorem dJ7_rangeCheck_23922_1 : decode cJ7_rangeCheck_23922 1 = .ok (.iload_n 2, 1) := by decide +kernel
theorem dJ7_rangeCheck_23922_2 : decode cJ7_rangeCheck_23922 2 = .ok (.if_icmp .le 44, 3) := by decide +kernel
theorem dJ7_rangeCheck_23922_5 : decode cJ7_rangeCheck_23922 5 = .ok (.new 43, 3) := by decide +kernel
theorem dJ7_rangeCheck_23922_8 : decode cJ7_rangeCheck_23922 8 = .ok (.dup, 1) := by decide +kernel
theorem dJ7_rangeCheck_23922_9 : decode cJ7_rangeCheck_23922 9 = .ok (.new 45, 3) := by decide +kernel
theorem dJ7_rangeCheck_23922_12 : decode cJ7_rangeCheck_23922 12 = .ok (.dup, 1) := by decide +kernel
theorem dJ7_rangeCheck_23922_13 : decode cJ7_rangeCheck_23922 13 = .ok (.invokespecial 47, 3) := by decide +kernel
theorem dJ7_rangeCheck_23922_16 : decode cJ7_rangeCheck_23922 16 = .ok (.ldc 48, 2) := by decide +kernel
theorem dJ7_rangeCheck_23922_18 : decode cJ7_rangeCheck_23922 18 = .ok (.invokevirtual 50, 3) := by decide +kernel
theorem dJ7_rangeCheck_23922_21 : decode cJ7_rangeCheck_23922 21 = .ok (.iload_n 1, 1) := by decide +kernel
theorem dJ7_rangeCheck_23922_22 : decode cJ7_rangeCheck_23922 22 = .ok (.invokevirtual 54, 3) := by decide +kernel
theorem dJ7_rangeCheck_23922_25 : decode cJ7_rangeCheck_23922 25 = .ok (.ldc 57, 2) := by decide +kernel
theorem dJ7_rangeCheck_23922_27 : decode cJ7_rangeCheck_23922 27 = .ok (.invokevirtual 50, 3) := by decide +kernel
theorem dJ7_rangeCheck_23922_30 : decode cJ7_rangeCheck_23922 30 = .ok (.iload_n 2, 1) := by decide +kernel
theorem dJ7_rangeCheck_23922_31 : decode cJ7_rangeCheck_23922 31 = .ok (.invokevirtual 54, 3) := by decide +kernel
theorem dJ7_rangeCheck_23922_34 : decode cJ7_rangeCheck_23922 34 = .ok (.ldc 59, 2) := by decide +kernel
theorem dJ7_rangeCheck_23922_36 : decode cJ7_rangeCheck_23922 36 = .ok (.invokevirtual 50, 3) := by decide +kernel
theorem dJ7_rangeCheck_23922_39 : decode cJ7_rangeCheck_23922 39 = .ok (.invokevirtual 61, 3) := by decide +kernel
theorem dJ7_rangeCheck_23922_42 : decode cJ7_rangeCheck_23922 42 = .ok (.invokespecial 65, 3) := by decide +kernel
theorem dJ7_rangeCheck_23922_45 : decode cJ7_rangeCheck_23922 45 = .ok (.athrow, 1) := by decide +kernel
theorem dJ7_rangeCheck_23922_46 : decode cJ7_rangeCheck_23922 46 = .ok (.iload_n 1, 1) := by decide +kernel
theorem dJ7_rangeCheck_23922_47 : decode cJ7_rangeCheck_23922 47 = .ok (.ifCond .ge 12, 3) := by decide +kernel
theorem dJ7_rangeCheck_23922_50 : decode cJ7_rangeCheck_23922 50 = .ok (.new 68, 3) := by decide +kernel
theorem dJ7_rangeCheck_23922_53 : decode cJ7_rangeCheck_23922 53 = .ok (.dup, 1) := by decide +kernel
theorem dJ7_rangeCheck_23922_54 : decode cJ7_rangeCheck_23922 54 = .ok (.iload_n 1, 1) := by decide +kernel
theorem dJ7_rangeCheck_23922_55 : decode cJ7_rangeCheck_23922 55 = .ok (.invokespecial 70, 3) := by decide +kernel
theorem dJ7_rangeCheck_23922_58 : decode cJ7_rangeCheck_23922 58 = .ok (.athrow, 1) := by decide +kernel
theorem dJ7_rangeCheck_23922_59 : decode cJ7_rangeCheck_23922 59 = .ok (.iload_n 2, 1) := by decide +kernel
theorem dJ7_rangeCheck_23922_60 : decode cJ7_rangeCheck_23922 60 = .ok (.iload_n 0, 1) := by decide +kernel
theorem dJ7_rangeCheck_23922_61 : decode cJ7_rangeCheck_23922 61 = .ok (.if_icmp .le 12, 3) := by decide +kernel
theorem dJ7_rangeCheck_23922_64 : decode cJ7_rangeCheck_23922 64 = .ok (.new 68, 3) := by decide +kernel
theorem dJ7_rangeCheck_23922_67 : decode cJ7_rangeCheck_23922 67 = .ok (.dup, 1) := by decide +kernel
theorem dJ7_rangeCheck_23922_68 : decode cJ7_rangeCheck_23922 68 = .ok (.iload_n 2, 1) := by decide +kernel
theorem dJ7_rangeCheck_23922_69 : decode cJ7_rangeCheck_23922 69 = .ok (.invokespecial 70, 3) := by decide +kernel
theorem dJ7_rangeCheck_23922_72 : decode cJ7_rangeCheck_23922 72 = .ok (.athrow, 1) := by decide +kernel
theorem dJ7_rangeCheck_23922_73 : decode cJ7_rangeCheck_23922 73 = .ok (.return_, 1) := by decide +kernel
theorem dJ7_fill_53178_0 : decode cJ7_fill_53178 0 = .ok (.iconst 0, 1) := by decide +kernel
theorem dJ7_fill_53178_1 : decode cJ7_fill_53178 1 = .ok (.istore_n 2, 1) := by decide +kernel
theorem dJ7_fill_53178_2 : decode cJ7_fill_53178 2 = .ok (.aload_n 0, 1) := by decide +kernel
theorem dJ7_fill_53178_3 : decode cJ7_fill_53178 3 = .ok (.arraylength, 1) := by decide +kernel
theorem dJ7_fill_53178_4 : decode cJ7_fill_53178 4 = .ok (.istore_n 3, 1) := by decide +kernel
theorem dJ7_fill_53178_5 : decode cJ7_fill_53178 5 = .ok (.iload_n 2, 1) := by decide +kernel
theorem dJ7_fill_53178_6 : decode cJ7_fill_53178 6 = .ok (.iload_n 3, 1) := by decide +kernel
theorem dJ7_fill_53178_7 : decode cJ7_fill_53178 7 = .ok (.if_icmp .ge 13, 3) := by decide +kernel
theorem dJ7_fill_53178_10 : decode cJ7_fill_53178 10 = .ok (.aload_n 0, 1) := by decide +kernel
theorem dJ7_fill_53178_11 : decode cJ7_fill_53178 11 = .ok (.iload_n 2, 1) := by decide +kernel
theorem dJ7_fill_53178_12 : decode cJ7_fill_53178 12 = .ok (.iload_n 1, 1) := by decide +kernel
theorem dJ7_fill_53178_13 : decode cJ7_fill_53178 13 = .ok (.iastore, 1) := by decide +kernel
theorem dJ7_fill_53178_14 : decode cJ7_fill_53178 14 = .ok (.iinc 2 1, 3) := by decide +kernel
theorem dJ7_fill_53178_17 : decode cJ7_fill_53178 17 = .ok (.goto (-12), 3) := by decide +kernel
theorem dJ7_fill_53178_20 : decode cJ7_fill_53178 20 = .ok (.return_, 1) := by decide +kernel
theorem dJ7_fill_eb02e_0 : decode cJ7_fill_eb02e 0 = .ok (.aload_n 0, 1) := by decide +kernel
theorem dJ7_fill_eb02e_1 : decode cJ7_fill_eb02e 1 = .ok (.arraylength, 1) := by decide +kernel
theorem dJ7_fill_eb02e_2 : decode cJ7_fill_eb02e 2 = .ok (.iload_n 1, 1) := by decide +kernel
theorem dJ7_fill_eb02e_3 : decode cJ7_fill_eb02e 3 = .ok (.iload_n 2, 1) := by decide +kernel
theorem dJ7_fill_eb02e_4 : decode cJ7_fill_eb02e 4 = .ok (.invokestatic 13, 3) := by decide +kernel
theorem dJ7_fill_eb02e_7 : decode cJ7_fill_eb02e 7 = .ok (.iload_n 1, 1) := by decide +kernel
theorem dJ7_fill_eb02e_8 : decode cJ7_fill_eb02e 8 = .ok (.istore 4, 2) := by decide +kernel
theorem dJ7_fill_eb02e_10 : decode cJ7_fill_eb02e 10 = .ok (.iload 4, 2) := by decide +kernel
theorem dJ7_fill_eb02e_12 : decode cJ7_fill_eb02e 12 = .ok (.iload_n 2, 1) := by decide +kernel
theorem dJ7_fill_eb02e_13 : decode cJ7_fill_eb02e 13 = .ok (.if_icmp .ge 14, 3) := by decide +kernel
theorem dJ7_fill_eb02e_16 : decode cJ7_fill_eb02e 16 = .ok (.aload_n 0, 1) := by decide +kernel
theorem dJ7_fill_eb02e_17 : decode cJ7_fill_eb02e 17 = .ok (.iload 4, 2) := by decide +kernel
theorem dJ7_fill_eb02e_19 : decode cJ7_fill_eb02e 19 = .ok (.iload_n 3, 1) := by decide +kernel
theorem dJ7_fill_eb02e_20 : decode cJ7_fill_eb02e 20 = .ok (.bastore, 1) := by decide +kernel
theorem dJ7_fill_eb02e_21 : decode cJ7_fill_eb02e 21 = .ok (.iinc 4 1, 3) := by decide +kernel
theorem dJ7_fill_eb02e_24 : decode cJ7_fill_eb02e 24 = .ok (.goto (-14), 3) := by decide +kernel
theorem dJ7_fill_eb02e_27 : decode cJ7_fill_eb02e 27 = .ok (.return_, 1) := by decide +kernel
theorem dJ7_copyOf_1904c_0 : decode cJ7_copyOf_1904c 0 = .ok (.aload_n 0, 1) := by decide +kernel
theorem dJ7_copyOf_1904c_1 : decode cJ7_copyOf_1904c 1 = .ok (.iload_n 1, 1) := by decide +kernel
theorem dJ7_copyOf_1904c_2 : decode cJ7_copyOf_1904c 2 = .ok (.aload_n 0, 1) := by decide +kernel
theorem dJ7_copyOf_1904c_3 : decode cJ7_copyOf_1904c 3 = .ok (.invokevirtual 86, 3) := by decide +kernel
theorem dJ7_copyOf_1904c_6 : decode cJ7_copyOf_1904c 6 = .ok (.invokestatic 300, 3) := by decide +kernel
theorem dJ7_copyOf_1904c_9 : decode cJ7_copyOf_1904c 9 = .ok (.areturn, 1) := by decide +kernel
theorem dJ7_copyOf_6403c_0 : decode cJ7_copyOf_6403c 0 = .ok (.aload_n 2, 1) := by decide +kernel
theorem dJ7_copyOf_6403c_1 : decode cJ7_copyOf_6403c 1 = .ok (.ldc 110, 2) := by decide +kernel
theorem dJ7_copyOf_6403c_3 : decode cJ7_copyOf_6403c 3 = .ok (.if_acmp .ne 10, 3) := by decide +kernel
theorem dJ7_copyOf_6403c_6 : decode cJ7_copyOf_6403c 6 = .ok (.iload_n 1, 1) := by decide +kernel
theorem dJ7_copyOf_6403c_7 : decode cJ7_copyOf_6403c 7 = .ok (.anewarray 2, 3) := by decide +kernel
theorem dJ7_copyOf_6403c_10 : decode cJ7_copyOf_6403c 10 = .ok (.goto 14, 3) := by decide +kernel
theorem dJ7_copyOf_6403c_13 : decode cJ7_copyOf_6403c 13 = .ok (.aload_n 2, 1) := by decide +kernel
theorem dJ7_copyOf_6403c_14 : decode cJ7_copyOf_6403c 14 = .ok (.invokevirtual 90, 3) := by decide +kernel
theorem dJ7_copyOf_6403c_17 : decode cJ7_copyOf_6403c 17 = .ok (.iload_n 1, 1) := by decide +kernel
theorem dJ7_copyOf_6403c_18 : decode cJ7_copyOf_6403c 18 = .ok (.invokestatic 95, 3) := by decide +kernel
theorem dJ7_copyOf_6403c_21 : decode cJ7_copyOf_6403c 21 = .ok (.checkcast 110, 3) := by decide +kernel
theorem dJ7_copyOf_6403c_24 : decode cJ7_copyOf_6403c 24 = .ok (.astore_n 3, 1) := by decide +kernel
theorem dJ7_copyOf_6403c_25 : decode cJ7_copyOf_6403c 25 = .ok (.aload_n 0, 1) := by decide +kernel
theorem dJ7_copyOf_6403c_26 : decode cJ7_copyOf_6403c 26 = .ok (.iconst 0, 1) := by decide +kernel
theorem dJ7_copyOf_6403c_27 : decode cJ7_copyOf_6403c 27 = .ok (.aload_n 3, 1) := by decide +kernel
theorem dJ7_copyOf_6403c_28 : decode cJ7_copyOf_6403c 28 = .ok (.iconst 0, 1) := by decide +kernel
theorem dJ7_copyOf_6403c_29 : decode cJ7_copyOf_6403c 29 = .ok (.aload_n 0, 1) := by decide +kernel
theorem dJ7_copyOf_6403c_30 : decode cJ7_copyOf_6403c 30 = .ok (.arraylength, 1) := by decide +kernel
theorem dJ7_copyOf_6403c_31 : decode cJ7_copyOf_6403c 31 = .ok (.iload_n 1, 1) := by decide +kernel
theorem dJ7_copyOf_6403c_32 : decode cJ7_copyOf_6403c 32 = .ok (.invokestatic 304, 3) := by decide +kernel
theorem dJ7_copyOf_6403c_35 : decode cJ7_copyOf_6403c 35 = .ok (.invokestatic 150, 3) := by decide +kernel
theorem dJ7_copyOf_6403c_38 : decode cJ7_copyOf_6403c 38 = .ok (.aload_n 3, 1) := by decide +kernel
theorem dJ7_copyOf_6403c_39 : decode cJ7_copyOf_6403c 39 = .ok (.areturn, 1) := by decide +kernel
theorem dJ7_copyOf_9075b_0 : decode cJ7_copyOf_9075b 0 = .ok (.iload_n 1, 1) := by decide +kernel
theorem dJ7_copyOf_9075b_1 : decode cJ7_copyOf_9075b 1 = .ok (.aload_n 0, 1) := by decide +kernel
theorem dJ7_copyOf_9075b_2 : decode cJ7_copyOf_9075b 2 = .ok (.arraylength, 1) := by decide +kernel
theorem dJ7_copyOf_9075b_3 : decode cJ7_copyOf_9075b 3 = .ok (.if_icmp .ne 11, 3) := by decide +kernel
theorem dJ7_copyOf_9075b_6 : decode cJ7_copyOf_9075b 6 = .ok (.aload_n 0, 1) := by decide +kernel
theorem dJ7_copyOf_9075b_7 : decode cJ7_copyOf_9075b 7 = .ok (.invokevirtual 310, 3) := by decide +kernel
theorem dJ7_copyOf_9075b_10 : decode cJ7_copyOf_9075b 10 = .ok (.checkcast 311, 3) := by decide +kernel
theorem dJ7_copyOf_9075b_13 : decode cJ7_copyOf_9075b 13 = .ok (.areturn, 1) := by decide +kernel
theorem dJ7_copyOf_9075b_14 : decode cJ7_copyOf_9075b 14 = .ok (.iload_n 1, 1) := by decide +kernel
theorem dJ7_copyOf_9075b_15 : decode cJ7_copyOf_9075b 15 = .ok (.newarray .byte, 2) := by decide +kernel
theorem dJ7_copyOf_9075b_17 : decode cJ7_copyOf_9075b 17 = .ok (.astore_n 2, 1) := by decide +kernel
theorem dJ7_copyOf_9075b_18 : decode cJ7_copyOf_9075b 18 = .ok (.aload_n 0, 1) := by decide +kernel
theorem dJ7_copyOf_9075b_19 : decode cJ7_copyOf_9075b 19 = .ok (.iconst 0, 1) := by decide +kernel
theorem dJ7_copyOf_9075b_20 : decode cJ7_copyOf_9075b 20 = .ok (.aload_n 2, 1) := by decide +kernel
theorem dJ7_copyOf_9075b_21 : decode cJ7_copyOf_9075b 21 = .ok (.iconst 0, 1) := by decide +kernel
theorem dJ7_copyOf_9075b_22 : decode cJ7_copyOf_9075b 22 = .ok (.aload_n 0, 1) := by decide +kernel
theorem dJ7_copyOf_9075b_23 : decode cJ7_copyOf_9075b 23 = .ok (.arraylength, 1) := by decide +kernel
theorem dJ7_copyOf_9075b_24 : decode cJ7_copyOf_9075b 24 = .ok (.iload_n 1, 1) := by decide +kernel
theorem dJ7_copyOf_9075b_25 : decode cJ7_copyOf_9075b 25 = .ok (.invokestatic 304, 3) := by decide +kernel
theorem dJ7_copyOf_9075b_28 : decode cJ7_copyOf_9075b 28 = .ok (.invokestatic 150, 3) := by decide +kernel
theorem dJ7_copyOf_9075b_31 : decode cJ7_copyOf_9075b 31 = .ok (.aload_n 2, 1) := by decide +kernel
theorem dJ7_copyOf_9075b_32 : decode cJ7_copyOf_9075b 32 = .ok (.areturn, 1) := by decide +kernel
theorem dJ7_checkLength_df160_0 : decode cJ7_checkLength_df160 0 = .ok (.iload_n 1, 1) := by decide +kernel
theorem dJ7_checkLength_df160_1 : decode cJ7_checkLength_df160 1 = .ok (.iload_n 0, 1) := by decide +kernel
theorem dJ7_checkLength_df160_2 : decode cJ7_checkLength_df160 2 = .ok (.if_icmp .ge 35, 3) := by decide +kernel
theorem dJ7_checkLength_df160_5 : decode cJ7_checkLength_df160 5 = .ok (.new 43, 3) := by decide +kernel
theorem dJ7_checkLength_df160_8 : decode cJ7_checkLength_df160 8 = .ok (.dup, 1) := by decide +kernel
theorem dJ7_checkLength_df160_9 : decode cJ7_checkLength_df160 9 = .ok (.new 45, 3) := by decide +kernel
theorem dJ7_checkLength_df160_12 : decode cJ7_checkLength_df160 12 = .ok (.dup, 1) := by decide +kernel
theorem dJ7_checkLength_df160_13 : decode cJ7_checkLength_df160 13 = .ok (.invokespecial 47, 3) := by decide +kernel
theorem dJ7_checkLength_df160_16 : decode cJ7_checkLength_df160 16 = .ok (.iload_n 0, 1) := by decide +kernel
theorem dJ7_checkLength_df160_17 : decode cJ7_checkLength_df160 17 = .ok (.invokevirtual 54, 3) := by decide +kernel
theorem dJ7_checkLength_df160_20 : decode cJ7_checkLength_df160 20 = .ok (.ldc_w 337, 3) := by decide +kernel
theorem dJ7_checkLength_df160_23 : decode cJ7_checkLength_df160 23 = .ok (.invokevirtual 50, 3) := by decide +kernel
theorem dJ7_checkLength_df160_26 : decode cJ7_checkLength_df160 26 = .ok (.iload_n 1, 1) := by decide +kernel
theorem dJ7_checkLength_df160_27 : decode cJ7_checkLength_df160 27 = .ok (.invokevirtual 54, 3) := by decide +kernel
theorem dJ7_checkLength_df160_30 : decode cJ7_checkLength_df160 30 = .ok (.invokevirtual 61, 3) := by decide +kernel
theorem dJ7_checkLength_df160_33 : decode cJ7_checkLength_df160 33 = .ok (.invokespecial 65, 3) := by decide +kernel
theorem dJ7_checkLength_df160_36 : decode cJ7_checkLength_df160 36 = .ok (.athrow, 1) := by decide +kernel
theorem dJ7_checkLength_df160_37 : decode cJ7_checkLength_df160 37 = .ok (.return_, 1) := by decide +kernel
theorem dJ7_copyOfRange_39247_0 : decode cJ7_copyOfRange_39247 0 = .ok (.iload_n 1, 1) := by decide +kernel
theorem dJ7_copyOfRange_39247_1 : decode cJ7_copyOfRange_39247 1 = .ok (.ifCond .ne 9, 3) := by decide +kernel
theorem dJ7_copyOfRange_39247_4 : decode cJ7_copyOfRange_39247 4 = .ok (.iload_n 2, 1) := by decide +kernel
theorem dJ7_copyOfRange_39247_5 : decode cJ7_copyOfRange_39247 5 = .ok (.aload_n 0, 1) := by decide +kernel
theorem dJ7_copyOfRange_39247_6 : decode cJ7_copyOfRange_39247 6 = .ok (.arraylength, 1) := by decide +kernel
theorem dJ7_copyOfRange_39247_7 : decode cJ7_copyOfRange_39247 7 = .ok (.if_icmp .eq 10, 3) := by decide +kernel
theorem dJ7_copyOfRange_39247_10 : decode cJ7_copyOfRange_39247 10 = .ok (.aload_n 0, 1) := by decide +kernel
theorem dJ7_copyOfRange_39247_11 : decode cJ7_copyOfRange_39247 11 = .ok (.iload_n 1, 1) := by decide +kernel
theorem dJ7_copyOfRange_39247_12 : decode cJ7_copyOfRange_39247 12 = .ok (.iload_n 2, 1) := by decide +kernel
theorem dJ7_copyOfRange_39247_13 : decode cJ7_copyOfRange_39247 13 = .ok (.invokestatic 339, 3) := by decide +kernel
theorem dJ7_copyOfRange_39247_16 : decode cJ7_copyOfRange_39247 16 = .ok (.areturn, 1) := by decide +kernel
theorem dJ7_copyOfRange_39247_17 : decode cJ7_copyOfRange_39247 17 = .ok (.aload_n 0, 1) := by decide +kernel
theorem dJ7_copyOfRange_39247_18 : decode cJ7_copyOfRange_39247 18 = .ok (.invokevirtual 310, 3) := by decide +kernel
theorem dJ7_copyOfRange_39247_21 : decode cJ7_copyOfRange_39247 21 = .ok (.checkcast 311, 3) := by decide +kernel
theorem dJ7_copyOfRange_39247_24 : decode cJ7_copyOfRange_39247 24 = .ok (.areturn, 1) := by decide +kernel
theorem dJ7_copyOfRangeByte_39247_0 : decode cJ7_copyOfRangeByte_39247 0 = .ok (.iload_n 1, 1) := by decide +kernel
theorem dJ7_copyOfRangeByte_39247_1 : decode cJ7_copyOfRangeByte_39247 1 = .ok (.iload_n 2, 1) := by decide +kernel
theorem dJ7_copyOfRangeByte_39247_2 : decode cJ7_copyOfRangeByte_39247 2 = .ok (.invokestatic 343, 3) := by decide +kernel
theorem dJ7_copyOfRangeByte_39247_5 : decode cJ7_copyOfRangeByte_39247 5 = .ok (.iload_n 2, 1) := by decide +kernel
theorem dJ7_copyOfRangeByte_39247_6 : decode cJ7_copyOfRangeByte_39247 6 = .ok (.iload_n 1, 1) := by decide +kernel
theorem dJ7_copyOfRangeByte_39247_7 : decode cJ7_copyOfRangeByte_39247 7 = .ok (.isub, 1) := by decide +kernel
theorem dJ7_copyOfRangeByte_39247_8 : decode cJ7_copyOfRangeByte_39247 8 = .ok (.istore_n 3, 1) := by decide +kernel
theorem dJ7_copyOfRangeByte_39247_9 : decode cJ7_copyOfRangeByte_39247 9 = .ok (.iload_n 3, 1) := by decide +kernel
theorem dJ7_copyOfRangeByte_39247_10 : decode cJ7_copyOfRangeByte_39247 10 = .ok (.newarray .byte, 2) := by decide +kernel
theorem dJ7_copyOfRangeByte_39247_12 : decode cJ7_copyOfRangeByte_39247 12 = .ok (.astore 4, 2) := by decide +kernel
theorem dJ7_copyOfRangeByte_39247_14 : decode cJ7_copyOfRangeByte_39247 14 = .ok (.aload_n 0, 1) := by decide +kernel
theorem dJ7_copyOfRangeByte_39247_15 : decode cJ7_copyOfRangeByte_39247 15 = .ok (.iload_n 1, 1) := by decide +kernel
theorem dJ7_copyOfRangeByte_39247_16 : decode cJ7_copyOfRangeByte_39247 16 = .ok (.aload 4, 2) := by decide +kernel
theorem dJ7_copyOfRangeByte_39247_18 : decode cJ7_copyOfRangeByte_39247 18 = .ok (.iconst 0, 1) := by decide +kernel
theorem dJ7_copyOfRangeByte_39247_19 : decode cJ7_copyOfRangeByte_39247 19 = .ok (.aload_n 0, 1) := by decide +kernel
theorem dJ7_copyOfRangeByte_39247_20 : decode cJ7_copyOfRangeByte_39247 20 = .ok (.arraylength, 1) := by decide +kernel
theorem dJ7_copyOfRangeByte_39247_21 : decode cJ7_copyOfRangeByte_39247 21 = .ok (.iload_n 1, 1) := by decide +kernel
theorem dJ7_copyOfRangeByte_39247_22 : decode cJ7_copyOfRangeByte_39247 22 = .ok (.isub, 1) := by decide +kernel
theorem dJ7_copyOfRangeByte_39247_23 : decode cJ7_copyOfRangeByte_39247 23 = .ok (.iload_n 3, 1) := by decide +kernel
theorem dJ7_copyOfRangeByte_39247_24 : decode cJ7_copyOfRangeByte_39247 24 = .ok (.invokestatic 304, 3) := by decide +kernel
theorem dJ7_copyOfRangeByte_39247_27 : decode cJ7_copyOfRangeByte_39247 27 = .ok (.invokestatic 150, 3) := by decide +kernel
theorem dJ7_copyOfRangeByte_39247_30 : decode cJ7_copyOfRangeByte_39247 30 = .ok (.aload 4, 2) := by decide +kernel
theorem dJ7_copyOfRangeByte_39247_32 : decode cJ7_copyOfRangeByte_39247 32 = .ok (.areturn, 1) := by decide +kernel
theorem dJ15_checkIndex_7cf53_0 : decode cJ15_checkIndex_7cf53 0 = .ok (.iload_n 0, 1) := by decide +kernel
theorem dJ15_checkIndex_7cf53_1 : decode cJ15_checkIndex_7cf53 1 = .ok (.iload_n 1, 1) := by decide +kernel
theorem dJ15_checkIndex_7cf53_2 : decode cJ15_checkIndex_7cf53 2 = .ok (.aconst_null, 1) := by decide +kernel
theorem dJ15_checkIndex_7cf53_3 : decode cJ15_checkIndex_7cf53 3 = .ok (.invokestatic 105, 3) := by decide +kernel
theorem dJ15_checkIndex_7cf53_6 : decode cJ15_checkIndex_7cf53 6 = .ok (.ireturn, 1) := by decide +kernel
theorem dJ8_newLength_cabcc_0 : decode cJ8_newLength_cabcc 0 = .ok (.iload_n 0, 1) := by decide +kernel
theorem dJ8_newLength_cabcc_1 : decode cJ8_newLength_cabcc 1 = .ok (.iload_n 1, 1) := by decide +kernel
theorem dJ8_newLength_cabcc_2 : decode cJ8_newLength_cabcc 2 = .ok (.iload_n 2, 1) := by decide +kernel
theorem dJ8_newLength_cabcc_3 : decode cJ8_newLength_cabcc 3 = .ok (.invokestatic 194, 3) := by decide +kernel
theorem dJ8_newLength_cabcc_6 : decode cJ8_newLength_cabcc 6 = .ok (.iadd, 1) := by decide +kernel
theorem dJ8_newLength_cabcc_7 : decode cJ8_newLength_cabcc 7 = .ok (.istore_n 3, 1) := by decide +kernel
theorem dJ8_newLength_cabcc_8 : decode cJ8_newLength_cabcc 8 = .ok (.iconst 0, 1) := by decide +kernel
theorem dJ8_newLength_cabcc_9 : decode cJ8_newLength_cabcc 9 = .ok (.iload_n 3, 1) := by decide +kernel
theorem dJ8_newLength_cabcc_10 : decode cJ8_newLength_cabcc 10 = .ok (.if_icmp .ge 11, 3) := by decide +kernel
theorem dJ8_newLength_cabcc_13 : decode cJ8_newLength_cabcc 13 = .ok (.iload_n 3, 1) := by decide +kernel
theorem dJ8_newLength_cabcc_14 : decode cJ8_newLength_cabcc 14 = .ok (.ldc 200, 2) := by decide +kernel
theorem dJ8_newLength_cabcc_16 : decode cJ8_newLength_cabcc 16 = .ok (.if_icmp .gt 5, 3) := by decide +kernel
theorem dJ8_newLength_cabcc_19 : decode cJ8_newLength_cabcc 19 = .ok (.iload_n 3, 1) := by decide +kernel
theorem dJ8_newLength_cabcc_20 : decode cJ8_newLength_cabcc 20 = .ok (.ireturn, 1) := by decide +kernel
theorem dJ8_newLength_cabcc_21 : decode cJ8_newLength_cabcc 21 = .ok (.iload_n 0, 1) := by decide +kernel
theorem dJ8_newLength_cabcc_22 : decode cJ8_newLength_cabcc 22 = .ok (.iload_n 1, 1) := by decide +kernel
theorem dJ8_newLength_cabcc_23 : decode cJ8_newLength_cabcc 23 = .ok (.invokestatic 201, 3) := by decide +kernel
theorem dJ8_newLength_cabcc_26 : decode cJ8_newLength_cabcc 26 = .ok (.ireturn, 1) := by decide +kernel
theorem dJ8_hugeLength_7cf53_0 : decode cJ8_hugeLength_7cf53 0 = .ok (.iload_n 0, 1) := by decide +kernel
theorem dJ8_hugeLength_7cf53_1 : decode cJ8_hugeLength_7cf53 1 = .ok (.iload_n 1, 1) := by decide +kernel
theorem dJ8_hugeLength_7cf53_2 : decode cJ8_hugeLength_7cf53 2 = .ok (.iadd, 1) := by decide +kernel
theorem dJ8_hugeLength_7cf53_3 : decode cJ8_hugeLength_7cf53 3 = .ok (.istore_n 2, 1) := by decide +kernel
theorem dJ8_hugeLength_7cf53_4 : decode cJ8_hugeLength_7cf53 4 = .ok (.iload_n 2, 1) := by decide +kernel
theorem dJ8_hugeLength_7cf53_5 : decode cJ8_hugeLength_7cf53 5 = .ok (.ifCond .ge 44, 3) := by decide +kernel
theorem dJ8_hugeLength_7cf53_8 : decode cJ8_hugeLength_7cf53 8 = .ok (.new 204, 3) := by decide +kernel
theorem dJ8_hugeLength_7cf53_11 : decode cJ8_hugeLength_7cf53 11 = .ok (.dup, 1) := by decide +kernel
theorem dJ8_hugeLength_7cf53_12 : decode cJ8_hugeLength_7cf53 12 = .ok (.new 89, 3) := by decide +kernel
theorem dJ8_hugeLength_7cf53_15 : decode cJ8_hugeLength_7cf53 15 = .ok (.dup, 1) := by decide +kernel
theorem dJ8_hugeLength_7cf53_16 : decode cJ8_hugeLength_7cf53 16 = .ok (.invokespecial 91, 3) := by decide +kernel
theorem dJ8_hugeLength_7cf53_19 : decode cJ8_hugeLength_7cf53 19 = .ok (.ldc 206, 2) := by decide +kernel
theorem dJ8_hugeLength_7cf53_21 : decode cJ8_hugeLength_7cf53 21 = .ok (.invokevirtual 94, 3) := by decide +kernel
theorem dJ8_hugeLength_7cf53_24 : decode cJ8_hugeLength_7cf53 24 = .ok (.iload_n 0, 1) := by decide +kernel
theorem dJ8_hugeLength_7cf53_25 : decode cJ8_hugeLength_7cf53 25 = .ok (.invokevirtual 98, 3) := by decide +kernel
theorem dJ8_hugeLength_7cf53_28 : decode cJ8_hugeLength_7cf53 28 = .ok (.ldc 208, 2) := by decide +kernel
theorem dJ8_hugeLength_7cf53_30 : decode cJ8_hugeLength_7cf53 30 = .ok (.invokevirtual 94, 3) := by decide +kernel
theorem dJ8_hugeLength_7cf53_33 : decode cJ8_hugeLength_7cf53 33 = .ok (.iload_n 1, 1) := by decide +kernel
theorem dJ8_hugeLength_7cf53_34 : decode cJ8_hugeLength_7cf53 34 = .ok (.invokevirtual 98, 3) := by decide +kernel
theorem dJ8_hugeLength_7cf53_37 : decode cJ8_hugeLength_7cf53 37 = .ok (.ldc 210, 2) := by decide +kernel
theorem dJ8_hugeLength_7cf53_39 : decode cJ8_hugeLength_7cf53 39 = .ok (.invokevirtual 94, 3) := by decide +kernel
theorem dJ8_hugeLength_7cf53_42 : decode cJ8_hugeLength_7cf53 42 = .ok (.invokevirtual 101, 3) := by decide +kernel
theorem dJ8_hugeLength_7cf53_45 : decode cJ8_hugeLength_7cf53 45 = .ok (.invokespecial 212, 3) := by decide +kernel
theorem dJ8_hugeLength_7cf53_48 : decode cJ8_hugeLength_7cf53 48 = .ok (.athrow, 1) := by decide +kernel
theorem dJ8_hugeLength_7cf53_49 : decode cJ8_hugeLength_7cf53 49 = .ok (.iload_n 2, 1) := by decide +kernel
theorem dJ8_hugeLength_7cf53_50 : decode cJ8_hugeLength_7cf53 50 = .ok (.ldc 200, 2) := by decide +kernel
theorem dJ8_hugeLength_7cf53_52 : decode cJ8_hugeLength_7cf53 52 = .ok (.if_icmp .gt 6, 3) := by decide +kernel
theorem dJ8_hugeLength_7cf53_55 : decode cJ8_hugeLength_7cf53 55 = .ok (.ldc 200, 2) := by decide +kernel
theorem dJ8_hugeLength_7cf53_57 : decode cJ8_hugeLength_7cf53 57 = .ok (.ireturn, 1) := by decide +kernel
theorem dJ8_hugeLength_7cf53_58 : decode cJ8_hugeLength_7cf53 58 = .ok (.iload_n 2, 1) := by decide +kernel
theorem dJ8_hugeLength_7cf53_59 : decode cJ8_hugeLength_7cf53 59 = .ok (.ireturn, 1) := by decide +kernel
theorem dJ3_checkIndex_8e157_0 : decode cJ3_checkIndex_8e157 0 = .ok (.iload_n 0, 1) := by decide +kernel
theorem dJ3_checkIndex_8e157_1 : decode cJ3_checkIndex_8e157 1 = .ok (.ifCond .lt 8, 3) := by decide +kernel
theorem dJ3_checkIndex_8e157_4 : decode cJ3_checkIndex_8e157 4 = .ok (.iload_n 0, 1) := by decide +kernel
theorem dJ3_checkIndex_8e157_5 : decode cJ3_checkIndex_8e157 5 = .ok (.iload_n 1, 1) := by decide +kernel
theorem dJ3_checkIndex_8e157_6 : decode cJ3_checkIndex_8e157 6 = .ok (.if_icmp .lt 10, 3) := by decide +kernel
theorem dJ3_checkIndex_8e157_9 : decode cJ3_checkIndex_8e157 9 = .ok (.aload_n 2, 1) := by decide +kernel
theorem dJ3_checkIndex_8e157_10 : decode cJ3_checkIndex_8e157 10 = .ok (.iload_n 0, 1) := by decide +kernel
theorem dJ3_checkIndex_8e157_11 : decode cJ3_checkIndex_8e157 11 = .ok (.iload_n 1, 1) := by decide +kernel
theorem dJ3_checkIndex_8e157_12 : decode cJ3_checkIndex_8e157 12 = .ok (.invokestatic 95, 3) := by decide +kernel
theorem dJ3_checkIndex_8e157_15 : decode cJ3_checkIndex_8e157 15 = .ok (.athrow, 1) := by decide +kernel
theorem dJ3_checkIndex_8e157_16 : decode cJ3_checkIndex_8e157 16 = .ok (.iload_n 0, 1) := by decide +kernel
theorem dJ3_checkIndex_8e157_17 : decode cJ3_checkIndex_8e157 17 = .ok (.ireturn, 1) := by decide +kernel
theorem dJ3_checkFromToIndex_8c36e_0 : decode cJ3_checkFromToIndex_8c36e 0 = .ok (.iload_n 0, 1) := by decide +kernel
theorem dJ3_checkFromToIndex_8c36e_1 : decode cJ3_checkFromToIndex_8c36e 1 = .ok (.ifCond .lt 13, 3) := by decide +kernel
theorem dJ3_checkFromToIndex_8c36e_4 : decode cJ3_checkFromToIndex_8c36e 4 = .ok (.iload_n 0, 1) := by decide +kernel
theorem dJ3_checkFromToIndex_8c36e_5 : decode cJ3_checkFromToIndex_8c36e 5 = .ok (.iload_n 1, 1) := by decide +kernel
theorem dJ3_checkFromToIndex_8c36e_6 : decode cJ3_checkFromToIndex_8c36e 6 = .ok (.if_icmp .gt 8, 3) := by decide +kernel
theorem dJ3_checkFromToIndex_8c36e_9 : decode cJ3_checkFromToIndex_8c36e 9 = .ok (.iload_n 1, 1) := by decide +kernel
theorem dJ3_checkFromToIndex_8c36e_10 : decode cJ3_checkFromToIndex_8c36e 10 = .ok (.iload_n 2, 1) := by decide +kernel
theorem dJ3_checkFromToIndex_8c36e_11 : decode cJ3_checkFromToIndex_8c36e 11 = .ok (.if_icmp .le 11, 3) := by decide +kernel
theorem dJ3_checkFromToIndex_8c36e_14 : decode cJ3_checkFromToIndex_8c36e 14 = .ok (.aload_n 3, 1) := by decide +kernel
theorem dJ3_checkFromToIndex_8c36e_15 : decode cJ3_checkFromToIndex_8c36e 15 = .ok (.iload_n 0, 1) := by decide +kernel
theorem dJ3_checkFromToIndex_8c36e_16 : decode cJ3_checkFromToIndex_8c36e 16 = .ok (.iload_n 1, 1) := by decide +kernel
theorem dJ3_checkFromToIndex_8c36e_17 : decode cJ3_checkFromToIndex_8c36e 17 = .ok (.iload_n 2, 1) := by decide +kernel
theorem dJ3_checkFromToIndex_8c36e_18 : decode cJ3_checkFromToIndex_8c36e 18 = .ok (.invokestatic 99, 3) := by decide +kernel
theorem dJ3_checkFromToIndex_8c36e_21 : decode cJ3_checkFromToIndex_8c36e 21 = .ok (.athrow, 1) := by decide +kernel
theorem dJ3_checkFromToIndex_8c36e_22 : decode cJ3_checkFromToIndex_8c36e 22 = .ok (.iload_n 0, 1) := by decide +kernel
theorem dJ3_checkFromToIndex_8c36e_23 : decode cJ3_checkFromToIndex_8c36e 23 = .ok (.ireturn, 1) := by decide +kernel
theorem dJ3_checkFromIndexSize_8c36e_0 : decode cJ3_checkFromIndexSize_8c36e 0 = .ok (.iload_n 2, 1) := by decide +kernel
theorem dJ3_checkFromIndexSize_8c36e_1 : decode cJ3_checkFromIndexSize_8c36e 1 = .ok (.iload_n 0, 1) := by decide +kernel
theorem dJ3_checkFromIndexSize_8c36e_2 : decode cJ3_checkFromIndexSize_8c36e 2 = .ok (.ior, 1) := by decide +kernel
theorem dJ3_checkFromIndexSize_8c36e_3 : decode cJ3_checkFromIndexSize_8c36e 3 = .ok (.iload_n 1, 1) := by decide +kernel
theorem dJ3_checkFromIndexSize_8c36e_4 : decode cJ3_checkFromIndexSize_8c36e 4 = .ok (.ior, 1) := by decide +kernel
theorem dJ3_checkFromIndexSize_8c36e_5 : decode cJ3_checkFromIndexSize_8c36e 5 = .ok (.ifCond .lt 10, 3) := by decide +kernel
theorem dJ3_checkFromIndexSize_8c36e_8 : decode cJ3_checkFromIndexSize_8c36e 8 = .ok (.iload_n 1, 1) := by decide +kernel
theorem dJ3_checkFromIndexSize_8c36e_9 : decode cJ3_checkFromIndexSize_8c36e 9 = .ok (.iload_n 2, 1) := by decide +kernel
theorem dJ3_checkFromIndexSize_8c36e_10 : decode cJ3_checkFromIndexSize_8c36e 10 = .ok (.iload_n 0, 1) := by decide +kernel
theorem dJ3_checkFromIndexSize_8c36e_11 : decode cJ3_checkFromIndexSize_8c36e 11 = .ok (.isub, 1) := by decide +kernel
theorem dJ3_checkFromIndexSize_8c36e_12 : decode cJ3_checkFromIndexSize_8c36e 12 = .ok (.if_icmp .le 11, 3) := by decide +kernel
theorem dJ3_checkFromIndexSize_8c36e_15 : decode cJ3_checkFromIndexSize_8c36e 15 = .ok (.aload_n 3, 1) := by decide +kernel
theorem dJ3_checkFromIndexSize_8c36e_16 : decode cJ3_checkFromIndexSize_8c36e 16 = .ok (.iload_n 0, 1) := by decide +kernel
theorem dJ3_checkFromIndexSize_8c36e_17 : decode cJ3_checkFromIndexSize_8c36e 17 = .ok (.iload_n 1, 1) := by decide +kernel
theorem dJ3_checkFromIndexSize_8c36e_18 : decode cJ3_checkFromIndexSize_8c36e 18 = .ok (.iload_n 2, 1) := by decide +kernel
theorem dJ3_checkFromIndexSize_8c36e_19 : decode cJ3_checkFromIndexSize_8c36e 19 = .ok (.invokestatic 103, 3) := by decide +kernel
theorem dJ3_checkFromIndexSize_8c36e_22 : decode cJ3_checkFromIndexSize_8c36e 22 = .ok (.athrow, 1) := by decide +kernel
theorem dJ3_checkFromIndexSize_8c36e_23 : decode cJ3_checkFromIndexSize_8c36e 23 = .ok (.iload_n 0, 1) := by decide +kernel
theorem dJ3_checkFromIndexSize_8c36e_24 : decode cJ3_checkFromIndexSize_8c36e 24 = .ok (.ireturn, 1) := by decide +kernel
theorem dL_pass_0 : decode cL_pass 0 = .ok (.aload_n 2, 1) := by decide +kernel
theorem dL_pass_1 : decode cL_pass 1 = .ok (.iconst 0, 1) := by decide +kernel
theorem dL_pass_2 : decode cL_pass 2 = .ok (.aload_n 0, 1) := by decide +kernel
theorem dL_pass_3 : decode cL_pass 3 = .ok (.iload_n 1, 1) := by decide +kernel
theorem dL_pass_4 : decode cL_pass 4 = .ok (.invokevirtual 7, 3) := by decide +kernel
theorem dL_pass_7 : decode cL_pass 7 = .ok (.i2l, 1) := by decide +kernel
theorem dL_pass_8 : decode cL_pass 8 = .ok (.lastore, 1) := by decide +kernel
theorem dL_pass_9 : decode cL_pass 9 = .ok (.goto 9, 3) := by decide +kernel
theorem dL_pass_12 : decode cL_pass 12 = .ok (.astore_n 3, 1) := by decide +kernel
theorem dL_pass_13 : decode cL_pass 13 = .ok (.iconst 1, 1) := by decide +kernel
theorem dL_pass_14 : decode cL_pass 14 = .ok (.ireturn, 1) := by decide +kernel
theorem dL_pass_15 : decode cL_pass 15 = .ok (.astore_n 3, 1) := by decide +kernel
theorem dL_pass_16 : decode cL_pass 16 = .ok (.iconst 2, 1) := by decide +kernel
theorem dL_pass_17 : decode cL_pass 17 = .ok (.ireturn, 1) := by decide +kernel
theorem dL_pass_18 : decode cL_pass 18 = .ok (.iconst 0, 1) := by decide +kernel
theorem dL_pass_19 : decode cL_pass 19 = .ok (.ireturn, 1) := by decide +kernel
theorem dL_setRule_0 : decode cL_setRule 0 = .ok (.aload_n 2, 1) := by decide +kernel
theorem dL_setRule_1 : decode cL_setRule 1 = .ok (.iconst 0, 1) := by decide +kernel
theorem dL_setRule_2 : decode cL_setRule 2 = .ok (.aload_n 0, 1) := by decide +kernel
theorem dL_setRule_3 : decode cL_setRule 3 = .ok (.iload_n 1, 1) := by decide +kernel
theorem dL_setRule_4 : decode cL_setRule 4 = .ok (.invokevirtual 17, 3) := by decide +kernel
theorem dL_setRule_7 : decode cL_setRule 7 = .ok (.i2l, 1) := by decide +kernel
theorem dL_setRule_8 : decode cL_setRule 8 = .ok (.lastore, 1) := by decide +kernel
theorem dL_setRule_9 : decode cL_setRule 9 = .ok (.goto 6, 3) := by decide +kernel
theorem dL_setRule_12 : decode cL_setRule 12 = .ok (.astore_n 3, 1) := by decide +kernel
theorem dL_setRule_13 : decode cL_setRule 13 = .ok (.iconst 1, 1) := by decide +kernel
theorem dL_setRule_14 : decode cL_setRule 14 = .ok (.ireturn, 1) := by decide +kernel
theorem dL_setRule_15 : decode cL_setRule 15 = .ok (.iconst 0, 1) := by decide +kernel
theorem dL_setRule_16 : decode cL_setRule 16 = .ok (.ireturn, 1) := by decide +kernel
theorem dL_addClient_0 : decode cL_addClient 0 = .ok (.aload 5, 2) := by decide +kernel
theorem dL_addClient_2 : decode cL_addClient 2 = .ok (.iconst 0, 1) := by decide +kernel
theorem dL_addClient_3 : decode cL_addClient 3 = .ok (.aload_n 0, 1) := by decide +kernel
theorem dL_addClient_4 : decode cL_addClient 4 = .ok (.iload_n 1, 1) := by decide +kernel
theorem dL_addClient_5 : decode cL_addClient 5 = .ok (.iload_n 2, 1) := by decide +kernel
theorem dL_addClient_6 : decode cL_addClient 6 = .ok (.iload_n 3, 1) := by decide +kernel
theorem dL_addClient_7 : decode cL_addClient 7 = .ok (.iload 4, 2) := by decide +kernel
theorem dL_addClient_9 : decode cL_addClient 9 = .ok (.invokevirtual 21, 3) := by decide +kernel
theorem dL_addClient_12 : decode cL_addClient 12 = .ok (.i2l, 1) := by decide +kernel
theorem dL_addClient_13 : decode cL_addClient 13 = .ok (.lastore, 1) := by decide +kernel
theorem dL_addClient_14 : decode cL_addClient 14 = .ok (.goto 11, 3) := by decide +kernel
theorem dL_addClient_17 : decode cL_addClient 17 = .ok (.astore 6, 2) := by decide +kernel
theorem dL_addClient_19 : decode cL_addClient 19 = .ok (.iconst 1, 1) := by decide +kernel
theorem dL_addClient_20 : decode cL_addClient 20 = .ok (.ireturn, 1) := by decide +kernel
theorem dL_addClient_21 : decode cL_addClient 21 = .ok (.astore 6, 2) := by decide +kernel
theorem dL_addClient_23 : decode cL_addClient 23 = .ok (.iconst 2, 1) := by decide +kernel
theorem dL_addClient_24 : decode cL_addClient 24 = .ok (.ireturn, 1) := by decide +kernel
theorem dL_addClient_25 : decode cL_addClient 25 = .ok (.iconst 0, 1) := by decide +kernel
theorem dL_addClient_26 : decode cL_addClient 26 = .ok (.ireturn, 1) := by decide +kernel
theorem dL_setRounding_0 : decode cL_setRounding 0 = .ok (.aload 5, 2) := by decide +kernel
theorem dL_setRounding_2 : decode cL_setRounding 2 = .ok (.iconst 0, 1) := by decide +kernel
theorem dL_setRounding_3 : decode cL_setRounding 3 = .ok (.aload_n 0, 1) := by decide +kernel
theorem dL_setRounding_4 : decode cL_setRounding 4 = .ok (.iload_n 1, 1) := by decide +kernel
theorem dL_setRounding_5 : decode cL_setRounding 5 = .ok (.iload_n 2, 1) := by decide +kernel
theorem dL_setRounding_6 : decode cL_setRounding 6 = .ok (.iload_n 3, 1) := by decide +kernel
theorem dL_setRounding_7 : decode cL_setRounding 7 = .ok (.iload 4, 2) := by decide +kernel
theorem dL_setRounding_9 : decode cL_setRounding 9 = .ok (.invokevirtual 25, 3) := by decide +kernel
theorem dL_setRounding_12 : decode cL_setRounding 12 = .ok (.i2l, 1) := by decide +kernel
theorem dL_setRounding_13 : decode cL_setRounding 13 = .ok (.lastore, 1) := by decide +kernel
theorem dL_setRounding_14 : decode cL_setRounding 14 = .ok (.goto 11, 3) := by decide +kernel
theorem dL_setRounding_17 : decode cL_setRounding 17 = .ok (.astore 6, 2) := by decide +kernel
theorem dL_setRounding_19 : decode cL_setRounding 19 = .ok (.iconst 1, 1) := by decide +kernel
theorem dL_setRounding_20 : decode cL_setRounding 20 = .ok (.ireturn, 1) := by decide +kernel
theorem dL_setRounding_21 : decode cL_setRounding 21 = .ok (.astore 6, 2) := by decide +kernel
theorem dL_setRounding_23 : decode cL_setRounding 23 = .ok (.iconst 2, 1) := by decide +kernel
theorem dL_setRounding_24 : decode cL_setRounding 24 = .ok (.ireturn, 1) := by decide +kernel
theorem dL_setRounding_25 : decode cL_setRounding 25 = .ok (.iconst 0, 1) := by decide +kernel
theorem dL_setRounding_26 : decode cL_setRounding 26 = .ok (.ireturn, 1) := by decide +kernel
theorem dL_setRate_0 : decode cL_setRate 0 = .ok (.aload_n 3, 1) := by decide +kernel
theorem dL_setRate_1 : decode cL_setRate 1 = .ok (.iconst 0, 1) := by decide +kernel
theorem dL_setRate_2 : decode cL_setRate 2 = .ok (.aload_n 0, 1) := by decide +kernel
theorem dL_setRate_3 : decode cL_setRate 3 = .ok (.iload_n 1, 1) := by decide +kernel
theorem dL_setRate_4 : decode cL_setRate 4 = .ok (.iload_n 2, 1) := by decide +kernel
theorem dL_setRate_5 : decode cL_setRate 5 = .ok (.invokevirtual 31, 3) := by decide +kernel
theorem dL_setRate_8 : decode cL_setRate 8 = .ok (.i2l, 1) := by decide +kernel
theorem dL_setRate_9 : decode cL_setRate 9 = .ok (.lastore, 1) := by decide +kernel
theorem dL_setRate_10 : decode cL_setRate 10 = .ok (.goto 11, 3) := by decide +kernel
theorem dL_setRate_13 : decode cL_setRate 13 = .ok (.astore 4, 2) := by decide +kernel
theorem dL_setRate_15 : decode cL_setRate 15 = .ok (.iconst 1, 1) := by decide +kernel
theorem dL_setRate_16 : decode cL_setRate 16 = .ok (.ireturn, 1) := by decide +kernel
theorem dL_setRate_17 : decode cL_setRate 17 = .ok (.astore 4, 2) := by decide +kernel
theorem dL_setRate_19 : decode cL_setRate 19 = .ok (.iconst 2, 1) := by decide +kernel
theorem dL_setRate_20 : decode cL_setRate 20 = .ok (.ireturn, 1) := by decide +kernel
theorem dL_setRate_21 : decode cL_setRate 21 = .ok (.iconst 0, 1) := by decide +kernel
theorem dL_setRate_22 : decode cL_setRate 22 = .ok (.ireturn, 1) := by decide +kernel
theorem dL_setBudget_0 : decode cL_setBudget 0 = .ok (.aload_n 3, 1) := by decide +kernel
theorem dL_setBudget_1 : decode cL_setBudget 1 = .ok (.iconst 0, 1) := by decide +kernel
theorem dL_setBudget_2 : decode cL_setBudget 2 = .ok (.aload_n 0, 1) := by decide +kernel
theorem dL_setBudget_3 : decode cL_setBudget 3 = .ok (.iload_n 1, 1) := by decide +kernel
theorem dL_setBudget_4 : decode cL_setBudget 4 = .ok (.iload_n 2, 1) := by decide +kernel
theorem dL_setBudget_5 : decode cL_setBudget 5 = .ok (.invokevirtual 35, 3) := by decide +kernel
theorem dL_setBudget_8 : decode cL_setBudget 8 = .ok (.i2l, 1) := by decide +kernel
theorem dL_setBudget_9 : decode cL_setBudget 9 = .ok (.lastore, 1) := by decide +kernel
theorem dL_setBudget_10 : decode cL_setBudget 10 = .ok (.goto 11, 3) := by decide +kernel
theorem dL_setBudget_13 : decode cL_setBudget 13 = .ok (.astore 4, 2) := by decide +kernel
theorem dL_setBudget_15 : decode cL_setBudget 15 = .ok (.iconst 1, 1) := by decide +kernel
theorem dL_setBudget_16 : decode cL_setBudget 16 = .ok (.ireturn, 1) := by decide +kernel
theorem dL_setBudget_17 : decode cL_setBudget 17 = .ok (.astore 4, 2) := by decide +kernel
theorem dL_setBudget_19 : decode cL_setBudget 19 = .ok (.iconst 2, 1) := by decide +kernel
theorem dL_setBudget_20 : decode cL_setBudget 20 = .ok (.ireturn, 1) := by decide +kernel
theorem dL_setBudget_21 : decode cL_setBudget 21 = .ok (.iconst 0, 1) := by decide +kernel
theorem dL_setBudget_22 : decode cL_setBudget 22 = .ok (.ireturn, 1) := by decide +kernel
theorem dL_start_0 : decode cL_start 0 = .ok (.aload_n 2, 1) := by decide +kernel
theorem dL_start_1 : decode cL_start 1 = .ok (.iconst 0, 1) := by decide +kernel
theorem dL_start_2 : decode cL_start 2 = .ok (.aload_n 0, 1) := by decide +kernel
theorem dL_start_3 : decode cL_start 3 = .ok (.iload_n 1, 1) := by decide +kernel
theorem dL_start_4 : decode cL_start 4 = .ok (.invokevirtual 38, 3) := by decide +kernel
theorem dL_start_7 : decode cL_start 7 = .ok (.i2l, 1) := by decide +kernel
theorem dL_start_8 : decode cL_start 8 = .ok (.lastore, 1) := by decide +kernel
theorem dL_start_9 : decode cL_start 9 = .ok (.goto 9, 3) := by decide +kernel
theorem dL_start_12 : decode cL_start 12 = .ok (.astore_n 3, 1) := by decide +kernel
theorem dL_start_13 : decode cL_start 13 = .ok (.iconst 1, 1) := by decide +kernel
theorem dL_start_14 : decode cL_start 14 = .ok (.ireturn, 1) := by decide +kernel
theorem dL_start_15 : decode cL_start 15 = .ok (.astore_n 3, 1) := by decide +kernel
theorem dL_start_16 : decode cL_start 16 = .ok (.iconst 2, 1) := by decide +kernel
theorem dL_start_17 : decode cL_start 17 = .ok (.ireturn, 1) := by decide +kernel
theorem dL_start_18 : decode cL_start 18 = .ok (.iconst 0, 1) := by decide +kernel
theorem dL_start_19 : decode cL_start 19 = .ok (.ireturn, 1) := by decide +kernel
theorem dL_stop_0 : decode cL_stop 0 = .ok (.aload_n 2, 1) := by decide +kernel
theorem dL_stop_1 : decode cL_stop 1 = .ok (.iconst 0, 1) := by decide +kernel
theorem dL_stop_2 : decode cL_stop 2 = .ok (.aload_n 0, 1) := by decide +kernel
theorem dL_stop_3 : decode cL_stop 3 = .ok (.iload_n 1, 1) := by decide +kernel
theorem dL_stop_4 : decode cL_stop 4 = .ok (.invokevirtual 41, 3) := by decide +kernel
theorem dL_stop_7 : decode cL_stop 7 = .ok (.i2l, 1) := by decide +kernel
theorem dL_stop_8 : decode cL_stop 8 = .ok (.lastore, 1) := by decide +kernel
theorem dL_stop_9 : decode cL_stop 9 = .ok (.goto 9, 3) := by decide +kernel
theorem dL_stop_12 : decode cL_stop 12 = .ok (.astore_n 3, 1) := by decide +kernel
theorem dL_stop_13 : decode cL_stop 13 = .ok (.iconst 1, 1) := by decide +kernel
theorem dL_stop_14 : decode cL_stop 14 = .ok (.ireturn, 1) := by decide +kernel
theorem dL_stop_15 : decode cL_stop 15 = .ok (.astore_n 3, 1) := by decide +kernel
theorem dL_stop_16 : decode cL_stop 16 = .ok (.iconst 2, 1) := by decide +kernel
theorem dL_stop_17 : decode cL_stop 17 = .ok (.ireturn, 1) := by decide +kernel
theorem dL_stop_18 : decode cL_stop 18 = .ok (.iconst 0, 1) := by decide +kernel
theorem dL_stop_19 : decode cL_stop 19 = .ok (.ireturn, 1) := by decide +kernel
theorem dL_addEntry_0 : decode cL_addEntry 0 = .ok (.aload 4, 2) := by decide +kernel
theorem dL_addEntry_2 : decode cL_addEntry 2 = .ok (.iconst 0, 1) := by decide +kernel
theorem dL_addEntry_3 : decode cL_addEntry 3 = .ok (.aload_n 0, 1) := by decide +kernel
theorem dL_addEntry_4 : decode cL_addEntry 4 = .ok (.iload_n 1, 1) := by decide +kernel
theorem dL_addEntry_5 : decode cL_addEntry 5 = .ok (.iload_n 2, 1) := by decide +kernel
theorem dL_addEntry_6 : decode cL_addEntry 6 = .ok (.iload_n 3, 1) := by decide +kernel
theorem dL_addEntry_7 : decode cL_addEntry 7 = .ok (.invokevirtual 44, 3) := by decide +kernel
theorem dL_addEntry_10 : decode cL_addEntry 10 = .ok (.i2l, 1) := by decide +kernel
theorem dL_addEntry_11 : decode cL_addEntry 11 = .ok (.lastore, 1) := by decide +kernel
theorem dL_addEntry_12 : decode cL_addEntry 12 = .ok (.goto 15, 3) := by decide +kernel
theorem dL_addEntry_15 : decode cL_addEntry 15 = .ok (.astore 5, 2) := by decide +kernel
theorem dL_addEntry_17 : decode cL_addEntry 17 = .ok (.iconst 1, 1) := by decide +kernel
theorem dL_addEntry_18 : decode cL_addEntry 18 = .ok (.ireturn, 1) := by decide +kernel
theorem dL_addEntry_19 : decode cL_addEntry 19 = .ok (.astore 5, 2) := by decide +kernel
theorem dL_addEntry_21 : decode cL_addEntry 21 = .ok (.iconst 2, 1) := by decide +kernel
theorem dL_addEntry_22 : decode cL_addEntry 22 = .ok (.ireturn, 1) := by decide +kernel
theorem dL_addEntry_23 : decode cL_addEntry 23 = .ok (.astore 5, 2) := by decide +kernel
theorem dL_addEntry_25 : decode cL_addEntry 25 = .ok (.iconst 3, 1) := by decide +kernel
theorem dL_addEntry_26 : decode cL_addEntry 26 = .ok (.ireturn, 1) := by decide +kernel
theorem dL_addEntry_27 : decode cL_addEntry 27 = .ok (.iconst 0, 1) := by decide +kernel
theorem dL_addEntry_28 : decode cL_addEntry 28 = .ok (.ireturn, 1) := by decide +kernel
theorem dL_setStart_0 : decode cL_setStart 0 = .ok (.aload_n 3, 1) := by decide +kernel
theorem dL_setStart_1 : decode cL_setStart 1 = .ok (.iconst 0, 1) := by decide +kernel
theorem dL_setStart_2 : decode cL_setStart 2 = .ok (.aload_n 0, 1) := by decide +kernel
theorem dL_setStart_3 : decode cL_setStart 3 = .ok (.iload_n 1, 1) := by decide +kernel
theorem dL_setStart_4 : decode cL_setStart 4 = .ok (.iload_n 2, 1) := by decide +kernel
theorem dL_setStart_5 : decode cL_setStart 5 = .ok (.invokevirtual 48, 3) := by decide +kernel
theorem dL_setStart_8 : decode cL_setStart 8 = .ok (.i2l, 1) := by decide +kernel
theorem dL_setStart_9 : decode cL_setStart 9 = .ok (.lastore, 1) := by decide +kernel
theorem dL_setStart_10 : decode cL_setStart 10 = .ok (.goto 15, 3) := by decide +kernel
theorem dL_setStart_13 : decode cL_setStart 13 = .ok (.astore 4, 2) := by decide +kernel
theorem dL_setStart_15 : decode cL_setStart 15 = .ok (.iconst 1, 1) := by decide +kernel
theorem dL_setStart_16 : decode cL_setStart 16 = .ok (.ireturn, 1) := by decide +kernel
theorem dL_setStart_17 : decode cL_setStart 17 = .ok (.astore 4, 2) := by decide +kernel
theorem dL_setStart_19 : decode cL_setStart 19 = .ok (.iconst 2, 1) := by decide +kernel
theorem dL_setStart_20 : decode cL_setStart 20 = .ok (.ireturn, 1) := by decide +kernel
theorem dL_setStart_21 : decode cL_setStart 21 = .ok (.astore 4, 2) := by decide +kernel
theorem dL_setStart_23 : decode cL_setStart 23 = .ok (.iconst 3, 1) := by decide +kernel
theorem dL_setStart_24 : decode cL_setStart 24 = .ok (.ireturn, 1) := by decide +kernel
theorem dL_setStart_25 : decode cL_setStart 25 = .ok (.iconst 0, 1) := by decide +kernel
theorem dL_setStart_26 : decode cL_setStart 26 = .ok (.ireturn, 1) := by decide +kernel
theorem dL_setEnd_0 : decode cL_setEnd 0 = .ok (.aload_n 3, 1) := by decide +kernel
theorem dL_setEnd_1 : decode cL_setEnd 1 = .ok (.iconst 0, 1) := by decide +kernel
theorem dL_setEnd_2 : decode cL_setEnd 2 = .ok (.aload_n 0, 1) := by decide +kernel
theorem dL_setEnd_3 : decode cL_setEnd 3 = .ok (.iload_n 1, 1) := by decide +kernel
theorem dL_setEnd_4 : decode cL_setEnd 4 = .ok (.iload_n 2, 1) := by decide +kernel
theorem dL_setEnd_5 : decode cL_setEnd 5 = .ok (.invokevirtual 51, 3) := by decide +kernel
theorem dL_setEnd_8 : decode cL_setEnd 8 = .ok (.i2l, 1) := by decide +kernel
theorem dL_setEnd_9 : decode cL_setEnd 9 = .ok (.lastore, 1) := by decide +kernel
theorem dL_setEnd_10 : decode cL_setEnd 10 = .ok (.goto 15, 3) := by decide +kernel
theorem dL_setEnd_13 : decode cL_setEnd 13 = .ok (.astore 4, 2) := by decide +kernel
theorem dL_setEnd_15 : decode cL_setEnd 15 = .ok (.iconst 1, 1) := by decide +kernel
theorem dL_setEnd_16 : decode cL_setEnd 16 = .ok (.ireturn, 1) := by decide +kernel
theorem dL_setEnd_17 : decode cL_setEnd 17 = .ok (.astore 4, 2) := by decide +kernel
theorem dL_setEnd_19 : decode cL_setEnd 19 = .ok (.iconst 2, 1) := by decide +kernel
theorem dL_setEnd_20 : decode cL_setEnd 20 = .ok (.ireturn, 1) := by decide +kernel
theorem dL_setEnd_21 : decode cL_setEnd 21 = .ok (.astore 4, 2) := by decide +kernel
theorem dL_setEnd_23 : decode cL_setEnd 23 = .ok (.iconst 3, 1) := by decide +kernel
theorem dL_setEnd_24 : decode cL_setEnd 24 = .ok (.ireturn, 1) := by decide +kernel
theorem dL_setEnd_25 : decode cL_setEnd 25 = .ok (.iconst 0, 1) := by decide +kernel
theorem dL_setEnd_26 : decode cL_setEnd 26 = .ok (.ireturn, 1) := by decide +kernel
theorem dL_remove_0 : decode cL_remove 0 = .ok (.aload_n 2, 1) := by decide +kernel
theorem dL_remove_1 : decode cL_remove 1 = .ok (.iconst 0, 1) := by decide +kernel
theorem dL_remove_2 : decode cL_remove 2 = .ok (.aload_n 0, 1) := by decide +kernel
theorem dL_remove_3 : decode cL_remove 3 = .ok (.iload_n 1, 1) := by decide +kernel
theorem dL_remove_4 : decode cL_remove 4 = .ok (.invokevirtual 54, 3) := by decide +kernel
theorem dL_remove_7 : decode cL_remove 7 = .ok (.i2l, 1) := by decide +kernel
theorem dL_remove_8 : decode cL_remove 8 = .ok (.lastore, 1) := by decide +kernel
theorem dL_remove_9 : decode cL_remove 9 = .ok (.goto 9, 3) := by decide +kernel
theorem dL_remove_12 : decode cL_remove 12 = .ok (.astore_n 3, 1) := by decide +kernel
theorem dL_remove_13 : decode cL_remove 13 = .ok (.iconst 1, 1) := by decide +kernel
theorem dL_remove_14 : decode cL_remove 14 = .ok (.ireturn, 1) := by decide +kernel
theorem dL_remove_15 : decode cL_remove 15 = .ok (.astore_n 3, 1) := by decide +kernel
theorem dL_remove_16 : decode cL_remove 16 = .ok (.iconst 2, 1) := by decide +kernel
theorem dL_remove_17 : decode cL_remove 17 = .ok (.ireturn, 1) := by decide +kernel
theorem dL_remove_18 : decode cL_remove 18 = .ok (.iconst 0, 1) := by decide +kernel
theorem dL_remove_19 : decode cL_remove 19 = .ok (.ireturn, 1) := by decide +kernel
theorem dL_state_0 : decode cL_state 0 = .ok (.aload_n 2, 1) := by decide +kernel
theorem dL_state_1 : decode cL_state 1 = .ok (.iconst 0, 1) := by decide +kernel
theorem dL_state_2 : decode cL_state 2 = .ok (.aload_n 0, 1) := by decide +kernel
theorem dL_state_3 : decode cL_state 3 = .ok (.iload_n 1, 1) := by decide +kernel
theorem dL_state_4 : decode cL_state 4 = .ok (.invokevirtual 57, 3) := by decide +kernel
theorem dL_state_7 : decode cL_state 7 = .ok (.i2l, 1) := by decide +kernel
theorem dL_state_8 : decode cL_state 8 = .ok (.lastore, 1) := by decide +kernel
theorem dL_state_9 : decode cL_state 9 = .ok (.goto 6, 3) := by decide +kernel
theorem dL_state_12 : decode cL_state 12 = .ok (.astore_n 3, 1) := by decide +kernel
theorem dL_state_13 : decode cL_state 13 = .ok (.iconst 1, 1) := by decide +kernel
theorem dL_state_14 : decode cL_state 14 = .ok (.ireturn, 1) := by decide +kernel
theorem dL_state_15 : decode cL_state 15 = .ok (.iconst 0, 1) := by decide +kernel
theorem dL_state_16 : decode cL_state 16 = .ok (.ireturn, 1) := by decide +kernel
theorem dL_startOf_0 : decode cL_startOf 0 = .ok (.aload_n 2, 1) := by decide +kernel
theorem dL_startOf_1 : decode cL_startOf 1 = .ok (.iconst 0, 1) := by decide +kernel
theorem dL_startOf_2 : decode cL_startOf 2 = .ok (.aload_n 0, 1) := by decide +kernel
theorem dL_startOf_3 : decode cL_startOf 3 = .ok (.iload_n 1, 1) := by decide +kernel
theorem dL_startOf_4 : decode cL_startOf 4 = .ok (.invokevirtual 61, 3) := by decide +kernel
theorem dL_startOf_7 : decode cL_startOf 7 = .ok (.i2l, 1) := by decide +kernel
theorem dL_startOf_8 : decode cL_startOf 8 = .ok (.lastore, 1) := by decide +kernel
theorem dL_startOf_9 : decode cL_startOf 9 = .ok (.goto 6, 3) := by decide +kernel
theorem dL_startOf_12 : decode cL_startOf 12 = .ok (.astore_n 3, 1) := by decide +kernel
theorem dL_startOf_13 : decode cL_startOf 13 = .ok (.iconst 1, 1) := by decide +kernel
theorem dL_startOf_14 : decode cL_startOf 14 = .ok (.ireturn, 1) := by decide +kernel
theorem dL_startOf_15 : decode cL_startOf 15 = .ok (.iconst 0, 1) := by decide +kernel
theorem dL_startOf_16 : decode cL_startOf 16 = .ok (.ireturn, 1) := by decide +kernel
theorem dL_endOf_0 : decode cL_endOf 0 = .ok (.aload_n 2, 1) := by decide +kernel
theorem dL_endOf_1 : decode cL_endOf 1 = .ok (.iconst 0, 1) := by decide +kernel
theorem dL_endOf_2 : decode cL_endOf 2 = .ok (.aload_n 0, 1) := by decide +kernel
theorem dL_endOf_3 : decode cL_endOf 3 = .ok (.iload_n 1, 1) := by decide +kernel
theorem dL_endOf_4 : decode cL_endOf 4 = .ok (.invokevirtual 64, 3) := by decide +kernel
theorem dL_endOf_7 : decode cL_endOf 7 = .ok (.i2l, 1) := by decide +kernel
theorem dL_endOf_8 : decode cL_endOf 8 = .ok (.lastore, 1) := by decide +kernel
theorem dL_endOf_9 : decode cL_endOf 9 = .ok (.goto 6, 3) := by decide +kernel
theorem dL_endOf_12 : decode cL_endOf 12 = .ok (.astore_n 3, 1) := by decide +kernel
theorem dL_endOf_13 : decode cL_endOf 13 = .ok (.iconst 1, 1) := by decide +kernel
theorem dL_endOf_14 : decode cL_endOf 14 = .ok (.ireturn, 1) := by decide +kernel
theorem dL_endOf_15 : decode cL_endOf 15 = .ok (.iconst 0, 1) := by decide +kernel
theorem dL_endOf_16 : decode cL_endOf 16 = .ok (.ireturn, 1) := by decide +kernel
theorem dL_counted_0 : decode cL_counted 0 = .ok (.aload_n 2, 1) := by decide +kernel
theorem dL_counted_1 : decode cL_counted 1 = .ok (.iconst 0, 1) := by decide +kernel
theorem dL_counted_2 : decode cL_counted 2 = .ok (.aload_n 0, 1) := by decide +kernel
theorem dL_counted_3 : decode cL_counted 3 = .ok (.iload_n 1, 1) := by decide +kernel
theorem dL_counted_4 : decode cL_counted 4 = .ok (.invokevirtual 67, 3) := by decide +kernel
theorem dL_counted_7 : decode cL_counted 7 = .ok (.i2l, 1) := by decide +kernel
theorem dL_counted_8 : decode cL_counted 8 = .ok (.lastore, 1) := by decide +kernel
theorem dL_counted_9 : decode cL_counted 9 = .ok (.goto 6, 3) := by decide +kernel
theorem dL_counted_12 : decode cL_counted 12 = .ok (.astore_n 3, 1) := by decide +kernel
theorem dL_counted_13 : decode cL_counted 13 = .ok (.iconst 1, 1) := by decide +kernel
theorem dL_counted_14 : decode cL_counted 14 = .ok (.ireturn, 1) := by decide +kernel
theorem dL_counted_15 : decode cL_counted 15 = .ok (.iconst 0, 1) := by decide +kernel
theorem dL_counted_16 : decode cL_counted 16 = .ok (.ireturn, 1) := by decide +kernel
theorem dL_countedByMinutes_0 : decode cL_countedByMinutes 0 = .ok (.aload_n 2, 1) := by decide +kernel
theorem dL_countedByMinutes_1 : decode cL_countedByMinutes 1 = .ok (.iconst 0, 1) := by decide +kernel
theorem dL_countedByMinutes_2 : decode cL_countedByMinutes 2 = .ok (.aload_n 0, 1) := by decide +kernel
theorem dL_countedByMinutes_3 : decode cL_countedByMinutes 3 = .ok (.iload_n 1, 1) := by decide +kernel
theorem dL_countedByMinutes_4 : decode cL_countedByMinutes 4 = .ok (.invokevirtual 70, 3) := by decide +kernel
theorem dL_countedByMinutes_7 : decode cL_countedByMinutes 7 = .ok (.i2l, 1) := by decide +kernel
theorem dL_countedByMinutes_8 : decode cL_countedByMinutes 8 = .ok (.lastore, 1) := by decide +kernel
theorem dL_countedByMinutes_9 : decode cL_countedByMinutes 9 = .ok (.goto 6, 3) := by decide +kernel
theorem dL_countedByMinutes_12 : decode cL_countedByMinutes 12 = .ok (.astore_n 3, 1) := by decide +kernel
theorem dL_countedByMinutes_13 : decode cL_countedByMinutes 13 = .ok (.iconst 1, 1) := by decide +kernel
theorem dL_countedByMinutes_14 : decode cL_countedByMinutes 14 = .ok (.ireturn, 1) := by decide +kernel
theorem dL_countedByMinutes_15 : decode cL_countedByMinutes 15 = .ok (.iconst 0, 1) := by decide +kernel
theorem dL_countedByMinutes_16 : decode cL_countedByMinutes 16 = .ok (.ireturn, 1) := by decide +kernel
theorem dL_writeEntry_0 : decode cL_writeEntry 0 = .ok (.aload_n 2, 1) := by decide +kernel
theorem dL_writeEntry_1 : decode cL_writeEntry 1 = .ok (.iconst 0, 1) := by decide +kernel
theorem dL_writeEntry_2 : decode cL_writeEntry 2 = .ok (.aload_n 0, 1) := by decide +kernel
theorem dL_writeEntry_3 : decode cL_writeEntry 3 = .ok (.iload_n 1, 1) := by decide +kernel
theorem dL_writeEntry_4 : decode cL_writeEntry 4 = .ok (.invokevirtual 73, 3) := by decide +kernel
theorem dL_writeEntry_7 : decode cL_writeEntry 7 = .ok (.i2l, 1) := by decide +kernel
theorem dL_writeEntry_8 : decode cL_writeEntry 8 = .ok (.lastore, 1) := by decide +kernel
theorem dL_writeEntry_9 : decode cL_writeEntry 9 = .ok (.goto 6, 3) := by decide +kernel
theorem dL_writeEntry_12 : decode cL_writeEntry 12 = .ok (.astore_n 3, 1) := by decide +kernel
theorem dL_writeEntry_13 : decode cL_writeEntry 13 = .ok (.iconst 1, 1) := by decide +kernel
theorem dL_writeEntry_14 : decode cL_writeEntry 14 = .ok (.ireturn, 1) := by decide +kernel
theorem dL_writeEntry_15 : decode cL_writeEntry 15 = .ok (.iconst 0, 1) := by decide +kernel
theorem dL_writeEntry_16 : decode cL_writeEntry 16 = .ok (.ireturn, 1) := by decide +kernel
theorem dL_charAt_0 : decode cL_charAt 0 = .ok (.aload_n 2, 1) := by decide +kernel
theorem dL_charAt_1 : decode cL_charAt 1 = .ok (.iconst 0, 1) := by decide +kernel
theorem dL_charAt_2 : decode cL_charAt 2 = .ok (.aload_n 0, 1) := by decide +kernel
theorem dL_charAt_3 : decode cL_charAt 3 = .ok (.iload_n 1, 1) := by decide +kernel
theorem dL_charAt_4 : decode cL_charAt 4 = .ok (.invokevirtual 76, 3) := by decide +kernel
theorem dL_charAt_7 : decode cL_charAt 7 = .ok (.i2l, 1) := by decide +kernel
theorem dL_charAt_8 : decode cL_charAt 8 = .ok (.lastore, 1) := by decide +kernel
theorem dL_charAt_9 : decode cL_charAt 9 = .ok (.goto 6, 3) := by decide +kernel
theorem dL_charAt_12 : decode cL_charAt 12 = .ok (.astore_n 3, 1) := by decide +kernel
theorem dL_charAt_13 : decode cL_charAt 13 = .ok (.iconst 1, 1) := by decide +kernel
theorem dL_charAt_14 : decode cL_charAt 14 = .ok (.ireturn, 1) := by decide +kernel
theorem dL_charAt_15 : decode cL_charAt 15 = .ok (.iconst 0, 1) := by decide +kernel
theorem dL_charAt_16 : decode cL_charAt 16 = .ok (.ireturn, 1) := by decide +kernel
theorem dL_rounded_0 : decode cL_rounded 0 = .ok (.aload_n 2, 1) := by decide +kernel
theorem dL_rounded_1 : decode cL_rounded 1 = .ok (.iconst 0, 1) := by decide +kernel
theorem dL_rounded_2 : decode cL_rounded 2 = .ok (.aload_n 0, 1) := by decide +kernel
theorem dL_rounded_3 : decode cL_rounded 3 = .ok (.iload_n 1, 1) := by decide +kernel
theorem dL_rounded_4 : decode cL_rounded 4 = .ok (.invokevirtual 79, 3) := by decide +kernel
theorem dL_rounded_7 : decode cL_rounded 7 = .ok (.i2l, 1) := by decide +kernel
theorem dL_rounded_8 : decode cL_rounded 8 = .ok (.lastore, 1) := by decide +kernel
theorem dL_rounded_9 : decode cL_rounded 9 = .ok (.goto 12, 3) := by decide +kernel
theorem dL_rounded_12 : decode cL_rounded 12 = .ok (.astore_n 3, 1) := by decide +kernel
theorem dL_rounded_13 : decode cL_rounded 13 = .ok (.iconst 1, 1) := by decide +kernel
theorem dL_rounded_14 : decode cL_rounded 14 = .ok (.ireturn, 1) := by decide +kernel
theorem dL_rounded_15 : decode cL_rounded 15 = .ok (.astore_n 3, 1) := by decide +kernel
theorem dL_rounded_16 : decode cL_rounded 16 = .ok (.iconst 2, 1) := by decide +kernel
theorem dL_rounded_17 : decode cL_rounded 17 = .ok (.ireturn, 1) := by decide +kernel
theorem dL_rounded_18 : decode cL_rounded 18 = .ok (.astore_n 3, 1) := by decide +kernel
theorem dL_rounded_19 : decode cL_rounded 19 = .ok (.iconst 3, 1) := by decide +kernel
theorem dL_rounded_20 : decode cL_rounded 20 = .ok (.ireturn, 1) := by decide +kernel
theorem dL_rounded_21 : decode cL_rounded 21 = .ok (.iconst 0, 1) := by decide +kernel
theorem dL_rounded_22 : decode cL_rounded 22 = .ok (.ireturn, 1) := by decide +kernel
theorem dL_daySeconds_0 : decode cL_daySeconds 0 = .ok (.aload_n 3, 1) := by decide +kernel
theorem dL_daySeconds_1 : decode cL_daySeconds 1 = .ok (.iconst 0, 1) := by decide +kernel
theorem dL_daySeconds_2 : decode cL_daySeconds 2 = .ok (.aload_n 0, 1) := by decide +kernel
theorem dL_daySeconds_3 : decode cL_daySeconds 3 = .ok (.iload_n 1, 1) := by decide +kernel
theorem dL_daySeconds_4 : decode cL_daySeconds 4 = .ok (.iload_n 2, 1) := by decide +kernel
theorem dL_daySeconds_5 : decode cL_daySeconds 5 = .ok (.invokevirtual 84, 3) := by decide +kernel
theorem dL_daySeconds_8 : decode cL_daySeconds 8 = .ok (.i2l, 1) := by decide +kernel
theorem dL_daySeconds_9 : decode cL_daySeconds 9 = .ok (.lastore, 1) := by decide +kernel
theorem dL_daySeconds_10 : decode cL_daySeconds 10 = .ok (.goto 11, 3) := by decide +kernel
theorem dL_daySeconds_13 : decode cL_daySeconds 13 = .ok (.astore 4, 2) := by decide +kernel
theorem dL_daySeconds_15 : decode cL_daySeconds 15 = .ok (.iconst 1, 1) := by decide +kernel
theorem dL_daySeconds_16 : decode cL_daySeconds 16 = .ok (.ireturn, 1) := by decide +kernel
theorem dL_daySeconds_17 : decode cL_daySeconds 17 = .ok (.astore 4, 2) := by decide +kernel
theorem dL_daySeconds_19 : decode cL_daySeconds 19 = .ok (.iconst 2, 1) := by decide +kernel
theorem dL_daySeconds_20 : decode cL_daySeconds 20 = .ok (.ireturn, 1) := by decide +kernel
theorem dL_daySeconds_21 : decode cL_daySeconds 21 = .ok (.iconst 0, 1) := by decide +kernel
theorem dL_daySeconds_22 : decode cL_daySeconds 22 = .ok (.ireturn, 1) := by decide +kernel
theorem dL_daySecondsByMinutes_0 : decode cL_daySecondsByMinutes 0 = .ok (.aload_n 3, 1) := by decide +kernel
theorem dL_daySecondsByMinutes_1 : decode cL_daySecondsByMinutes 1 = .ok (.iconst 0, 1) := by decide +kernel
theorem dL_daySecondsByMinutes_2 : decode cL_daySecondsByMinutes 2 = .ok (.aload_n 0, 1) := by decide +kernel
theorem dL_daySecondsByMinutes_3 : decode cL_daySecondsByMinutes 3 = .ok (.iload_n 1, 1) := by decide +kernel
theorem dL_daySecondsByMinutes_4 : decode cL_daySecondsByMinutes 4 = .ok (.iload_n 2, 1) := by decide +kernel
theorem dL_daySecondsByMinutes_5 : decode cL_daySecondsByMinutes 5 = .ok (.invokevirtual 87, 3) := by decide +kernel
theorem dL_daySecondsByMinutes_8 : decode cL_daySecondsByMinutes 8 = .ok (.i2l, 1) := by decide +kernel
theorem dL_daySecondsByMinutes_9 : decode cL_daySecondsByMinutes 9 = .ok (.lastore, 1) := by decide +kernel
theorem dL_daySecondsByMinutes_10 : decode cL_daySecondsByMinutes 10 = .ok (.goto 11, 3) := by decide +kernel
theorem dL_daySecondsByMinutes_13 : decode cL_daySecondsByMinutes 13 = .ok (.astore 4, 2) := by decide +kernel
theorem dL_daySecondsByMinutes_15 : decode cL_daySecondsByMinutes 15 = .ok (.iconst 1, 1) := by decide +kernel
theorem dL_daySecondsByMinutes_16 : decode cL_daySecondsByMinutes 16 = .ok (.ireturn, 1) := by decide +kernel
theorem dL_daySecondsByMinutes_17 : decode cL_daySecondsByMinutes 17 = .ok (.astore 4, 2) := by decide +kernel
theorem dL_daySecondsByMinutes_19 : decode cL_daySecondsByMinutes 19 = .ok (.iconst 2, 1) := by decide +kernel
theorem dL_daySecondsByMinutes_20 : decode cL_daySecondsByMinutes 20 = .ok (.ireturn, 1) := by decide +kernel
theorem dL_daySecondsByMinutes_21 : decode cL_daySecondsByMinutes 21 = .ok (.iconst 0, 1) := by decide +kernel
theorem dL_daySecondsByMinutes_22 : decode cL_daySecondsByMinutes 22 = .ok (.ireturn, 1) := by decide +kernel
theorem dL_openMinutes_0 : decode cL_openMinutes 0 = .ok (.aload_n 2, 1) := by decide +kernel
theorem dL_openMinutes_1 : decode cL_openMinutes 1 = .ok (.iconst 0, 1) := by decide +kernel
theorem dL_openMinutes_2 : decode cL_openMinutes 2 = .ok (.aload_n 0, 1) := by decide +kernel
theorem dL_openMinutes_3 : decode cL_openMinutes 3 = .ok (.iload_n 1, 1) := by decide +kernel
theorem dL_openMinutes_4 : decode cL_openMinutes 4 = .ok (.invokevirtual 90, 3) := by decide +kernel
theorem dL_openMinutes_7 : decode cL_openMinutes 7 = .ok (.i2l, 1) := by decide +kernel
theorem dL_openMinutes_8 : decode cL_openMinutes 8 = .ok (.lastore, 1) := by decide +kernel
theorem dL_openMinutes_9 : decode cL_openMinutes 9 = .ok (.goto 6, 3) := by decide +kernel
theorem dL_openMinutes_12 : decode cL_openMinutes 12 = .ok (.astore_n 3, 1) := by decide +kernel
theorem dL_openMinutes_13 : decode cL_openMinutes 13 = .ok (.iconst 1, 1) := by decide +kernel
theorem dL_openMinutes_14 : decode cL_openMinutes 14 = .ok (.ireturn, 1) := by decide +kernel
theorem dL_openMinutes_15 : decode cL_openMinutes 15 = .ok (.iconst 0, 1) := by decide +kernel
theorem dL_openMinutes_16 : decode cL_openMinutes 16 = .ok (.ireturn, 1) := by decide +kernel
theorem dL_openMinutesByLines_0 : decode cL_openMinutesByLines 0 = .ok (.aload_n 2, 1) := by decide +kernel
theorem dL_openMinutesByLines_1 : decode cL_openMinutesByLines 1 = .ok (.iconst 0, 1) := by decide +kernel
theorem dL_openMinutesByLines_2 : decode cL_openMinutesByLines 2 = .ok (.aload_n 0, 1) := by decide +kernel
theorem dL_openMinutesByLines_3 : decode cL_openMinutesByLines 3 = .ok (.iload_n 1, 1) := by decide +kernel
theorem dL_openMinutesByLines_4 : decode cL_openMinutesByLines 4 = .ok (.invokevirtual 93, 3) := by decide +kernel
theorem dL_openMinutesByLines_7 : decode cL_openMinutesByLines 7 = .ok (.i2l, 1) := by decide +kernel
theorem dL_openMinutesByLines_8 : decode cL_openMinutesByLines 8 = .ok (.lastore, 1) := by decide +kernel
theorem dL_openMinutesByLines_9 : decode cL_openMinutesByLines 9 = .ok (.goto 6, 3) := by decide +kernel
theorem dL_openMinutesByLines_12 : decode cL_openMinutesByLines 12 = .ok (.astore_n 3, 1) := by decide +kernel
theorem dL_openMinutesByLines_13 : decode cL_openMinutesByLines 13 = .ok (.iconst 1, 1) := by decide +kernel
theorem dL_openMinutesByLines_14 : decode cL_openMinutesByLines 14 = .ok (.ireturn, 1) := by decide +kernel
theorem dL_openMinutesByLines_15 : decode cL_openMinutesByLines 15 = .ok (.iconst 0, 1) := by decide +kernel
theorem dL_openMinutesByLines_16 : decode cL_openMinutesByLines 16 = .ok (.ireturn, 1) := by decide +kernel
theorem dL_invoice_0 : decode cL_invoice 0 = .ok (.aload_n 2, 1) := by decide +kernel
theorem dL_invoice_1 : decode cL_invoice 1 = .ok (.iconst 0, 1) := by decide +kernel
theorem dL_invoice_2 : decode cL_invoice 2 = .ok (.aload_n 0, 1) := by decide +kernel
theorem dL_invoice_3 : decode cL_invoice 3 = .ok (.iload_n 1, 1) := by decide +kernel
theorem dL_invoice_4 : decode cL_invoice 4 = .ok (.invokevirtual 96, 3) := by decide +kernel
theorem dL_invoice_7 : decode cL_invoice 7 = .ok (.i2l, 1) := by decide +kernel
theorem dL_invoice_8 : decode cL_invoice 8 = .ok (.lastore, 1) := by decide +kernel
theorem dL_invoice_9 : decode cL_invoice 9 = .ok (.goto 9, 3) := by decide +kernel
theorem dL_invoice_12 : decode cL_invoice 12 = .ok (.astore_n 3, 1) := by decide +kernel
theorem dL_invoice_13 : decode cL_invoice 13 = .ok (.iconst 1, 1) := by decide +kernel
theorem dL_invoice_14 : decode cL_invoice 14 = .ok (.ireturn, 1) := by decide +kernel
theorem dL_invoice_15 : decode cL_invoice 15 = .ok (.astore_n 3, 1) := by decide +kernel
theorem dL_invoice_16 : decode cL_invoice 16 = .ok (.iconst 2, 1) := by decide +kernel
theorem dL_invoice_17 : decode cL_invoice 17 = .ok (.ireturn, 1) := by decide +kernel
theorem dL_invoice_18 : decode cL_invoice 18 = .ok (.iconst 0, 1) := by decide +kernel
theorem dL_invoice_19 : decode cL_invoice 19 = .ok (.ireturn, 1) := by decide +kernel
theorem dL_lines_0 : decode cL_lines 0 = .ok (.aload_n 2, 1) := by decide +kernel
theorem dL_lines_1 : decode cL_lines 1 = .ok (.iconst 0, 1) := by decide +kernel
theorem dL_lines_2 : decode cL_lines 2 = .ok (.aload_n 0, 1) := by decide +kernel
theorem dL_lines_3 : decode cL_lines 3 = .ok (.iload_n 1, 1) := by decide +kernel
theorem dL_lines_4 : decode cL_lines 4 = .ok (.invokevirtual 99, 3) := by decide +kernel
theorem dL_lines_7 : decode cL_lines 7 = .ok (.i2l, 1) := by decide +kernel
theorem dL_lines_8 : decode cL_lines 8 = .ok (.lastore, 1) := by decide +kernel
theorem dL_lines_9 : decode cL_lines 9 = .ok (.goto 6, 3) := by decide +kernel
theorem dL_lines_12 : decode cL_lines 12 = .ok (.astore_n 3, 1) := by decide +kernel
theorem dL_lines_13 : decode cL_lines 13 = .ok (.iconst 1, 1) := by decide +kernel
theorem dL_lines_14 : decode cL_lines 14 = .ok (.ireturn, 1) := by decide +kernel
theorem dL_lines_15 : decode cL_lines 15 = .ok (.iconst 0, 1) := by decide +kernel
theorem dL_lines_16 : decode cL_lines 16 = .ok (.ireturn, 1) := by decide +kernel
theorem dL_lineKind_0 : decode cL_lineKind 0 = .ok (.aload_n 3, 1) := by decide +kernel
theorem dL_lineKind_1 : decode cL_lineKind 1 = .ok (.iconst 0, 1) := by decide +kernel
theorem dL_lineKind_2 : decode cL_lineKind 2 = .ok (.aload_n 0, 1) := by decide +kernel
theorem dL_lineKind_3 : decode cL_lineKind 3 = .ok (.iload_n 1, 1) := by decide +kernel
theorem dL_lineKind_4 : decode cL_lineKind 4 = .ok (.iload_n 2, 1) := by decide +kernel
theorem dL_lineKind_5 : decode cL_lineKind 5 = .ok (.invokevirtual 102, 3) := by decide +kernel
theorem dL_lineKind_8 : decode cL_lineKind 8 = .ok (.i2l, 1) := by decide +kernel
theorem dL_lineKind_9 : decode cL_lineKind 9 = .ok (.lastore, 1) := by decide +kernel
theorem dL_lineKind_10 : decode cL_lineKind 10 = .ok (.goto 7, 3) := by decide +kernel
theorem dL_lineKind_13 : decode cL_lineKind 13 = .ok (.astore 4, 2) := by decide +kernel
theorem dL_lineKind_15 : decode cL_lineKind 15 = .ok (.iconst 1, 1) := by decide +kernel
theorem dL_lineKind_16 : decode cL_lineKind 16 = .ok (.ireturn, 1) := by decide +kernel
theorem dL_lineKind_17 : decode cL_lineKind 17 = .ok (.iconst 0, 1) := by decide +kernel
theorem dL_lineKind_18 : decode cL_lineKind 18 = .ok (.ireturn, 1) := by decide +kernel
theorem dL_lineMinutes_0 : decode cL_lineMinutes 0 = .ok (.aload_n 3, 1) := by decide +kernel
theorem dL_lineMinutes_1 : decode cL_lineMinutes 1 = .ok (.iconst 0, 1) := by decide +kernel
theorem dL_lineMinutes_2 : decode cL_lineMinutes 2 = .ok (.aload_n 0, 1) := by decide +kernel
theorem dL_lineMinutes_3 : decode cL_lineMinutes 3 = .ok (.iload_n 1, 1) := by decide +kernel
theorem dL_lineMinutes_4 : decode cL_lineMinutes 4 = .ok (.iload_n 2, 1) := by decide +kernel
theorem dL_lineMinutes_5 : decode cL_lineMinutes 5 = .ok (.invokevirtual 106, 3) := by decide +kernel
theorem dL_lineMinutes_8 : decode cL_lineMinutes 8 = .ok (.i2l, 1) := by decide +kernel
theorem dL_lineMinutes_9 : decode cL_lineMinutes 9 = .ok (.lastore, 1) := by decide +kernel
theorem dL_lineMinutes_10 : decode cL_lineMinutes 10 = .ok (.goto 7, 3) := by decide +kernel
theorem dL_lineMinutes_13 : decode cL_lineMinutes 13 = .ok (.astore 4, 2) := by decide +kernel
theorem dL_lineMinutes_15 : decode cL_lineMinutes 15 = .ok (.iconst 1, 1) := by decide +kernel
theorem dL_lineMinutes_16 : decode cL_lineMinutes 16 = .ok (.ireturn, 1) := by decide +kernel
theorem dL_lineMinutes_17 : decode cL_lineMinutes 17 = .ok (.iconst 0, 1) := by decide +kernel
theorem dL_lineMinutes_18 : decode cL_lineMinutes 18 = .ok (.ireturn, 1) := by decide +kernel
theorem dL_lineSubject_0 : decode cL_lineSubject 0 = .ok (.aload_n 3, 1) := by decide +kernel
theorem dL_lineSubject_1 : decode cL_lineSubject 1 = .ok (.iconst 0, 1) := by decide +kernel
theorem dL_lineSubject_2 : decode cL_lineSubject 2 = .ok (.aload_n 0, 1) := by decide +kernel
theorem dL_lineSubject_3 : decode cL_lineSubject 3 = .ok (.iload_n 1, 1) := by decide +kernel
theorem dL_lineSubject_4 : decode cL_lineSubject 4 = .ok (.iload_n 2, 1) := by decide +kernel
theorem dL_lineSubject_5 : decode cL_lineSubject 5 = .ok (.invokevirtual 109, 3) := by decide +kernel
theorem dL_lineSubject_8 : decode cL_lineSubject 8 = .ok (.i2l, 1) := by decide +kernel
theorem dL_lineSubject_9 : decode cL_lineSubject 9 = .ok (.lastore, 1) := by decide +kernel
theorem dL_lineSubject_10 : decode cL_lineSubject 10 = .ok (.goto 7, 3) := by decide +kernel
theorem dL_lineSubject_13 : decode cL_lineSubject 13 = .ok (.astore 4, 2) := by decide +kernel
theorem dL_lineSubject_15 : decode cL_lineSubject 15 = .ok (.iconst 1, 1) := by decide +kernel
theorem dL_lineSubject_16 : decode cL_lineSubject 16 = .ok (.ireturn, 1) := by decide +kernel
theorem dL_lineSubject_17 : decode cL_lineSubject 17 = .ok (.iconst 0, 1) := by decide +kernel
theorem dL_lineSubject_18 : decode cL_lineSubject 18 = .ok (.ireturn, 1) := by decide +kernel
theorem dL_lineAmount_0 : decode cL_lineAmount 0 = .ok (.aload_n 3, 1) := by decide +kernel
theorem dL_lineAmount_1 : decode cL_lineAmount 1 = .ok (.iconst 0, 1) := by decide +kernel
theorem dL_lineAmount_2 : decode cL_lineAmount 2 = .ok (.aload_n 0, 1) := by decide +kernel
theorem dL_lineAmount_3 : decode cL_lineAmount 3 = .ok (.iload_n 1, 1) := by decide +kernel
theorem dL_lineAmount_4 : decode cL_lineAmount 4 = .ok (.iload_n 2, 1) := by decide +kernel
theorem dL_lineAmount_5 : decode cL_lineAmount 5 = .ok (.invokevirtual 112, 3) := by decide +kernel
theorem dL_lineAmount_8 : decode cL_lineAmount 8 = .ok (.f2d, 1) := by decide +kernel
theorem dL_lineAmount_9 : decode cL_lineAmount 9 = .ok (.dastore, 1) := by decide +kernel
theorem dL_lineAmount_10 : decode cL_lineAmount 10 = .ok (.goto 7, 3) := by decide +kernel
theorem dL_lineAmount_13 : decode cL_lineAmount 13 = .ok (.astore 4, 2) := by decide +kernel
theorem dL_lineAmount_15 : decode cL_lineAmount 15 = .ok (.iconst 1, 1) := by decide +kernel
theorem dL_lineAmount_16 : decode cL_lineAmount 16 = .ok (.ireturn, 1) := by decide +kernel
theorem dL_lineAmount_17 : decode cL_lineAmount 17 = .ok (.iconst 0, 1) := by decide +kernel
theorem dL_lineAmount_18 : decode cL_lineAmount 18 = .ok (.ireturn, 1) := by decide +kernel
theorem dL_total_0 : decode cL_total 0 = .ok (.aload_n 2, 1) := by decide +kernel
theorem dL_total_1 : decode cL_total 1 = .ok (.iconst 0, 1) := by decide +kernel
theorem dL_total_2 : decode cL_total 2 = .ok (.aload_n 0, 1) := by decide +kernel
theorem dL_total_3 : decode cL_total 3 = .ok (.iload_n 1, 1) := by decide +kernel
theorem dL_total_4 : decode cL_total 4 = .ok (.invokevirtual 116, 3) := by decide +kernel
theorem dL_total_7 : decode cL_total 7 = .ok (.f2d, 1) := by decide +kernel
theorem dL_total_8 : decode cL_total 8 = .ok (.dastore, 1) := by decide +kernel
theorem dL_total_9 : decode cL_total 9 = .ok (.goto 6, 3) := by decide +kernel
theorem dL_total_12 : decode cL_total 12 = .ok (.astore_n 3, 1) := by decide +kernel
theorem dL_total_13 : decode cL_total 13 = .ok (.iconst 1, 1) := by decide +kernel
theorem dL_total_14 : decode cL_total 14 = .ok (.ireturn, 1) := by decide +kernel
theorem dL_total_15 : decode cL_total 15 = .ok (.iconst 0, 1) := by decide +kernel
theorem dL_total_16 : decode cL_total 16 = .ok (.ireturn, 1) := by decide +kernel
theorem dL_totalBits_0 : decode cL_totalBits 0 = .ok (.aload_n 2, 1) := by decide +kernel
theorem dL_totalBits_1 : decode cL_totalBits 1 = .ok (.iconst 0, 1) := by decide +kernel
theorem dL_totalBits_2 : decode cL_totalBits 2 = .ok (.aload_n 0, 1) := by decide +kernel
theorem dL_totalBits_3 : decode cL_totalBits 3 = .ok (.iload_n 1, 1) := by decide +kernel
theorem dL_totalBits_4 : decode cL_totalBits 4 = .ok (.invokevirtual 120, 3) := by decide +kernel
theorem dL_totalBits_7 : decode cL_totalBits 7 = .ok (.i2l, 1) := by decide +kernel
theorem dL_totalBits_8 : decode cL_totalBits 8 = .ok (.lastore, 1) := by decide +kernel
theorem dL_totalBits_9 : decode cL_totalBits 9 = .ok (.goto 6, 3) := by decide +kernel
theorem dL_totalBits_12 : decode cL_totalBits 12 = .ok (.astore_n 3, 1) := by decide +kernel
theorem dL_totalBits_13 : decode cL_totalBits 13 = .ok (.iconst 1, 1) := by decide +kernel
theorem dL_totalBits_14 : decode cL_totalBits 14 = .ok (.ireturn, 1) := by decide +kernel
theorem dL_totalBits_15 : decode cL_totalBits 15 = .ok (.iconst 0, 1) := by decide +kernel
theorem dL_totalBits_16 : decode cL_totalBits 16 = .ok (.ireturn, 1) := by decide +kernel
theorem dL_totalCents_0 : decode cL_totalCents 0 = .ok (.aload_n 2, 1) := by decide +kernel
theorem dL_totalCents_1 : decode cL_totalCents 1 = .ok (.iconst 0, 1) := by decide +kernel
theorem dL_totalCents_2 : decode cL_totalCents 2 = .ok (.aload_n 0, 1) := by decide +kernel
theorem dL_totalCents_3 : decode cL_totalCents 3 = .ok (.iload_n 1, 1) := by decide +kernel
theorem dL_totalCents_4 : decode cL_totalCents 4 = .ok (.invokevirtual 123, 3) := by decide +kernel
theorem dL_totalCents_7 : decode cL_totalCents 7 = .ok (.i2l, 1) := by decide +kernel
theorem dL_totalCents_8 : decode cL_totalCents 8 = .ok (.lastore, 1) := by decide +kernel
theorem dL_totalCents_9 : decode cL_totalCents 9 = .ok (.goto 6, 3) := by decide +kernel
theorem dL_totalCents_12 : decode cL_totalCents 12 = .ok (.astore_n 3, 1) := by decide +kernel
theorem dL_totalCents_13 : decode cL_totalCents 13 = .ok (.iconst 1, 1) := by decide +kernel
theorem dL_totalCents_14 : decode cL_totalCents 14 = .ok (.ireturn, 1) := by decide +kernel
theorem dL_totalCents_15 : decode cL_totalCents 15 = .ok (.iconst 0, 1) := by decide +kernel
theorem dL_totalCents_16 : decode cL_totalCents 16 = .ok (.ireturn, 1) := by decide +kernel
theorem dL_correct_0 : decode cL_correct 0 = .ok (.aload_n 3, 1) := by decide +kernel
theorem dL_correct_1 : decode cL_correct 1 = .ok (.iconst 0, 1) := by decide +kernel
theorem dL_correct_2 : decode cL_correct 2 = .ok (.aload_n 0, 1) := by decide +kernel
theorem dL_correct_3 : decode cL_correct 3 = .ok (.iload_n 1, 1) := by decide +kernel
theorem dL_correct_4 : decode cL_correct 4 = .ok (.iload_n 2, 1) := by decide +kernel
theorem dL_correct_5 : decode cL_correct 5 = .ok (.invokevirtual 126, 3) := by decide +kernel
theorem dL_correct_8 : decode cL_correct 8 = .ok (.i2l, 1) := by decide +kernel
theorem dL_correct_9 : decode cL_correct 9 = .ok (.lastore, 1) := by decide +kernel
theorem dL_correct_10 : decode cL_correct 10 = .ok (.goto 15, 3) := by decide +kernel
theorem dL_correct_13 : decode cL_correct 13 = .ok (.astore 4, 2) := by decide +kernel
theorem dL_correct_15 : decode cL_correct 15 = .ok (.iconst 1, 1) := by decide +kernel
theorem dL_correct_16 : decode cL_correct 16 = .ok (.ireturn, 1) := by decide +kernel
theorem dL_correct_17 : decode cL_correct 17 = .ok (.astore 4, 2) := by decide +kernel
theorem dL_correct_19 : decode cL_correct 19 = .ok (.iconst 2, 1) := by decide +kernel
theorem dL_correct_20 : decode cL_correct 20 = .ok (.ireturn, 1) := by decide +kernel
theorem dL_correct_21 : decode cL_correct 21 = .ok (.astore 4, 2) := by decide +kernel
theorem dL_correct_23 : decode cL_correct 23 = .ok (.iconst 3, 1) := by decide +kernel
theorem dL_correct_24 : decode cL_correct 24 = .ok (.ireturn, 1) := by decide +kernel
theorem dL_correct_25 : decode cL_correct 25 = .ok (.iconst 0, 1) := by decide +kernel
theorem dL_correct_26 : decode cL_correct 26 = .ok (.ireturn, 1) := by decide +kernel
theorem dL_usedMinutes_0 : decode cL_usedMinutes 0 = .ok (.aload_n 2, 1) := by decide +kernel
theorem dL_usedMinutes_1 : decode cL_usedMinutes 1 = .ok (.iconst 0, 1) := by decide +kernel
theorem dL_usedMinutes_2 : decode cL_usedMinutes 2 = .ok (.aload_n 0, 1) := by decide +kernel
theorem dL_usedMinutes_3 : decode cL_usedMinutes 3 = .ok (.iload_n 1, 1) := by decide +kernel
theorem dL_usedMinutes_4 : decode cL_usedMinutes 4 = .ok (.invokevirtual 129, 3) := by decide +kernel
theorem dL_usedMinutes_7 : decode cL_usedMinutes 7 = .ok (.i2l, 1) := by decide +kernel
theorem dL_usedMinutes_8 : decode cL_usedMinutes 8 = .ok (.lastore, 1) := by decide +kernel
theorem dL_usedMinutes_9 : decode cL_usedMinutes 9 = .ok (.goto 6, 3) := by decide +kernel
theorem dL_usedMinutes_12 : decode cL_usedMinutes 12 = .ok (.astore_n 3, 1) := by decide +kernel
theorem dL_usedMinutes_13 : decode cL_usedMinutes 13 = .ok (.iconst 1, 1) := by decide +kernel
theorem dL_usedMinutes_14 : decode cL_usedMinutes 14 = .ok (.ireturn, 1) := by decide +kernel
theorem dL_usedMinutes_15 : decode cL_usedMinutes 15 = .ok (.iconst 0, 1) := by decide +kernel
theorem dL_usedMinutes_16 : decode cL_usedMinutes 16 = .ok (.ireturn, 1) := by decide +kernel
theorem dL_budgetShare_0 : decode cL_budgetShare 0 = .ok (.aload_n 2, 1) := by decide +kernel
theorem dL_budgetShare_1 : decode cL_budgetShare 1 = .ok (.iconst 0, 1) := by decide +kernel
theorem dL_budgetShare_2 : decode cL_budgetShare 2 = .ok (.aload_n 0, 1) := by decide +kernel
theorem dL_budgetShare_3 : decode cL_budgetShare 3 = .ok (.iload_n 1, 1) := by decide +kernel
theorem dL_budgetShare_4 : decode cL_budgetShare 4 = .ok (.invokevirtual 132, 3) := by decide +kernel
theorem dL_budgetShare_7 : decode cL_budgetShare 7 = .ok (.f2d, 1) := by decide +kernel
theorem dL_budgetShare_8 : decode cL_budgetShare 8 = .ok (.dastore, 1) := by decide +kernel
theorem dL_budgetShare_9 : decode cL_budgetShare 9 = .ok (.goto 9, 3) := by decide +kernel
theorem dL_budgetShare_12 : decode cL_budgetShare 12 = .ok (.astore_n 3, 1) := by decide +kernel
theorem dL_budgetShare_13 : decode cL_budgetShare 13 = .ok (.iconst 1, 1) := by decide +kernel
theorem dL_budgetShare_14 : decode cL_budgetShare 14 = .ok (.ireturn, 1) := by decide +kernel
theorem dL_budgetShare_15 : decode cL_budgetShare 15 = .ok (.astore_n 3, 1) := by decide +kernel
theorem dL_budgetShare_16 : decode cL_budgetShare 16 = .ok (.iconst 2, 1) := by decide +kernel
theorem dL_budgetShare_17 : decode cL_budgetShare 17 = .ok (.ireturn, 1) := by decide +kernel
theorem dL_budgetShare_18 : decode cL_budgetShare 18 = .ok (.iconst 0, 1) := by decide +kernel
theorem dL_budgetShare_19 : decode cL_budgetShare 19 = .ok (.ireturn, 1) := by decide +kernel
theorem dL_warning_0 : decode cL_warning 0 = .ok (.aload_n 2, 1) := by decide +kernel
theorem dL_warning_1 : decode cL_warning 1 = .ok (.iconst 0, 1) := by decide +kernel
theorem dL_warning_2 : decode cL_warning 2 = .ok (.aload_n 0, 1) := by decide +kernel
theorem dL_warning_3 : decode cL_warning 3 = .ok (.iload_n 1, 1) := by decide +kernel
theorem dL_warning_4 : decode cL_warning 4 = .ok (.invokevirtual 137, 3) := by decide +kernel
theorem dL_warning_7 : decode cL_warning 7 = .ok (.i2l, 1) := by decide +kernel
theorem dL_warning_8 : decode cL_warning 8 = .ok (.lastore, 1) := by decide +kernel
theorem dL_warning_9 : decode cL_warning 9 = .ok (.goto 6, 3) := by decide +kernel
theorem dL_warning_12 : decode cL_warning 12 = .ok (.astore_n 3, 1) := by decide +kernel
theorem dL_warning_13 : decode cL_warning 13 = .ok (.iconst 1, 1) := by decide +kernel
theorem dL_warning_14 : decode cL_warning 14 = .ok (.ireturn, 1) := by decide +kernel
theorem dL_warning_15 : decode cL_warning 15 = .ok (.iconst 0, 1) := by decide +kernel
theorem dL_warning_16 : decode cL_warning 16 = .ok (.ireturn, 1) := by decide +kernel
theorem dL_meanMinutes_0 : decode cL_meanMinutes 0 = .ok (.aload_n 1, 1) := by decide +kernel
theorem dL_meanMinutes_1 : decode cL_meanMinutes 1 = .ok (.iconst 0, 1) := by decide +kernel
theorem dL_meanMinutes_2 : decode cL_meanMinutes 2 = .ok (.aload_n 0, 1) := by decide +kernel
theorem dL_meanMinutes_3 : decode cL_meanMinutes 3 = .ok (.invokevirtual 140, 3) := by decide +kernel
theorem dL_meanMinutes_6 : decode cL_meanMinutes 6 = .ok (.dastore, 1) := by decide +kernel
theorem dL_meanMinutes_7 : decode cL_meanMinutes 7 = .ok (.goto 6, 3) := by decide +kernel
theorem dL_meanMinutes_10 : decode cL_meanMinutes 10 = .ok (.astore_n 2, 1) := by decide +kernel
theorem dL_meanMinutes_11 : decode cL_meanMinutes 11 = .ok (.iconst 1, 1) := by decide +kernel
theorem dL_meanMinutes_12 : decode cL_meanMinutes 12 = .ok (.ireturn, 1) := by decide +kernel
theorem dL_meanMinutes_13 : decode cL_meanMinutes 13 = .ok (.iconst 0, 1) := by decide +kernel
theorem dL_meanMinutes_14 : decode cL_meanMinutes 14 = .ok (.ireturn, 1) := by decide +kernel
theorem dL_meanBits_0 : decode cL_meanBits 0 = .ok (.aload_n 1, 1) := by decide +kernel
theorem dL_meanBits_1 : decode cL_meanBits 1 = .ok (.iconst 0, 1) := by decide +kernel
theorem dL_meanBits_2 : decode cL_meanBits 2 = .ok (.aload_n 0, 1) := by decide +kernel
theorem dL_meanBits_3 : decode cL_meanBits 3 = .ok (.invokevirtual 144, 3) := by decide +kernel
theorem dL_meanBits_6 : decode cL_meanBits 6 = .ok (.lastore, 1) := by decide +kernel
theorem dL_meanBits_7 : decode cL_meanBits 7 = .ok (.goto 6, 3) := by decide +kernel
theorem dL_meanBits_10 : decode cL_meanBits 10 = .ok (.astore_n 2, 1) := by decide +kernel
theorem dL_meanBits_11 : decode cL_meanBits 11 = .ok (.iconst 1, 1) := by decide +kernel
theorem dL_meanBits_12 : decode cL_meanBits 12 = .ok (.ireturn, 1) := by decide +kernel
theorem dL_meanBits_13 : decode cL_meanBits 13 = .ok (.iconst 0, 1) := by decide +kernel
theorem dL_meanBits_14 : decode cL_meanBits 14 = .ok (.ireturn, 1) := by decide +kernel
