set_option maxRecDepth 20000 in
theorem dX0_init_0 : decode cX0_init 0 = .ok (.aload_n 0, 1) := by decide +kernel
set_option maxRecDepth 20000 in
theorem dX0_init_1 : decode cX0_init 1 = .ok (.invokespecial 3, 3) := by decide +kernel
set_option maxRecDepth 20000 in
theorem dX0_init_4 : decode cX0_init 4 = .ok (.aload_n 0, 1) := by decide +kernel
set_option maxRecDepth 20000 in
theorem dX0_init_5 : decode cX0_init 5 = .ok (.bipush 8, 2) := by decide +kernel
set_option maxRecDepth 20000 in
theorem dX0_init_7 : decode cX0_init 7 = .ok (.newarray .int, 2) := by decide +kernel
set_option maxRecDepth 20000 in
theorem dX0_init_9 : decode cX0_init 9 = .ok (.putfield 9, 3) := by decide +kernel
set_option maxRecDepth 20000 in
theorem dX0_init_12 : decode cX0_init 12 = .ok (.aload_n 0, 1) := by decide +kernel
set_option maxRecDepth 20000 in
theorem dX0_init_13 : decode cX0_init 13 = .ok (.bipush 8, 2) := by decide +kernel
set_option maxRecDepth 20000 in
theorem dX0_init_15 : decode cX0_init 15 = .ok (.newarray .int, 2) := by decide +kernel
set_option maxRecDepth 20000 in
theorem dX0_init_17 : decode cX0_init 17 = .ok (.putfield 15, 3) := by decide +kernel
set_option maxRecDepth 20000 in
theorem dX0_init_20 : decode cX0_init 20 = .ok (.aload_n 0, 1) := by decide +kernel
set_option maxRecDepth 20000 in
theorem dX0_init_21 : decode cX0_init 21 = .ok (.bipush 8, 2) := by decide +kernel
set_option maxRecDepth 20000 in
theorem dX0_init_23 : decode cX0_init 23 = .ok (.newarray .int, 2) := by decide +kernel
set_option maxRecDepth 20000 in
theorem dX0_init_25 : decode cX0_init 25 = .ok (.putfield 18, 3) := by decide +kernel
set_option maxRecDepth 20000 in
theorem dX0_init_28 : decode cX0_init 28 = .ok (.aload_n 0, 1) := by decide +kernel
set_option maxRecDepth 20000 in
theorem dX0_init_29 : decode cX0_init 29 = .ok (.bipush 8, 2) := by decide +kernel
set_option maxRecDepth 20000 in
theorem dX0_init_31 : decode cX0_init 31 = .ok (.newarray .int, 2) := by decide +kernel
set_option maxRecDepth 20000 in
theorem dX0_init_33 : decode cX0_init 33 = .ok (.putfield 21, 3) := by decide +kernel
set_option maxRecDepth 20000 in
theorem dX0_init_36 : decode cX0_init 36 = .ok (.return_, 1) := by decide +kernel
set_option maxRecDepth 20000 in
theorem dX0_add_0 : decode cX0_add 0 = .ok (.aload_n 0, 1) := by decide +kernel
set_option maxRecDepth 20000 in
theorem dX0_add_1 : decode cX0_add 1 = .ok (.getfield 24, 3) := by decide +kernel
set_option maxRecDepth 20000 in
theorem dX0_add_4 : decode cX0_add 4 = .ok (.bipush 8, 2) := by decide +kernel
set_option maxRecDepth 20000 in
theorem dX0_add_6 : decode cX0_add 6 = .ok (.invokestatic 28, 3) := by decide +kernel
set_option maxRecDepth 20000 in
theorem dX0_add_9 : decode cX0_add 9 = .ok (.ifCond .ne 5, 3) := by decide +kernel
set_option maxRecDepth 20000 in
theorem dX0_add_12 : decode cX0_add 12 = .ok (.iconst 0, 1) := by decide +kernel
set_option maxRecDepth 20000 in
theorem dX0_add_13 : decode cX0_add 13 = .ok (.ireturn, 1) := by decide +kernel
set_option maxRecDepth 20000 in
theorem dX0_add_14 : decode cX0_add 14 = .ok (.aload_n 0, 1) := by decide +kernel
set_option maxRecDepth 20000 in
theorem dX0_add_15 : decode cX0_add 15 = .ok (.getfield 9, 3) := by decide +kernel
set_option maxRecDepth 20000 in
theorem dX0_add_18 : decode cX0_add 18 = .ok (.aload_n 0, 1) := by decide +kernel
set_option maxRecDepth 20000 in
theorem dX0_add_19 : decode cX0_add 19 = .ok (.getfield 24, 3) := by decide +kernel
set_option maxRecDepth 20000 in
theorem dX0_add_22 : decode cX0_add 22 = .ok (.iload_n 1, 1) := by decide +kernel
set_option maxRecDepth 20000 in
theorem dX0_add_23 : decode cX0_add 23 = .ok (.iastore, 1) := by decide +kernel
set_option maxRecDepth 20000 in
theorem dX0_add_24 : decode cX0_add 24 = .ok (.aload_n 0, 1) := by decide +kernel
set_option maxRecDepth 20000 in
theorem dX0_add_25 : decode cX0_add 25 = .ok (.getfield 15, 3) := by decide +kernel
set_option maxRecDepth 20000 in
theorem dX0_add_28 : decode cX0_add 28 = .ok (.aload_n 0, 1) := by decide +kernel
set_option maxRecDepth 20000 in
theorem dX0_add_29 : decode cX0_add 29 = .ok (.getfield 24, 3) := by decide +kernel
set_option maxRecDepth 20000 in
theorem dX0_add_32 : decode cX0_add 32 = .ok (.iload_n 2, 1) := by decide +kernel
set_option maxRecDepth 20000 in
theorem dX0_add_33 : decode cX0_add 33 = .ok (.iastore, 1) := by decide +kernel
set_option maxRecDepth 20000 in
theorem dX0_add_34 : decode cX0_add 34 = .ok (.aload_n 0, 1) := by decide +kernel
set_option maxRecDepth 20000 in
theorem dX0_add_35 : decode cX0_add 35 = .ok (.getfield 18, 3) := by decide +kernel
set_option maxRecDepth 20000 in
theorem dX0_add_38 : decode cX0_add 38 = .ok (.aload_n 0, 1) := by decide +kernel
set_option maxRecDepth 20000 in
theorem dX0_add_39 : decode cX0_add 39 = .ok (.getfield 24, 3) := by decide +kernel
set_option maxRecDepth 20000 in
theorem dX0_add_42 : decode cX0_add 42 = .ok (.iload_n 3, 1) := by decide +kernel
set_option maxRecDepth 20000 in
theorem dX0_add_43 : decode cX0_add 43 = .ok (.iastore, 1) := by decide +kernel
set_option maxRecDepth 20000 in
theorem dX0_add_44 : decode cX0_add 44 = .ok (.aload_n 0, 1) := by decide +kernel
set_option maxRecDepth 20000 in
theorem dX0_add_45 : decode cX0_add 45 = .ok (.getfield 21, 3) := by decide +kernel
set_option maxRecDepth 20000 in
theorem dX0_add_48 : decode cX0_add 48 = .ok (.aload_n 0, 1) := by decide +kernel
set_option maxRecDepth 20000 in
theorem dX0_add_49 : decode cX0_add 49 = .ok (.getfield 24, 3) := by decide +kernel
set_option maxRecDepth 20000 in
theorem dX0_add_52 : decode cX0_add 52 = .ok (.iload 4, 2) := by decide +kernel
set_option maxRecDepth 20000 in
theorem dX0_add_54 : decode cX0_add 54 = .ok (.iastore, 1) := by decide +kernel
set_option maxRecDepth 20000 in
theorem dX0_add_55 : decode cX0_add 55 = .ok (.aload_n 0, 1) := by decide +kernel
set_option maxRecDepth 20000 in
theorem dX0_add_56 : decode cX0_add 56 = .ok (.dup, 1) := by decide +kernel
set_option maxRecDepth 20000 in
theorem dX0_add_57 : decode cX0_add 57 = .ok (.getfield 24, 3) := by decide +kernel
set_option maxRecDepth 20000 in
theorem dX0_add_60 : decode cX0_add 60 = .ok (.iconst 1, 1) := by decide +kernel
set_option maxRecDepth 20000 in
theorem dX0_add_61 : decode cX0_add 61 = .ok (.iadd, 1) := by decide +kernel
set_option maxRecDepth 20000 in
theorem dX0_add_62 : decode cX0_add 62 = .ok (.putfield 24, 3) := by decide +kernel
set_option maxRecDepth 20000 in
theorem dX0_add_65 : decode cX0_add 65 = .ok (.iconst 1, 1) := by decide +kernel
set_option maxRecDepth 20000 in
theorem dX0_add_66 : decode cX0_add 66 = .ok (.ireturn, 1) := by decide +kernel
set_option maxRecDepth 20000 in
theorem dX0_latestDay_0 : decode cX0_latestDay 0 = .ok (.iconst (-1), 1) := by decide +kernel
set_option maxRecDepth 20000 in
theorem dX0_latestDay_1 : decode cX0_latestDay 1 = .ok (.istore_n 1, 1) := by decide +kernel
set_option maxRecDepth 20000 in
theorem dX0_latestDay_2 : decode cX0_latestDay 2 = .ok (.iconst 0, 1) := by decide +kernel
set_option maxRecDepth 20000 in
theorem dX0_latestDay_3 : decode cX0_latestDay 3 = .ok (.istore_n 2, 1) := by decide +kernel
set_option maxRecDepth 20000 in
theorem dX0_latestDay_4 : decode cX0_latestDay 4 = .ok (.iload_n 2, 1) := by decide +kernel
set_option maxRecDepth 20000 in
theorem dX0_latestDay_5 : decode cX0_latestDay 5 = .ok (.aload_n 0, 1) := by decide +kernel
set_option maxRecDepth 20000 in
theorem dX0_latestDay_6 : decode cX0_latestDay 6 = .ok (.getfield 24, 3) := by decide +kernel
set_option maxRecDepth 20000 in
theorem dX0_latestDay_9 : decode cX0_latestDay 9 = .ok (.if_icmp .ge 26, 3) := by decide +kernel
set_option maxRecDepth 20000 in
theorem dX0_latestDay_12 : decode cX0_latestDay 12 = .ok (.aload_n 0, 1) := by decide +kernel
set_option maxRecDepth 20000 in
theorem dX0_latestDay_13 : decode cX0_latestDay 13 = .ok (.getfield 9, 3) := by decide +kernel
set_option maxRecDepth 20000 in
theorem dX0_latestDay_16 : decode cX0_latestDay 16 = .ok (.iload_n 2, 1) := by decide +kernel
set_option maxRecDepth 20000 in
theorem dX0_latestDay_17 : decode cX0_latestDay 17 = .ok (.iaload, 1) := by decide +kernel
set_option maxRecDepth 20000 in
theorem dX0_latestDay_18 : decode cX0_latestDay 18 = .ok (.iload_n 1, 1) := by decide +kernel
set_option maxRecDepth 20000 in
theorem dX0_latestDay_19 : decode cX0_latestDay 19 = .ok (.if_icmp .le 10, 3) := by decide +kernel
set_option maxRecDepth 20000 in
theorem dX0_latestDay_22 : decode cX0_latestDay 22 = .ok (.aload_n 0, 1) := by decide +kernel
set_option maxRecDepth 20000 in
theorem dX0_latestDay_23 : decode cX0_latestDay 23 = .ok (.getfield 9, 3) := by decide +kernel
set_option maxRecDepth 20000 in
theorem dX0_latestDay_26 : decode cX0_latestDay 26 = .ok (.iload_n 2, 1) := by decide +kernel
set_option maxRecDepth 20000 in
theorem dX0_latestDay_27 : decode cX0_latestDay 27 = .ok (.iaload, 1) := by decide +kernel
set_option maxRecDepth 20000 in
theorem dX0_latestDay_28 : decode cX0_latestDay 28 = .ok (.istore_n 1, 1) := by decide +kernel
set_option maxRecDepth 20000 in
theorem dX0_latestDay_29 : decode cX0_latestDay 29 = .ok (.iinc 2 1, 3) := by decide +kernel
set_option maxRecDepth 20000 in
theorem dX0_latestDay_32 : decode cX0_latestDay 32 = .ok (.goto (-28), 3) := by decide +kernel
set_option maxRecDepth 20000 in
theorem dX0_latestDay_35 : decode cX0_latestDay 35 = .ok (.iload_n 1, 1) := by decide +kernel
set_option maxRecDepth 20000 in
theorem dX0_latestDay_36 : decode cX0_latestDay 36 = .ok (.ireturn, 1) := by decide +kernel
set_option maxRecDepth 20000 in
theorem dX0_agreesWith_0 : decode cX0_agreesWith 0 = .ok (.iconst 0, 1) := by decide +kernel
set_option maxRecDepth 20000 in
theorem dX0_agreesWith_1 : decode cX0_agreesWith 1 = .ok (.istore_n 2, 1) := by decide +kernel
set_option maxRecDepth 20000 in
theorem dX0_agreesWith_2 : decode cX0_agreesWith 2 = .ok (.iload_n 2, 1) := by decide +kernel
set_option maxRecDepth 20000 in
theorem dX0_agreesWith_3 : decode cX0_agreesWith 3 = .ok (.aload_n 0, 1) := by decide +kernel
set_option maxRecDepth 20000 in
theorem dX0_agreesWith_4 : decode cX0_agreesWith 4 = .ok (.getfield 24, 3) := by decide +kernel
set_option maxRecDepth 20000 in
theorem dX0_agreesWith_7 : decode cX0_agreesWith 7 = .ok (.if_icmp .ge 33, 3) := by decide +kernel
set_option maxRecDepth 20000 in
theorem dX0_agreesWith_10 : decode cX0_agreesWith 10 = .ok (.aload_n 0, 1) := by decide +kernel
set_option maxRecDepth 20000 in
theorem dX0_agreesWith_11 : decode cX0_agreesWith 11 = .ok (.getfield 9, 3) := by decide +kernel
set_option maxRecDepth 20000 in
theorem dX0_agreesWith_14 : decode cX0_agreesWith 14 = .ok (.iload_n 2, 1) := by decide +kernel
set_option maxRecDepth 20000 in
theorem dX0_agreesWith_15 : decode cX0_agreesWith 15 = .ok (.iaload, 1) := by decide +kernel
set_option maxRecDepth 20000 in
theorem dX0_agreesWith_16 : decode cX0_agreesWith 16 = .ok (.aload_n 1, 1) := by decide +kernel
set_option maxRecDepth 20000 in
theorem dX0_agreesWith_17 : decode cX0_agreesWith 17 = .ok (.getfield 32, 3) := by decide +kernel
set_option maxRecDepth 20000 in
theorem dX0_agreesWith_20 : decode cX0_agreesWith 20 = .ok (.if_icmp .ne 14, 3) := by decide +kernel
set_option maxRecDepth 20000 in
theorem dX0_agreesWith_23 : decode cX0_agreesWith 23 = .ok (.aload_n 0, 1) := by decide +kernel
set_option maxRecDepth 20000 in
theorem dX0_agreesWith_24 : decode cX0_agreesWith 24 = .ok (.aload_n 1, 1) := by decide +kernel
set_option maxRecDepth 20000 in
theorem dX0_agreesWith_25 : decode cX0_agreesWith 25 = .ok (.iload_n 2, 1) := by decide +kernel
set_option maxRecDepth 20000 in
theorem dX0_agreesWith_26 : decode cX0_agreesWith 26 = .ok (.invokevirtual 37, 3) := by decide +kernel
set_option maxRecDepth 20000 in
theorem dX0_agreesWith_29 : decode cX0_agreesWith 29 = .ok (.ifCond .ne 5, 3) := by decide +kernel
set_option maxRecDepth 20000 in
theorem dX0_agreesWith_32 : decode cX0_agreesWith 32 = .ok (.iconst 0, 1) := by decide +kernel
set_option maxRecDepth 20000 in
theorem dX0_agreesWith_33 : decode cX0_agreesWith 33 = .ok (.ireturn, 1) := by decide +kernel
set_option maxRecDepth 20000 in
theorem dX0_agreesWith_34 : decode cX0_agreesWith 34 = .ok (.iinc 2 1, 3) := by decide +kernel
set_option maxRecDepth 20000 in
theorem dX0_agreesWith_37 : decode cX0_agreesWith 37 = .ok (.goto (-35), 3) := by decide +kernel
set_option maxRecDepth 20000 in
theorem dX0_agreesWith_40 : decode cX0_agreesWith 40 = .ok (.iconst 1, 1) := by decide +kernel
set_option maxRecDepth 20000 in
theorem dX0_agreesWith_41 : decode cX0_agreesWith 41 = .ok (.ireturn, 1) := by decide +kernel
set_option maxRecDepth 20000 in
theorem dX0_isSo_0 : decode cX0_isSo 0 = .ok (.aload_n 1, 1) := by decide +kernel
set_option maxRecDepth 20000 in
theorem dX0_isSo_1 : decode cX0_isSo 1 = .ok (.getfield 41, 3) := by decide +kernel
set_option maxRecDepth 20000 in
theorem dX0_isSo_4 : decode cX0_isSo 4 = .ok (.aload_n 0, 1) := by decide +kernel
set_option maxRecDepth 20000 in
theorem dX0_isSo_5 : decode cX0_isSo 5 = .ok (.getfield 15, 3) := by decide +kernel
set_option maxRecDepth 20000 in
theorem dX0_isSo_8 : decode cX0_isSo 8 = .ok (.iload_n 2, 1) := by decide +kernel
set_option maxRecDepth 20000 in
theorem dX0_isSo_9 : decode cX0_isSo 9 = .ok (.iaload, 1) := by decide +kernel
set_option maxRecDepth 20000 in
theorem dX0_isSo_10 : decode cX0_isSo 10 = .ok (.invokevirtual 45, 3) := by decide +kernel
set_option maxRecDepth 20000 in
theorem dX0_isSo_13 : decode cX0_isSo 13 = .ok (.ifCond .eq 36, 3) := by decide +kernel
set_option maxRecDepth 20000 in
theorem dX0_isSo_16 : decode cX0_isSo 16 = .ok (.aload_n 1, 1) := by decide +kernel
set_option maxRecDepth 20000 in
theorem dX0_isSo_17 : decode cX0_isSo 17 = .ok (.getfield 51, 3) := by decide +kernel
set_option maxRecDepth 20000 in
theorem dX0_isSo_20 : decode cX0_isSo 20 = .ok (.aload_n 0, 1) := by decide +kernel
set_option maxRecDepth 20000 in
theorem dX0_isSo_21 : decode cX0_isSo 21 = .ok (.getfield 15, 3) := by decide +kernel
set_option maxRecDepth 20000 in
theorem dX0_isSo_24 : decode cX0_isSo 24 = .ok (.iload_n 2, 1) := by decide +kernel
set_option maxRecDepth 20000 in
theorem dX0_isSo_25 : decode cX0_isSo 25 = .ok (.iaload, 1) := by decide +kernel
set_option maxRecDepth 20000 in
theorem dX0_isSo_26 : decode cX0_isSo 26 = .ok (.iconst 5, 1) := by decide +kernel
set_option maxRecDepth 20000 in
theorem dX0_isSo_27 : decode cX0_isSo 27 = .ok (.imul, 1) := by decide +kernel
set_option maxRecDepth 20000 in
theorem dX0_isSo_28 : decode cX0_isSo 28 = .ok (.aload_n 0, 1) := by decide +kernel
set_option maxRecDepth 20000 in
theorem dX0_isSo_29 : decode cX0_isSo 29 = .ok (.getfield 18, 3) := by decide +kernel
set_option maxRecDepth 20000 in
theorem dX0_isSo_32 : decode cX0_isSo 32 = .ok (.iload_n 2, 1) := by decide +kernel
set_option maxRecDepth 20000 in
theorem dX0_isSo_33 : decode cX0_isSo 33 = .ok (.iaload, 1) := by decide +kernel
set_option maxRecDepth 20000 in
theorem dX0_isSo_34 : decode cX0_isSo 34 = .ok (.iadd, 1) := by decide +kernel
set_option maxRecDepth 20000 in
theorem dX0_isSo_35 : decode cX0_isSo 35 = .ok (.iaload, 1) := by decide +kernel
set_option maxRecDepth 20000 in
theorem dX0_isSo_36 : decode cX0_isSo 36 = .ok (.aload_n 0, 1) := by decide +kernel
set_option maxRecDepth 20000 in
theorem dX0_isSo_37 : decode cX0_isSo 37 = .ok (.getfield 21, 3) := by decide +kernel
set_option maxRecDepth 20000 in
theorem dX0_isSo_40 : decode cX0_isSo 40 = .ok (.iload_n 2, 1) := by decide +kernel
set_option maxRecDepth 20000 in
theorem dX0_isSo_41 : decode cX0_isSo 41 = .ok (.iaload, 1) := by decide +kernel
set_option maxRecDepth 20000 in
theorem dX0_isSo_42 : decode cX0_isSo 42 = .ok (.if_icmp .ne 7, 3) := by decide +kernel
set_option maxRecDepth 20000 in
theorem dX0_isSo_45 : decode cX0_isSo 45 = .ok (.iconst 1, 1) := by decide +kernel
set_option maxRecDepth 20000 in
theorem dX0_isSo_46 : decode cX0_isSo 46 = .ok (.goto 4, 3) := by decide +kernel
set_option maxRecDepth 20000 in
theorem dX0_isSo_49 : decode cX0_isSo 49 = .ok (.iconst 0, 1) := by decide +kernel
set_option maxRecDepth 20000 in
theorem dX0_isSo_50 : decode cX0_isSo 50 = .ok (.ireturn, 1) := by decide +kernel
set_option maxRecDepth 20000 in
theorem dX1_init_0 : decode cX1_init 0 = .ok (.aload_n 0, 1) := by decide +kernel
set_option maxRecDepth 20000 in
theorem dX1_init_1 : decode cX1_init 1 = .ok (.invokespecial 3, 3) := by decide +kernel
set_option maxRecDepth 20000 in
theorem dX1_init_4 : decode cX1_init 4 = .ok (.aload_n 0, 1) := by decide +kernel
set_option maxRecDepth 20000 in
theorem dX1_init_5 : decode cX1_init 5 = .ok (.bipush 8, 2) := by decide +kernel
set_option maxRecDepth 20000 in
theorem dX1_init_7 : decode cX1_init 7 = .ok (.newarray .int, 2) := by decide +kernel
set_option maxRecDepth 20000 in
theorem dX1_init_9 : decode cX1_init 9 = .ok (.putfield 9, 3) := by decide +kernel
set_option maxRecDepth 20000 in
theorem dX1_init_12 : decode cX1_init 12 = .ok (.aload_n 0, 1) := by decide +kernel
set_option maxRecDepth 20000 in
theorem dX1_init_13 : decode cX1_init 13 = .ok (.bipush 40, 2) := by decide +kernel
set_option maxRecDepth 20000 in
theorem dX1_init_15 : decode cX1_init 15 = .ok (.newarray .int, 2) := by decide +kernel
set_option maxRecDepth 20000 in
theorem dX1_init_17 : decode cX1_init 17 = .ok (.putfield 15, 3) := by decide +kernel
set_option maxRecDepth 20000 in
theorem dX1_init_20 : decode cX1_init 20 = .ok (.aload_n 0, 1) := by decide +kernel
set_option maxRecDepth 20000 in
theorem dX1_init_21 : decode cX1_init 21 = .ok (.bipush 8, 2) := by decide +kernel
set_option maxRecDepth 20000 in
theorem dX1_init_23 : decode cX1_init 23 = .ok (.newarray .int, 2) := by decide +kernel
set_option maxRecDepth 20000 in
theorem dX1_init_25 : decode cX1_init 25 = .ok (.putfield 18, 3) := by decide +kernel
set_option maxRecDepth 20000 in
theorem dX1_init_28 : decode cX1_init 28 = .ok (.aload_n 0, 1) := by decide +kernel
set_option maxRecDepth 20000 in
theorem dX1_init_29 : decode cX1_init 29 = .ok (.bipush 8, 2) := by decide +kernel
set_option maxRecDepth 20000 in
theorem dX1_init_31 : decode cX1_init 31 = .ok (.newarray .int, 2) := by decide +kernel
set_option maxRecDepth 20000 in
theorem dX1_init_33 : decode cX1_init 33 = .ok (.putfield 21, 3) := by decide +kernel
set_option maxRecDepth 20000 in
theorem dX1_init_36 : decode cX1_init 36 = .ok (.aload_n 0, 1) := by decide +kernel
set_option maxRecDepth 20000 in
theorem dX1_init_37 : decode cX1_init 37 = .ok (.bipush 9, 2) := by decide +kernel
set_option maxRecDepth 20000 in
theorem dX1_init_39 : decode cX1_init 39 = .ok (.newarray .int, 2) := by decide +kernel
set_option maxRecDepth 20000 in
theorem dX1_init_41 : decode cX1_init 41 = .ok (.putfield 24, 3) := by decide +kernel
set_option maxRecDepth 20000 in
theorem dX1_init_44 : decode cX1_init 44 = .ok (.aload_n 0, 1) := by decide +kernel
set_option maxRecDepth 20000 in
theorem dX1_init_45 : decode cX1_init 45 = .ok (.bipush 9, 2) := by decide +kernel
set_option maxRecDepth 20000 in
theorem dX1_init_47 : decode cX1_init 47 = .ok (.newarray .int, 2) := by decide +kernel
set_option maxRecDepth 20000 in
theorem dX1_init_49 : decode cX1_init 49 = .ok (.putfield 27, 3) := by decide +kernel
set_option maxRecDepth 20000 in
theorem dX1_init_52 : decode cX1_init 52 = .ok (.aload_n 0, 1) := by decide +kernel
set_option maxRecDepth 20000 in
theorem dX1_init_53 : decode cX1_init 53 = .ok (.bipush 9, 2) := by decide +kernel
set_option maxRecDepth 20000 in
theorem dX1_init_55 : decode cX1_init 55 = .ok (.newarray .int, 2) := by decide +kernel
set_option maxRecDepth 20000 in
theorem dX1_init_57 : decode cX1_init 57 = .ok (.putfield 30, 3) := by decide +kernel
set_option maxRecDepth 20000 in
theorem dX1_init_60 : decode cX1_init 60 = .ok (.return_, 1) := by decide +kernel
set_option maxRecDepth 20000 in
theorem dX1_hasAccent_0 : decode cX1_hasAccent 0 = .ok (.iload_n 1, 1) := by decide +kernel
set_option maxRecDepth 20000 in
theorem dX1_hasAccent_1 : decode cX1_hasAccent 1 = .ok (.ifCond .lt 15, 3) := by decide +kernel
set_option maxRecDepth 20000 in
theorem dX1_hasAccent_4 : decode cX1_hasAccent 4 = .ok (.iload_n 1, 1) := by decide +kernel
set_option maxRecDepth 20000 in
theorem dX1_hasAccent_5 : decode cX1_hasAccent 5 = .ok (.aload_n 0, 1) := by decide +kernel
set_option maxRecDepth 20000 in
theorem dX1_hasAccent_6 : decode cX1_hasAccent 6 = .ok (.getfield 33, 3) := by decide +kernel
set_option maxRecDepth 20000 in
theorem dX1_hasAccent_9 : decode cX1_hasAccent 9 = .ok (.if_icmp .ge 7, 3) := by decide +kernel
set_option maxRecDepth 20000 in
theorem dX1_hasAccent_12 : decode cX1_hasAccent 12 = .ok (.iconst 1, 1) := by decide +kernel
set_option maxRecDepth 20000 in
theorem dX1_hasAccent_13 : decode cX1_hasAccent 13 = .ok (.goto 4, 3) := by decide +kernel
set_option maxRecDepth 20000 in
theorem dX1_hasAccent_16 : decode cX1_hasAccent 16 = .ok (.iconst 0, 1) := by decide +kernel
set_option maxRecDepth 20000 in
theorem dX1_hasAccent_17 : decode cX1_hasAccent 17 = .ok (.ireturn, 1) := by decide +kernel
set_option maxRecDepth 20000 in
theorem dX1_hasPerson_0 : decode cX1_hasPerson 0 = .ok (.iload_n 1, 1) := by decide +kernel
set_option maxRecDepth 20000 in
theorem dX1_hasPerson_1 : decode cX1_hasPerson 1 = .ok (.ifCond .lt 15, 3) := by decide +kernel
set_option maxRecDepth 20000 in
theorem dX1_hasPerson_4 : decode cX1_hasPerson 4 = .ok (.iload_n 1, 1) := by decide +kernel
set_option maxRecDepth 20000 in
theorem dX1_hasPerson_5 : decode cX1_hasPerson 5 = .ok (.aload_n 0, 1) := by decide +kernel
set_option maxRecDepth 20000 in
theorem dX1_hasPerson_6 : decode cX1_hasPerson 6 = .ok (.getfield 37, 3) := by decide +kernel
set_option maxRecDepth 20000 in
theorem dX1_hasPerson_9 : decode cX1_hasPerson 9 = .ok (.if_icmp .ge 7, 3) := by decide +kernel
set_option maxRecDepth 20000 in
theorem dX1_hasPerson_12 : decode cX1_hasPerson 12 = .ok (.iconst 1, 1) := by decide +kernel
set_option maxRecDepth 20000 in
theorem dX1_hasPerson_13 : decode cX1_hasPerson 13 = .ok (.goto 4, 3) := by decide +kernel
set_option maxRecDepth 20000 in
theorem dX1_hasPerson_16 : decode cX1_hasPerson 16 = .ok (.iconst 0, 1) := by decide +kernel
set_option maxRecDepth 20000 in
theorem dX1_hasPerson_17 : decode cX1_hasPerson 17 = .ok (.ireturn, 1) := by decide +kernel
set_option maxRecDepth 20000 in
theorem dX1_takeAccents_0 : decode cX1_takeAccents 0 = .ok (.aload_n 0, 1) := by decide +kernel
set_option maxRecDepth 20000 in
theorem dX1_takeAccents_1 : decode cX1_takeAccents 1 = .ok (.iconst 0, 1) := by decide +kernel
set_option maxRecDepth 20000 in
theorem dX1_takeAccents_2 : decode cX1_takeAccents 2 = .ok (.putfield 33, 3) := by decide +kernel
set_option maxRecDepth 20000 in
theorem dX1_takeAccents_5 : decode cX1_takeAccents 5 = .ok (.aload_n 1, 1) := by decide +kernel
set_option maxRecDepth 20000 in
theorem dX1_takeAccents_6 : decode cX1_takeAccents 6 = .ok (.invokevirtual 40, 3) := by decide +kernel
set_option maxRecDepth 20000 in
theorem dX1_takeAccents_9 : decode cX1_takeAccents 9 = .ok (.iconst (-1), 1) := by decide +kernel
set_option maxRecDepth 20000 in
theorem dX1_takeAccents_10 : decode cX1_takeAccents 10 = .ok (.if_icmp .eq 4, 3) := by decide +kernel
set_option maxRecDepth 20000 in
theorem dX1_takeAccents_13 : decode cX1_takeAccents 13 = .ok (.return_, 1) := by decide +kernel
set_option maxRecDepth 20000 in
theorem dX1_takeAccents_14 : decode cX1_takeAccents 14 = .ok (.iconst 0, 1) := by decide +kernel
set_option maxRecDepth 20000 in
theorem dX1_takeAccents_15 : decode cX1_takeAccents 15 = .ok (.istore_n 2, 1) := by decide +kernel
set_option maxRecDepth 20000 in
theorem dX1_takeAccents_16 : decode cX1_takeAccents 16 = .ok (.iconst 0, 1) := by decide +kernel
set_option maxRecDepth 20000 in
theorem dX1_takeAccents_17 : decode cX1_takeAccents 17 = .ok (.istore_n 3, 1) := by decide +kernel
set_option maxRecDepth 20000 in
theorem dX1_takeAccents_18 : decode cX1_takeAccents 18 = .ok (.iload_n 3, 1) := by decide +kernel
set_option maxRecDepth 20000 in
theorem dX1_takeAccents_19 : decode cX1_takeAccents 19 = .ok (.bipush 8, 2) := by decide +kernel
set_option maxRecDepth 20000 in
theorem dX1_takeAccents_21 : decode cX1_takeAccents 21 = .ok (.if_icmp .ge 77, 3) := by decide +kernel
set_option maxRecDepth 20000 in
theorem dX1_takeAccents_24 : decode cX1_takeAccents 24 = .ok (.iload_n 2, 1) := by decide +kernel
set_option maxRecDepth 20000 in
theorem dX1_takeAccents_25 : decode cX1_takeAccents 25 = .ok (.aload_n 1, 1) := by decide +kernel
set_option maxRecDepth 20000 in
theorem dX1_takeAccents_26 : decode cX1_takeAccents 26 = .ok (.getfield 46, 3) := by decide +kernel
set_option maxRecDepth 20000 in
theorem dX1_takeAccents_29 : decode cX1_takeAccents 29 = .ok (.if_icmp .ge 69, 3) := by decide +kernel
set_option maxRecDepth 20000 in
theorem dX1_takeAccents_32 : decode cX1_takeAccents 32 = .ok (.aload_n 0, 1) := by decide +kernel
set_option maxRecDepth 20000 in
theorem dX1_takeAccents_33 : decode cX1_takeAccents 33 = .ok (.getfield 9, 3) := by decide +kernel
set_option maxRecDepth 20000 in
theorem dX1_takeAccents_36 : decode cX1_takeAccents 36 = .ok (.iload_n 3, 1) := by decide +kernel
set_option maxRecDepth 20000 in
theorem dX1_takeAccents_37 : decode cX1_takeAccents 37 = .ok (.aload_n 1, 1) := by decide +kernel
set_option maxRecDepth 20000 in
theorem dX1_takeAccents_38 : decode cX1_takeAccents 38 = .ok (.iload_n 2, 1) := by decide +kernel
set_option maxRecDepth 20000 in
theorem dX1_takeAccents_39 : decode cX1_takeAccents 39 = .ok (.invokevirtual 49, 3) := by decide +kernel
set_option maxRecDepth 20000 in
theorem dX1_takeAccents_42 : decode cX1_takeAccents 42 = .ok (.iastore, 1) := by decide +kernel
set_option maxRecDepth 20000 in
theorem dX1_takeAccents_43 : decode cX1_takeAccents 43 = .ok (.iconst 0, 1) := by decide +kernel
set_option maxRecDepth 20000 in
theorem dX1_takeAccents_44 : decode cX1_takeAccents 44 = .ok (.istore 4, 2) := by decide +kernel
set_option maxRecDepth 20000 in
theorem dX1_takeAccents_46 : decode cX1_takeAccents 46 = .ok (.iload 4, 2) := by decide +kernel
set_option maxRecDepth 20000 in
theorem dX1_takeAccents_48 : decode cX1_takeAccents 48 = .ok (.iconst 5, 1) := by decide +kernel
set_option maxRecDepth 20000 in
theorem dX1_takeAccents_49 : decode cX1_takeAccents 49 = .ok (.if_icmp .ge 30, 3) := by decide +kernel
set_option maxRecDepth 20000 in
theorem dX1_takeAccents_52 : decode cX1_takeAccents 52 = .ok (.aload_n 0, 1) := by decide +kernel
set_option maxRecDepth 20000 in
theorem dX1_takeAccents_53 : decode cX1_takeAccents 53 = .ok (.getfield 15, 3) := by decide +kernel
set_option maxRecDepth 20000 in
theorem dX1_takeAccents_56 : decode cX1_takeAccents 56 = .ok (.iload_n 3, 1) := by decide +kernel
set_option maxRecDepth 20000 in
theorem dX1_takeAccents_57 : decode cX1_takeAccents 57 = .ok (.iconst 5, 1) := by decide +kernel
set_option maxRecDepth 20000 in
theorem dX1_takeAccents_58 : decode cX1_takeAccents 58 = .ok (.imul, 1) := by decide +kernel
set_option maxRecDepth 20000 in
theorem dX1_takeAccents_59 : decode cX1_takeAccents 59 = .ok (.iload 4, 2) := by decide +kernel
set_option maxRecDepth 20000 in
theorem dX1_takeAccents_61 : decode cX1_takeAccents 61 = .ok (.iadd, 1) := by decide +kernel
set_option maxRecDepth 20000 in
theorem dX1_takeAccents_62 : decode cX1_takeAccents 62 = .ok (.aload_n 1, 1) := by decide +kernel
set_option maxRecDepth 20000 in
theorem dX1_takeAccents_63 : decode cX1_takeAccents 63 = .ok (.iload_n 2, 1) := by decide +kernel
set_option maxRecDepth 20000 in
theorem dX1_takeAccents_64 : decode cX1_takeAccents 64 = .ok (.iconst 1, 1) := by decide +kernel
set_option maxRecDepth 20000 in
theorem dX1_takeAccents_65 : decode cX1_takeAccents 65 = .ok (.iadd, 1) := by decide +kernel
set_option maxRecDepth 20000 in
theorem dX1_takeAccents_66 : decode cX1_takeAccents 66 = .ok (.iload 4, 2) := by decide +kernel
set_option maxRecDepth 20000 in
theorem dX1_takeAccents_68 : decode cX1_takeAccents 68 = .ok (.iadd, 1) := by decide +kernel
set_option maxRecDepth 20000 in
theorem dX1_takeAccents_69 : decode cX1_takeAccents 69 = .ok (.invokevirtual 53, 3) := by decide +kernel
set_option maxRecDepth 20000 in
theorem dX1_takeAccents_72 : decode cX1_takeAccents 72 = .ok (.iastore, 1) := by decide +kernel
set_option maxRecDepth 20000 in
theorem dX1_takeAccents_73 : decode cX1_takeAccents 73 = .ok (.iinc 4 1, 3) := by decide +kernel
set_option maxRecDepth 20000 in
theorem dX1_takeAccents_76 : decode cX1_takeAccents 76 = .ok (.goto (-30), 3) := by decide +kernel
set_option maxRecDepth 20000 in
theorem dX1_takeAccents_79 : decode cX1_takeAccents 79 = .ok (.iinc 2 7, 3) := by decide +kernel
set_option maxRecDepth 20000 in
theorem dX1_takeAccents_82 : decode cX1_takeAccents 82 = .ok (.aload_n 0, 1) := by decide +kernel
set_option maxRecDepth 20000 in
theorem dX1_takeAccents_83 : decode cX1_takeAccents 83 = .ok (.dup, 1) := by decide +kernel
set_option maxRecDepth 20000 in
theorem dX1_takeAccents_84 : decode cX1_takeAccents 84 = .ok (.getfield 33, 3) := by decide +kernel
set_option maxRecDepth 20000 in
theorem dX1_takeAccents_87 : decode cX1_takeAccents 87 = .ok (.iconst 1, 1) := by decide +kernel
set_option maxRecDepth 20000 in
theorem dX1_takeAccents_88 : decode cX1_takeAccents 88 = .ok (.iadd, 1) := by decide +kernel
set_option maxRecDepth 20000 in
theorem dX1_takeAccents_89 : decode cX1_takeAccents 89 = .ok (.putfield 33, 3) := by decide +kernel
set_option maxRecDepth 20000 in
theorem dX1_takeAccents_92 : decode cX1_takeAccents 92 = .ok (.iinc 3 1, 3) := by decide +kernel
set_option maxRecDepth 20000 in
theorem dX1_takeAccents_95 : decode cX1_takeAccents 95 = .ok (.goto (-77), 3) := by decide +kernel
set_option maxRecDepth 20000 in
theorem dX1_takeAccents_98 : decode cX1_takeAccents 98 = .ok (.return_, 1) := by decide +kernel
set_option maxRecDepth 20000 in
theorem dX1_takePeople_0 : decode cX1_takePeople 0 = .ok (.aload_n 0, 1) := by decide +kernel
set_option maxRecDepth 20000 in
theorem dX1_takePeople_1 : decode cX1_takePeople 1 = .ok (.iconst 0, 1) := by decide +kernel
set_option maxRecDepth 20000 in
theorem dX1_takePeople_2 : decode cX1_takePeople 2 = .ok (.putfield 37, 3) := by decide +kernel
set_option maxRecDepth 20000 in
theorem dX1_takePeople_5 : decode cX1_takePeople 5 = .ok (.aload_n 1, 1) := by decide +kernel
set_option maxRecDepth 20000 in
theorem dX1_takePeople_6 : decode cX1_takePeople 6 = .ok (.invokevirtual 40, 3) := by decide +kernel
set_option maxRecDepth 20000 in
theorem dX1_takePeople_9 : decode cX1_takePeople 9 = .ok (.iconst (-1), 1) := by decide +kernel
set_option maxRecDepth 20000 in
theorem dX1_takePeople_10 : decode cX1_takePeople 10 = .ok (.if_icmp .eq 4, 3) := by decide +kernel
set_option maxRecDepth 20000 in
theorem dX1_takePeople_13 : decode cX1_takePeople 13 = .ok (.return_, 1) := by decide +kernel
set_option maxRecDepth 20000 in
theorem dX1_takePeople_14 : decode cX1_takePeople 14 = .ok (.iconst 0, 1) := by decide +kernel
set_option maxRecDepth 20000 in
theorem dX1_takePeople_15 : decode cX1_takePeople 15 = .ok (.istore_n 2, 1) := by decide +kernel
set_option maxRecDepth 20000 in
theorem dX1_takePeople_16 : decode cX1_takePeople 16 = .ok (.iconst 0, 1) := by decide +kernel
set_option maxRecDepth 20000 in
theorem dX1_takePeople_17 : decode cX1_takePeople 17 = .ok (.istore_n 3, 1) := by decide +kernel
set_option maxRecDepth 20000 in
theorem dX1_takePeople_18 : decode cX1_takePeople 18 = .ok (.iload_n 3, 1) := by decide +kernel
set_option maxRecDepth 20000 in
theorem dX1_takePeople_19 : decode cX1_takePeople 19 = .ok (.bipush 8, 2) := by decide +kernel
set_option maxRecDepth 20000 in
theorem dX1_takePeople_21 : decode cX1_takePeople 21 = .ok (.if_icmp .ge 54, 3) := by decide +kernel
set_option maxRecDepth 20000 in
theorem dX1_takePeople_24 : decode cX1_takePeople 24 = .ok (.iload_n 2, 1) := by decide +kernel
set_option maxRecDepth 20000 in
theorem dX1_takePeople_25 : decode cX1_takePeople 25 = .ok (.aload_n 1, 1) := by decide +kernel
set_option maxRecDepth 20000 in
theorem dX1_takePeople_26 : decode cX1_takePeople 26 = .ok (.getfield 46, 3) := by decide +kernel
set_option maxRecDepth 20000 in
theorem dX1_takePeople_29 : decode cX1_takePeople 29 = .ok (.if_icmp .ge 46, 3) := by decide +kernel
set_option maxRecDepth 20000 in
theorem dX1_takePeople_32 : decode cX1_takePeople 32 = .ok (.aload_n 0, 1) := by decide +kernel
set_option maxRecDepth 20000 in
theorem dX1_takePeople_33 : decode cX1_takePeople 33 = .ok (.getfield 18, 3) := by decide +kernel
set_option maxRecDepth 20000 in
theorem dX1_takePeople_36 : decode cX1_takePeople 36 = .ok (.iload_n 3, 1) := by decide +kernel
set_option maxRecDepth 20000 in
theorem dX1_takePeople_37 : decode cX1_takePeople 37 = .ok (.aload_n 1, 1) := by decide +kernel
set_option maxRecDepth 20000 in
theorem dX1_takePeople_38 : decode cX1_takePeople 38 = .ok (.iload_n 2, 1) := by decide +kernel
set_option maxRecDepth 20000 in
theorem dX1_takePeople_39 : decode cX1_takePeople 39 = .ok (.invokevirtual 49, 3) := by decide +kernel
set_option maxRecDepth 20000 in
theorem dX1_takePeople_42 : decode cX1_takePeople 42 = .ok (.iastore, 1) := by decide +kernel
set_option maxRecDepth 20000 in
theorem dX1_takePeople_43 : decode cX1_takePeople 43 = .ok (.aload_n 0, 1) := by decide +kernel
set_option maxRecDepth 20000 in
theorem dX1_takePeople_44 : decode cX1_takePeople 44 = .ok (.getfield 21, 3) := by decide +kernel
set_option maxRecDepth 20000 in
theorem dX1_takePeople_47 : decode cX1_takePeople 47 = .ok (.iload_n 3, 1) := by decide +kernel
set_option maxRecDepth 20000 in
theorem dX1_takePeople_48 : decode cX1_takePeople 48 = .ok (.aload_n 1, 1) := by decide +kernel
set_option maxRecDepth 20000 in
theorem dX1_takePeople_49 : decode cX1_takePeople 49 = .ok (.iload_n 2, 1) := by decide +kernel
set_option maxRecDepth 20000 in
theorem dX1_takePeople_50 : decode cX1_takePeople 50 = .ok (.iconst 1, 1) := by decide +kernel
set_option maxRecDepth 20000 in
theorem dX1_takePeople_51 : decode cX1_takePeople 51 = .ok (.iadd, 1) := by decide +kernel
set_option maxRecDepth 20000 in
theorem dX1_takePeople_52 : decode cX1_takePeople 52 = .ok (.invokevirtual 53, 3) := by decide +kernel
set_option maxRecDepth 20000 in
theorem dX1_takePeople_55 : decode cX1_takePeople 55 = .ok (.iastore, 1) := by decide +kernel
set_option maxRecDepth 20000 in
theorem dX1_takePeople_56 : decode cX1_takePeople 56 = .ok (.iinc 2 3, 3) := by decide +kernel
set_option maxRecDepth 20000 in
theorem dX1_takePeople_59 : decode cX1_takePeople 59 = .ok (.aload_n 0, 1) := by decide +kernel
set_option maxRecDepth 20000 in
theorem dX1_takePeople_60 : decode cX1_takePeople 60 = .ok (.dup, 1) := by decide +kernel
set_option maxRecDepth 20000 in
theorem dX1_takePeople_61 : decode cX1_takePeople 61 = .ok (.getfield 37, 3) := by decide +kernel
set_option maxRecDepth 20000 in
theorem dX1_takePeople_64 : decode cX1_takePeople 64 = .ok (.iconst 1, 1) := by decide +kernel
set_option maxRecDepth 20000 in
theorem dX1_takePeople_65 : decode cX1_takePeople 65 = .ok (.iadd, 1) := by decide +kernel
set_option maxRecDepth 20000 in
theorem dX1_takePeople_66 : decode cX1_takePeople 66 = .ok (.putfield 37, 3) := by decide +kernel
set_option maxRecDepth 20000 in
theorem dX1_takePeople_69 : decode cX1_takePeople 69 = .ok (.iinc 3 1, 3) := by decide +kernel
set_option maxRecDepth 20000 in
theorem dX1_takePeople_72 : decode cX1_takePeople 72 = .ok (.goto (-54), 3) := by decide +kernel
set_option maxRecDepth 20000 in
theorem dX1_takePeople_75 : decode cX1_takePeople 75 = .ok (.return_, 1) := by decide +kernel
set_option maxRecDepth 20000 in
theorem dX1_become_0 : decode cX1_become 0 = .ok (.aload_n 0, 1) := by decide +kernel
set_option maxRecDepth 20000 in
theorem dX1_become_1 : decode cX1_become 1 = .ok (.aload_n 1, 1) := by decide +kernel
set_option maxRecDepth 20000 in
theorem dX1_become_2 : decode cX1_become 2 = .ok (.getfield 33, 3) := by decide +kernel
set_option maxRecDepth 20000 in
theorem dX1_become_5 : decode cX1_become 5 = .ok (.putfield 33, 3) := by decide +kernel
set_option maxRecDepth 20000 in
theorem dX1_become_8 : decode cX1_become 8 = .ok (.aload_n 0, 1) := by decide +kernel
set_option maxRecDepth 20000 in
theorem dX1_become_9 : decode cX1_become 9 = .ok (.aload_n 1, 1) := by decide +kernel
set_option maxRecDepth 20000 in
theorem dX1_become_10 : decode cX1_become 10 = .ok (.getfield 37, 3) := by decide +kernel
set_option maxRecDepth 20000 in
theorem dX1_become_13 : decode cX1_become 13 = .ok (.putfield 37, 3) := by decide +kernel
set_option maxRecDepth 20000 in
theorem dX1_become_16 : decode cX1_become 16 = .ok (.aload_n 0, 1) := by decide +kernel
set_option maxRecDepth 20000 in
theorem dX1_become_17 : decode cX1_become 17 = .ok (.aload_n 1, 1) := by decide +kernel
set_option maxRecDepth 20000 in
theorem dX1_become_18 : decode cX1_become 18 = .ok (.getfield 56, 3) := by decide +kernel
set_option maxRecDepth 20000 in
theorem dX1_become_21 : decode cX1_become 21 = .ok (.putfield 56, 3) := by decide +kernel
set_option maxRecDepth 20000 in
theorem dX1_become_24 : decode cX1_become 24 = .ok (.aload_n 1, 1) := by decide +kernel
set_option maxRecDepth 20000 in
theorem dX1_become_25 : decode cX1_become 25 = .ok (.getfield 9, 3) := by decide +kernel
set_option maxRecDepth 20000 in
theorem dX1_become_28 : decode cX1_become 28 = .ok (.iconst 0, 1) := by decide +kernel
set_option maxRecDepth 20000 in
theorem dX1_become_29 : decode cX1_become 29 = .ok (.aload_n 0, 1) := by decide +kernel
set_option maxRecDepth 20000 in
theorem dX1_become_30 : decode cX1_become 30 = .ok (.getfield 9, 3) := by decide +kernel
set_option maxRecDepth 20000 in
theorem dX1_become_33 : decode cX1_become 33 = .ok (.iconst 0, 1) := by decide +kernel
set_option maxRecDepth 20000 in
theorem dX1_become_34 : decode cX1_become 34 = .ok (.bipush 8, 2) := by decide +kernel
set_option maxRecDepth 20000 in
theorem dX1_become_36 : decode cX1_become 36 = .ok (.invokestatic 59, 3) := by decide +kernel
set_option maxRecDepth 20000 in
theorem dX1_become_39 : decode cX1_become 39 = .ok (.aload_n 1, 1) := by decide +kernel
set_option maxRecDepth 20000 in
theorem dX1_become_40 : decode cX1_become 40 = .ok (.getfield 15, 3) := by decide +kernel
set_option maxRecDepth 20000 in
theorem dX1_become_43 : decode cX1_become 43 = .ok (.iconst 0, 1) := by decide +kernel
set_option maxRecDepth 20000 in
theorem dX1_become_44 : decode cX1_become 44 = .ok (.aload_n 0, 1) := by decide +kernel
set_option maxRecDepth 20000 in
theorem dX1_become_45 : decode cX1_become 45 = .ok (.getfield 15, 3) := by decide +kernel
set_option maxRecDepth 20000 in
theorem dX1_become_48 : decode cX1_become 48 = .ok (.iconst 0, 1) := by decide +kernel
set_option maxRecDepth 20000 in
theorem dX1_become_49 : decode cX1_become 49 = .ok (.bipush 40, 2) := by decide +kernel
set_option maxRecDepth 20000 in
theorem dX1_become_51 : decode cX1_become 51 = .ok (.invokestatic 59, 3) := by decide +kernel
set_option maxRecDepth 20000 in
theorem dX1_become_54 : decode cX1_become 54 = .ok (.aload_n 1, 1) := by decide +kernel
set_option maxRecDepth 20000 in
theorem dX1_become_55 : decode cX1_become 55 = .ok (.getfield 18, 3) := by decide +kernel
set_option maxRecDepth 20000 in
theorem dX1_become_58 : decode cX1_become 58 = .ok (.iconst 0, 1) := by decide +kernel
set_option maxRecDepth 20000 in
theorem dX1_become_59 : decode cX1_become 59 = .ok (.aload_n 0, 1) := by decide +kernel
set_option maxRecDepth 20000 in
theorem dX1_become_60 : decode cX1_become 60 = .ok (.getfield 18, 3) := by decide +kernel
set_option maxRecDepth 20000 in
theorem dX1_become_63 : decode cX1_become 63 = .ok (.iconst 0, 1) := by decide +kernel
set_option maxRecDepth 20000 in
theorem dX1_become_64 : decode cX1_become 64 = .ok (.bipush 8, 2) := by decide +kernel
set_option maxRecDepth 20000 in
theorem dX1_become_66 : decode cX1_become 66 = .ok (.invokestatic 59, 3) := by decide +kernel
set_option maxRecDepth 20000 in
theorem dX1_become_69 : decode cX1_become 69 = .ok (.aload_n 1, 1) := by decide +kernel
set_option maxRecDepth 20000 in
theorem dX1_become_70 : decode cX1_become 70 = .ok (.getfield 21, 3) := by decide +kernel
set_option maxRecDepth 20000 in
theorem dX1_become_73 : decode cX1_become 73 = .ok (.iconst 0, 1) := by decide +kernel
set_option maxRecDepth 20000 in
theorem dX1_become_74 : decode cX1_become 74 = .ok (.aload_n 0, 1) := by decide +kernel
set_option maxRecDepth 20000 in
theorem dX1_become_75 : decode cX1_become 75 = .ok (.getfield 21, 3) := by decide +kernel
set_option maxRecDepth 20000 in
theorem dX1_become_78 : decode cX1_become 78 = .ok (.iconst 0, 1) := by decide +kernel
set_option maxRecDepth 20000 in
theorem dX1_become_79 : decode cX1_become 79 = .ok (.bipush 8, 2) := by decide +kernel
set_option maxRecDepth 20000 in
theorem dX1_become_81 : decode cX1_become 81 = .ok (.invokestatic 59, 3) := by decide +kernel
set_option maxRecDepth 20000 in
theorem dX1_become_84 : decode cX1_become 84 = .ok (.aload_n 1, 1) := by decide +kernel
set_option maxRecDepth 20000 in
theorem dX1_become_85 : decode cX1_become 85 = .ok (.getfield 24, 3) := by decide +kernel
set_option maxRecDepth 20000 in
theorem dX1_become_88 : decode cX1_become 88 = .ok (.iconst 0, 1) := by decide +kernel
set_option maxRecDepth 20000 in
theorem dX1_become_89 : decode cX1_become 89 = .ok (.aload_n 0, 1) := by decide +kernel
set_option maxRecDepth 20000 in
theorem dX1_become_90 : decode cX1_become 90 = .ok (.getfield 24, 3) := by decide +kernel
set_option maxRecDepth 20000 in
theorem dX1_become_93 : decode cX1_become 93 = .ok (.iconst 0, 1) := by decide +kernel
set_option maxRecDepth 20000 in
theorem dX1_become_94 : decode cX1_become 94 = .ok (.bipush 9, 2) := by decide +kernel
set_option maxRecDepth 20000 in
theorem dX1_become_96 : decode cX1_become 96 = .ok (.invokestatic 59, 3) := by decide +kernel
set_option maxRecDepth 20000 in
theorem dX1_become_99 : decode cX1_become 99 = .ok (.aload_n 1, 1) := by decide +kernel
set_option maxRecDepth 20000 in
theorem dX1_become_100 : decode cX1_become 100 = .ok (.getfield 27, 3) := by decide +kernel
set_option maxRecDepth 20000 in
theorem dX1_become_103 : decode cX1_become 103 = .ok (.iconst 0, 1) := by decide +kernel
set_option maxRecDepth 20000 in
theorem dX1_become_104 : decode cX1_become 104 = .ok (.aload_n 0, 1) := by decide +kernel
set_option maxRecDepth 20000 in
theorem dX1_become_105 : decode cX1_become 105 = .ok (.getfield 27, 3) := by decide +kernel
set_option maxRecDepth 20000 in
theorem dX1_become_108 : decode cX1_become 108 = .ok (.iconst 0, 1) := by decide +kernel
set_option maxRecDepth 20000 in
theorem dX1_become_109 : decode cX1_become 109 = .ok (.bipush 9, 2) := by decide +kernel
set_option maxRecDepth 20000 in
theorem dX1_become_111 : decode cX1_become 111 = .ok (.invokestatic 59, 3) := by decide +kernel
set_option maxRecDepth 20000 in
theorem dX1_become_114 : decode cX1_become 114 = .ok (.aload_n 1, 1) := by decide +kernel
set_option maxRecDepth 20000 in
theorem dX1_become_115 : decode cX1_become 115 = .ok (.getfield 30, 3) := by decide +kernel
set_option maxRecDepth 20000 in
theorem dX1_become_118 : decode cX1_become 118 = .ok (.iconst 0, 1) := by decide +kernel
set_option maxRecDepth 20000 in
theorem dX1_become_119 : decode cX1_become 119 = .ok (.aload_n 0, 1) := by decide +kernel
set_option maxRecDepth 20000 in
theorem dX1_become_120 : decode cX1_become 120 = .ok (.getfield 30, 3) := by decide +kernel
set_option maxRecDepth 20000 in
theorem dX1_become_123 : decode cX1_become 123 = .ok (.iconst 0, 1) := by decide +kernel
set_option maxRecDepth 20000 in
theorem dX1_become_124 : decode cX1_become 124 = .ok (.bipush 9, 2) := by decide +kernel
set_option maxRecDepth 20000 in
theorem dX1_become_126 : decode cX1_become 126 = .ok (.invokestatic 59, 3) := by decide +kernel
set_option maxRecDepth 20000 in
theorem dX1_become_129 : decode cX1_become 129 = .ok (.return_, 1) := by decide +kernel
set_option maxRecDepth 20000 in
theorem dX1_addHiring_0 : decode cX1_addHiring 0 = .ok (.aload_n 0, 1) := by decide +kernel
set_option maxRecDepth 20000 in
theorem dX1_addHiring_1 : decode cX1_addHiring 1 = .ok (.getfield 56, 3) := by decide +kernel
set_option maxRecDepth 20000 in
theorem dX1_addHiring_4 : decode cX1_addHiring 4 = .ok (.aload_n 0, 1) := by decide +kernel
set_option maxRecDepth 20000 in
theorem dX1_addHiring_5 : decode cX1_addHiring 5 = .ok (.getfield 24, 3) := by decide +kernel
set_option maxRecDepth 20000 in
theorem dX1_addHiring_8 : decode cX1_addHiring 8 = .ok (.arraylength, 1) := by decide +kernel
set_option maxRecDepth 20000 in
theorem dX1_addHiring_9 : decode cX1_addHiring 9 = .ok (.invokestatic 65, 3) := by decide +kernel
set_option maxRecDepth 20000 in
theorem dX1_addHiring_12 : decode cX1_addHiring 12 = .ok (.ifCond .ne 4, 3) := by decide +kernel
set_option maxRecDepth 20000 in
theorem dX1_addHiring_15 : decode cX1_addHiring 15 = .ok (.return_, 1) := by decide +kernel
set_option maxRecDepth 20000 in
theorem dX1_addHiring_16 : decode cX1_addHiring 16 = .ok (.aload_n 0, 1) := by decide +kernel
set_option maxRecDepth 20000 in
theorem dX1_addHiring_17 : decode cX1_addHiring 17 = .ok (.getfield 24, 3) := by decide +kernel
set_option maxRecDepth 20000 in
theorem dX1_addHiring_20 : decode cX1_addHiring 20 = .ok (.aload_n 0, 1) := by decide +kernel
set_option maxRecDepth 20000 in
theorem dX1_addHiring_21 : decode cX1_addHiring 21 = .ok (.getfield 56, 3) := by decide +kernel
set_option maxRecDepth 20000 in
theorem dX1_addHiring_24 : decode cX1_addHiring 24 = .ok (.iload_n 1, 1) := by decide +kernel
set_option maxRecDepth 20000 in
theorem dX1_addHiring_25 : decode cX1_addHiring 25 = .ok (.iastore, 1) := by decide +kernel
set_option maxRecDepth 20000 in
theorem dX1_addHiring_26 : decode cX1_addHiring 26 = .ok (.aload_n 0, 1) := by decide +kernel
set_option maxRecDepth 20000 in
theorem dX1_addHiring_27 : decode cX1_addHiring 27 = .ok (.getfield 27, 3) := by decide +kernel
set_option maxRecDepth 20000 in
theorem dX1_addHiring_30 : decode cX1_addHiring 30 = .ok (.aload_n 0, 1) := by decide +kernel
set_option maxRecDepth 20000 in
theorem dX1_addHiring_31 : decode cX1_addHiring 31 = .ok (.getfield 56, 3) := by decide +kernel
set_option maxRecDepth 20000 in
theorem dX1_addHiring_34 : decode cX1_addHiring 34 = .ok (.iload_n 2, 1) := by decide +kernel
set_option maxRecDepth 20000 in
theorem dX1_addHiring_35 : decode cX1_addHiring 35 = .ok (.iastore, 1) := by decide +kernel
set_option maxRecDepth 20000 in
theorem dX1_addHiring_36 : decode cX1_addHiring 36 = .ok (.aload_n 0, 1) := by decide +kernel
set_option maxRecDepth 20000 in
theorem dX1_addHiring_37 : decode cX1_addHiring 37 = .ok (.getfield 30, 3) := by decide +kernel
set_option maxRecDepth 20000 in
theorem dX1_addHiring_40 : decode cX1_addHiring 40 = .ok (.aload_n 0, 1) := by decide +kernel
set_option maxRecDepth 20000 in
theorem dX1_addHiring_41 : decode cX1_addHiring 41 = .ok (.getfield 56, 3) := by decide +kernel
set_option maxRecDepth 20000 in
theorem dX1_addHiring_44 : decode cX1_addHiring 44 = .ok (.iload_n 3, 1) := by decide +kernel
set_option maxRecDepth 20000 in
theorem dX1_addHiring_45 : decode cX1_addHiring 45 = .ok (.iastore, 1) := by decide +kernel
set_option maxRecDepth 20000 in
theorem dX1_addHiring_46 : decode cX1_addHiring 46 = .ok (.aload_n 0, 1) := by decide +kernel
set_option maxRecDepth 20000 in
theorem dX1_addHiring_47 : decode cX1_addHiring 47 = .ok (.dup, 1) := by decide +kernel
set_option maxRecDepth 20000 in
theorem dX1_addHiring_48 : decode cX1_addHiring 48 = .ok (.getfield 56, 3) := by decide +kernel
set_option maxRecDepth 20000 in
theorem dX1_addHiring_51 : decode cX1_addHiring 51 = .ok (.iconst 1, 1) := by decide +kernel
set_option maxRecDepth 20000 in
theorem dX1_addHiring_52 : decode cX1_addHiring 52 = .ok (.iadd, 1) := by decide +kernel
set_option maxRecDepth 20000 in
theorem dX1_addHiring_53 : decode cX1_addHiring 53 = .ok (.putfield 56, 3) := by decide +kernel
set_option maxRecDepth 20000 in
theorem dX1_addHiring_56 : decode cX1_addHiring 56 = .ok (.return_, 1) := by decide +kernel
set_option maxRecDepth 20000 in
theorem dX1_dropHiring_0 : decode cX1_dropHiring 0 = .ok (.iload_n 1, 1) := by decide +kernel
set_option maxRecDepth 20000 in
theorem dX1_dropHiring_1 : decode cX1_dropHiring 1 = .ok (.aload_n 0, 1) := by decide +kernel
set_option maxRecDepth 20000 in
theorem dX1_dropHiring_2 : decode cX1_dropHiring 2 = .ok (.getfield 56, 3) := by decide +kernel
set_option maxRecDepth 20000 in
theorem dX1_dropHiring_5 : decode cX1_dropHiring 5 = .ok (.invokestatic 65, 3) := by decide +kernel
set_option maxRecDepth 20000 in
theorem dX1_dropHiring_8 : decode cX1_dropHiring 8 = .ok (.ifCond .ne 4, 3) := by decide +kernel
set_option maxRecDepth 20000 in
theorem dX1_dropHiring_11 : decode cX1_dropHiring 11 = .ok (.return_, 1) := by decide +kernel
set_option maxRecDepth 20000 in
theorem dX1_dropHiring_12 : decode cX1_dropHiring 12 = .ok (.iload_n 1, 1) := by decide +kernel
set_option maxRecDepth 20000 in
theorem dX1_dropHiring_13 : decode cX1_dropHiring 13 = .ok (.istore_n 2, 1) := by decide +kernel
set_option maxRecDepth 20000 in
theorem dX1_dropHiring_14 : decode cX1_dropHiring 14 = .ok (.iload_n 2, 1) := by decide +kernel
set_option maxRecDepth 20000 in
theorem dX1_dropHiring_15 : decode cX1_dropHiring 15 = .ok (.iconst 1, 1) := by decide +kernel
set_option maxRecDepth 20000 in
theorem dX1_dropHiring_16 : decode cX1_dropHiring 16 = .ok (.iadd, 1) := by decide +kernel
set_option maxRecDepth 20000 in
theorem dX1_dropHiring_17 : decode cX1_dropHiring 17 = .ok (.aload_n 0, 1) := by decide +kernel
set_option maxRecDepth 20000 in
theorem dX1_dropHiring_18 : decode cX1_dropHiring 18 = .ok (.getfield 56, 3) := by decide +kernel
set_option maxRecDepth 20000 in
theorem dX1_dropHiring_21 : decode cX1_dropHiring 21 = .ok (.if_icmp .ge 17, 3) := by decide +kernel
set_option maxRecDepth 20000 in
theorem dX1_dropHiring_24 : decode cX1_dropHiring 24 = .ok (.aload_n 0, 1) := by decide +kernel
set_option maxRecDepth 20000 in
theorem dX1_dropHiring_25 : decode cX1_dropHiring 25 = .ok (.iload_n 2, 1) := by decide +kernel
set_option maxRecDepth 20000 in
theorem dX1_dropHiring_26 : decode cX1_dropHiring 26 = .ok (.iconst 1, 1) := by decide +kernel
set_option maxRecDepth 20000 in
theorem dX1_dropHiring_27 : decode cX1_dropHiring 27 = .ok (.iadd, 1) := by decide +kernel
set_option maxRecDepth 20000 in
theorem dX1_dropHiring_28 : decode cX1_dropHiring 28 = .ok (.iload_n 2, 1) := by decide +kernel
set_option maxRecDepth 20000 in
theorem dX1_dropHiring_29 : decode cX1_dropHiring 29 = .ok (.invokevirtual 69, 3) := by decide +kernel
set_option maxRecDepth 20000 in
theorem dX1_dropHiring_32 : decode cX1_dropHiring 32 = .ok (.iinc 2 1, 3) := by decide +kernel
set_option maxRecDepth 20000 in
theorem dX1_dropHiring_35 : decode cX1_dropHiring 35 = .ok (.goto (-21), 3) := by decide +kernel
set_option maxRecDepth 20000 in
theorem dX1_dropHiring_38 : decode cX1_dropHiring 38 = .ok (.aload_n 0, 1) := by decide +kernel
set_option maxRecDepth 20000 in
theorem dX1_dropHiring_39 : decode cX1_dropHiring 39 = .ok (.dup, 1) := by decide +kernel
set_option maxRecDepth 20000 in
theorem dX1_dropHiring_40 : decode cX1_dropHiring 40 = .ok (.getfield 56, 3) := by decide +kernel
set_option maxRecDepth 20000 in
theorem dX1_dropHiring_43 : decode cX1_dropHiring 43 = .ok (.iconst 1, 1) := by decide +kernel
set_option maxRecDepth 20000 in
theorem dX1_dropHiring_44 : decode cX1_dropHiring 44 = .ok (.isub, 1) := by decide +kernel
set_option maxRecDepth 20000 in
theorem dX1_dropHiring_45 : decode cX1_dropHiring 45 = .ok (.putfield 56, 3) := by decide +kernel
set_option maxRecDepth 20000 in
theorem dX1_dropHiring_48 : decode cX1_dropHiring 48 = .ok (.return_, 1) := by decide +kernel
set_option maxRecDepth 20000 in
theorem dX1_keepHirings_0 : decode cX1_keepHirings 0 = .ok (.iconst 0, 1) := by decide +kernel
set_option maxRecDepth 20000 in
theorem dX1_keepHirings_1 : decode cX1_keepHirings 1 = .ok (.istore_n 2, 1) := by decide +kernel
set_option maxRecDepth 20000 in
theorem dX1_keepHirings_2 : decode cX1_keepHirings 2 = .ok (.iconst 0, 1) := by decide +kernel
set_option maxRecDepth 20000 in
theorem dX1_keepHirings_3 : decode cX1_keepHirings 3 = .ok (.istore_n 3, 1) := by decide +kernel
set_option maxRecDepth 20000 in
theorem dX1_keepHirings_4 : decode cX1_keepHirings 4 = .ok (.iload_n 3, 1) := by decide +kernel
set_option maxRecDepth 20000 in
theorem dX1_keepHirings_5 : decode cX1_keepHirings 5 = .ok (.aload_n 0, 1) := by decide +kernel
set_option maxRecDepth 20000 in
theorem dX1_keepHirings_6 : decode cX1_keepHirings 6 = .ok (.getfield 56, 3) := by decide +kernel
set_option maxRecDepth 20000 in
theorem dX1_keepHirings_9 : decode cX1_keepHirings 9 = .ok (.if_icmp .ge 26, 3) := by decide +kernel
set_option maxRecDepth 20000 in
theorem dX1_keepHirings_12 : decode cX1_keepHirings 12 = .ok (.iload_n 1, 1) := by decide +kernel
set_option maxRecDepth 20000 in
theorem dX1_keepHirings_13 : decode cX1_keepHirings 13 = .ok (.iconst 1, 1) := by decide +kernel
set_option maxRecDepth 20000 in
theorem dX1_keepHirings_14 : decode cX1_keepHirings 14 = .ok (.iload_n 3, 1) := by decide +kernel
set_option maxRecDepth 20000 in
theorem dX1_keepHirings_15 : decode cX1_keepHirings 15 = .ok (.ishl, 1) := by decide +kernel
set_option maxRecDepth 20000 in
theorem dX1_keepHirings_16 : decode cX1_keepHirings 16 = .ok (.iand, 1) := by decide +kernel
set_option maxRecDepth 20000 in
theorem dX1_keepHirings_17 : decode cX1_keepHirings 17 = .ok (.ifCond .eq 12, 3) := by decide +kernel
set_option maxRecDepth 20000 in
theorem dX1_keepHirings_20 : decode cX1_keepHirings 20 = .ok (.aload_n 0, 1) := by decide +kernel
set_option maxRecDepth 20000 in
theorem dX1_keepHirings_21 : decode cX1_keepHirings 21 = .ok (.iload_n 3, 1) := by decide +kernel
set_option maxRecDepth 20000 in
theorem dX1_keepHirings_22 : decode cX1_keepHirings 22 = .ok (.iload_n 2, 1) := by decide +kernel
set_option maxRecDepth 20000 in
theorem dX1_keepHirings_23 : decode cX1_keepHirings 23 = .ok (.invokevirtual 69, 3) := by decide +kernel
set_option maxRecDepth 20000 in
theorem dX1_keepHirings_26 : decode cX1_keepHirings 26 = .ok (.iinc 2 1, 3) := by decide +kernel
set_option maxRecDepth 20000 in
theorem dX1_keepHirings_29 : decode cX1_keepHirings 29 = .ok (.iinc 3 1, 3) := by decide +kernel
set_option maxRecDepth 20000 in
theorem dX1_keepHirings_32 : decode cX1_keepHirings 32 = .ok (.goto (-28), 3) := by decide +kernel
set_option maxRecDepth 20000 in
theorem dX1_keepHirings_35 : decode cX1_keepHirings 35 = .ok (.aload_n 0, 1) := by decide +kernel
set_option maxRecDepth 20000 in
theorem dX1_keepHirings_36 : decode cX1_keepHirings 36 = .ok (.iload_n 2, 1) := by decide +kernel
set_option maxRecDepth 20000 in
theorem dX1_keepHirings_37 : decode cX1_keepHirings 37 = .ok (.putfield 56, 3) := by decide +kernel
set_option maxRecDepth 20000 in
theorem dX1_keepHirings_40 : decode cX1_keepHirings 40 = .ok (.return_, 1) := by decide +kernel
set_option maxRecDepth 20000 in
theorem dX1_moveHiring_0 : decode cX1_moveHiring 0 = .ok (.aload_n 0, 1) := by decide +kernel
set_option maxRecDepth 20000 in
theorem dX1_moveHiring_1 : decode cX1_moveHiring 1 = .ok (.getfield 24, 3) := by decide +kernel
set_option maxRecDepth 20000 in
theorem dX1_moveHiring_4 : decode cX1_moveHiring 4 = .ok (.iload_n 2, 1) := by decide +kernel
set_option maxRecDepth 20000 in
theorem dX1_moveHiring_5 : decode cX1_moveHiring 5 = .ok (.aload_n 0, 1) := by decide +kernel
set_option maxRecDepth 20000 in
theorem dX1_moveHiring_6 : decode cX1_moveHiring 6 = .ok (.getfield 24, 3) := by decide +kernel
set_option maxRecDepth 20000 in
theorem dX1_moveHiring_9 : decode cX1_moveHiring 9 = .ok (.iload_n 1, 1) := by decide +kernel
set_option maxRecDepth 20000 in
theorem dX1_moveHiring_10 : decode cX1_moveHiring 10 = .ok (.iaload, 1) := by decide +kernel
set_option maxRecDepth 20000 in
theorem dX1_moveHiring_11 : decode cX1_moveHiring 11 = .ok (.iastore, 1) := by decide +kernel
set_option maxRecDepth 20000 in
theorem dX1_moveHiring_12 : decode cX1_moveHiring 12 = .ok (.aload_n 0, 1) := by decide +kernel
set_option maxRecDepth 20000 in
theorem dX1_moveHiring_13 : decode cX1_moveHiring 13 = .ok (.getfield 27, 3) := by decide +kernel
set_option maxRecDepth 20000 in
theorem dX1_moveHiring_16 : decode cX1_moveHiring 16 = .ok (.iload_n 2, 1) := by decide +kernel
set_option maxRecDepth 20000 in
theorem dX1_moveHiring_17 : decode cX1_moveHiring 17 = .ok (.aload_n 0, 1) := by decide +kernel
set_option maxRecDepth 20000 in
theorem dX1_moveHiring_18 : decode cX1_moveHiring 18 = .ok (.getfield 27, 3) := by decide +kernel
set_option maxRecDepth 20000 in
theorem dX1_moveHiring_21 : decode cX1_moveHiring 21 = .ok (.iload_n 1, 1) := by decide +kernel
set_option maxRecDepth 20000 in
theorem dX1_moveHiring_22 : decode cX1_moveHiring 22 = .ok (.iaload, 1) := by decide +kernel
set_option maxRecDepth 20000 in
theorem dX1_moveHiring_23 : decode cX1_moveHiring 23 = .ok (.iastore, 1) := by decide +kernel
set_option maxRecDepth 20000 in
theorem dX1_moveHiring_24 : decode cX1_moveHiring 24 = .ok (.aload_n 0, 1) := by decide +kernel
set_option maxRecDepth 20000 in
theorem dX1_moveHiring_25 : decode cX1_moveHiring 25 = .ok (.getfield 30, 3) := by decide +kernel
set_option maxRecDepth 20000 in
theorem dX1_moveHiring_28 : decode cX1_moveHiring 28 = .ok (.iload_n 2, 1) := by decide +kernel
set_option maxRecDepth 20000 in
theorem dX1_moveHiring_29 : decode cX1_moveHiring 29 = .ok (.aload_n 0, 1) := by decide +kernel
set_option maxRecDepth 20000 in
theorem dX1_moveHiring_30 : decode cX1_moveHiring 30 = .ok (.getfield 30, 3) := by decide +kernel
set_option maxRecDepth 20000 in
theorem dX1_moveHiring_33 : decode cX1_moveHiring 33 = .ok (.iload_n 1, 1) := by decide +kernel
set_option maxRecDepth 20000 in
theorem dX1_moveHiring_34 : decode cX1_moveHiring 34 = .ok (.iaload, 1) := by decide +kernel
set_option maxRecDepth 20000 in
theorem dX1_moveHiring_35 : decode cX1_moveHiring 35 = .ok (.iastore, 1) := by decide +kernel
set_option maxRecDepth 20000 in
theorem dX1_moveHiring_36 : decode cX1_moveHiring 36 = .ok (.return_, 1) := by decide +kernel
set_option maxRecDepth 20000 in
theorem dX1_changeDrawers_0 : decode cX1_changeDrawers 0 = .ok (.aload_n 0, 1) := by decide +kernel
set_option maxRecDepth 20000 in
theorem dX1_changeDrawers_1 : decode cX1_changeDrawers 1 = .ok (.iload_n 1, 1) := by decide +kernel
set_option maxRecDepth 20000 in
theorem dX1_changeDrawers_2 : decode cX1_changeDrawers 2 = .ok (.invokevirtual 73, 3) := by decide +kernel
set_option maxRecDepth 20000 in
theorem dX1_changeDrawers_5 : decode cX1_changeDrawers 5 = .ok (.ifCond .eq 11, 3) := by decide +kernel
set_option maxRecDepth 20000 in
theorem dX1_changeDrawers_8 : decode cX1_changeDrawers 8 = .ok (.aload_n 0, 1) := by decide +kernel
set_option maxRecDepth 20000 in
theorem dX1_changeDrawers_9 : decode cX1_changeDrawers 9 = .ok (.iload_n 2, 1) := by decide +kernel
set_option maxRecDepth 20000 in
theorem dX1_changeDrawers_10 : decode cX1_changeDrawers 10 = .ok (.invokevirtual 73, 3) := by decide +kernel
set_option maxRecDepth 20000 in
theorem dX1_changeDrawers_13 : decode cX1_changeDrawers 13 = .ok (.ifCond .ne 4, 3) := by decide +kernel
set_option maxRecDepth 20000 in
theorem dX1_changeDrawers_16 : decode cX1_changeDrawers 16 = .ok (.return_, 1) := by decide +kernel
set_option maxRecDepth 20000 in
theorem dX1_changeDrawers_17 : decode cX1_changeDrawers 17 = .ok (.aload_n 0, 1) := by decide +kernel
set_option maxRecDepth 20000 in
theorem dX1_changeDrawers_18 : decode cX1_changeDrawers 18 = .ok (.getfield 9, 3) := by decide +kernel
set_option maxRecDepth 20000 in
theorem dX1_changeDrawers_21 : decode cX1_changeDrawers 21 = .ok (.iload_n 1, 1) := by decide +kernel
set_option maxRecDepth 20000 in
theorem dX1_changeDrawers_22 : decode cX1_changeDrawers 22 = .ok (.iaload, 1) := by decide +kernel
set_option maxRecDepth 20000 in
theorem dX1_changeDrawers_23 : decode cX1_changeDrawers 23 = .ok (.istore_n 3, 1) := by decide +kernel
set_option maxRecDepth 20000 in
theorem dX1_changeDrawers_24 : decode cX1_changeDrawers 24 = .ok (.aload_n 0, 1) := by decide +kernel
set_option maxRecDepth 20000 in
theorem dX1_changeDrawers_25 : decode cX1_changeDrawers 25 = .ok (.getfield 9, 3) := by decide +kernel
set_option maxRecDepth 20000 in
theorem dX1_changeDrawers_28 : decode cX1_changeDrawers 28 = .ok (.iload_n 1, 1) := by decide +kernel
set_option maxRecDepth 20000 in
theorem dX1_changeDrawers_29 : decode cX1_changeDrawers 29 = .ok (.aload_n 0, 1) := by decide +kernel
set_option maxRecDepth 20000 in
theorem dX1_changeDrawers_30 : decode cX1_changeDrawers 30 = .ok (.getfield 9, 3) := by decide +kernel
set_option maxRecDepth 20000 in
theorem dX1_changeDrawers_33 : decode cX1_changeDrawers 33 = .ok (.iload_n 2, 1) := by decide +kernel
set_option maxRecDepth 20000 in
theorem dX1_changeDrawers_34 : decode cX1_changeDrawers 34 = .ok (.iaload, 1) := by decide +kernel
set_option maxRecDepth 20000 in
theorem dX1_changeDrawers_35 : decode cX1_changeDrawers 35 = .ok (.iastore, 1) := by decide +kernel
set_option maxRecDepth 20000 in
theorem dX1_changeDrawers_36 : decode cX1_changeDrawers 36 = .ok (.aload_n 0, 1) := by decide +kernel
set_option maxRecDepth 20000 in
theorem dX1_changeDrawers_37 : decode cX1_changeDrawers 37 = .ok (.getfield 9, 3) := by decide +kernel
set_option maxRecDepth 20000 in
theorem dX1_changeDrawers_40 : decode cX1_changeDrawers 40 = .ok (.iload_n 2, 1) := by decide +kernel
set_option maxRecDepth 20000 in
theorem dX1_changeDrawers_41 : decode cX1_changeDrawers 41 = .ok (.iload_n 3, 1) := by decide +kernel
set_option maxRecDepth 20000 in
theorem dX1_changeDrawers_42 : decode cX1_changeDrawers 42 = .ok (.iastore, 1) := by decide +kernel
set_option maxRecDepth 20000 in
theorem dX1_changeDrawers_43 : decode cX1_changeDrawers 43 = .ok (.iconst 0, 1) := by decide +kernel
set_option maxRecDepth 20000 in
theorem dX1_changeDrawers_44 : decode cX1_changeDrawers 44 = .ok (.istore 4, 2) := by decide +kernel
set_option maxRecDepth 20000 in
theorem dX1_changeDrawers_46 : decode cX1_changeDrawers 46 = .ok (.iload 4, 2) := by decide +kernel
set_option maxRecDepth 20000 in
theorem dX1_changeDrawers_48 : decode cX1_changeDrawers 48 = .ok (.iconst 5, 1) := by decide +kernel
set_option maxRecDepth 20000 in
theorem dX1_changeDrawers_49 : decode cX1_changeDrawers 49 = .ok (.if_icmp .ge 57, 3) := by decide +kernel
set_option maxRecDepth 20000 in
theorem dX1_changeDrawers_52 : decode cX1_changeDrawers 52 = .ok (.aload_n 0, 1) := by decide +kernel
set_option maxRecDepth 20000 in
theorem dX1_changeDrawers_53 : decode cX1_changeDrawers 53 = .ok (.getfield 15, 3) := by decide +kernel
set_option maxRecDepth 20000 in
theorem dX1_changeDrawers_56 : decode cX1_changeDrawers 56 = .ok (.iload_n 1, 1) := by decide +kernel
set_option maxRecDepth 20000 in
theorem dX1_changeDrawers_57 : decode cX1_changeDrawers 57 = .ok (.iconst 5, 1) := by decide +kernel
set_option maxRecDepth 20000 in
theorem dX1_changeDrawers_58 : decode cX1_changeDrawers 58 = .ok (.imul, 1) := by decide +kernel
set_option maxRecDepth 20000 in
theorem dX1_changeDrawers_59 : decode cX1_changeDrawers 59 = .ok (.iload 4, 2) := by decide +kernel
set_option maxRecDepth 20000 in
theorem dX1_changeDrawers_61 : decode cX1_changeDrawers 61 = .ok (.iadd, 1) := by decide +kernel
set_option maxRecDepth 20000 in
theorem dX1_changeDrawers_62 : decode cX1_changeDrawers 62 = .ok (.iaload, 1) := by decide +kernel
set_option maxRecDepth 20000 in
theorem dX1_changeDrawers_63 : decode cX1_changeDrawers 63 = .ok (.istore 5, 2) := by decide +kernel
set_option maxRecDepth 20000 in
theorem dX1_changeDrawers_65 : decode cX1_changeDrawers 65 = .ok (.aload_n 0, 1) := by decide +kernel
set_option maxRecDepth 20000 in
theorem dX1_changeDrawers_66 : decode cX1_changeDrawers 66 = .ok (.getfield 15, 3) := by decide +kernel
set_option maxRecDepth 20000 in
theorem dX1_changeDrawers_69 : decode cX1_changeDrawers 69 = .ok (.iload_n 1, 1) := by decide +kernel
set_option maxRecDepth 20000 in
theorem dX1_changeDrawers_70 : decode cX1_changeDrawers 70 = .ok (.iconst 5, 1) := by decide +kernel
set_option maxRecDepth 20000 in
theorem dX1_changeDrawers_71 : decode cX1_changeDrawers 71 = .ok (.imul, 1) := by decide +kernel
set_option maxRecDepth 20000 in
theorem dX1_changeDrawers_72 : decode cX1_changeDrawers 72 = .ok (.iload 4, 2) := by decide +kernel
set_option maxRecDepth 20000 in
theorem dX1_changeDrawers_74 : decode cX1_changeDrawers 74 = .ok (.iadd, 1) := by decide +kernel
set_option maxRecDepth 20000 in
theorem dX1_changeDrawers_75 : decode cX1_changeDrawers 75 = .ok (.aload_n 0, 1) := by decide +kernel
set_option maxRecDepth 20000 in
theorem dX1_changeDrawers_76 : decode cX1_changeDrawers 76 = .ok (.getfield 15, 3) := by decide +kernel
set_option maxRecDepth 20000 in
theorem dX1_changeDrawers_79 : decode cX1_changeDrawers 79 = .ok (.iload_n 2, 1) := by decide +kernel
set_option maxRecDepth 20000 in
theorem dX1_changeDrawers_80 : decode cX1_changeDrawers 80 = .ok (.iconst 5, 1) := by decide +kernel
set_option maxRecDepth 20000 in
theorem dX1_changeDrawers_81 : decode cX1_changeDrawers 81 = .ok (.imul, 1) := by decide +kernel
set_option maxRecDepth 20000 in
theorem dX1_changeDrawers_82 : decode cX1_changeDrawers 82 = .ok (.iload 4, 2) := by decide +kernel
set_option maxRecDepth 20000 in
theorem dX1_changeDrawers_84 : decode cX1_changeDrawers 84 = .ok (.iadd, 1) := by decide +kernel
set_option maxRecDepth 20000 in
theorem dX1_changeDrawers_85 : decode cX1_changeDrawers 85 = .ok (.iaload, 1) := by decide +kernel
set_option maxRecDepth 20000 in
theorem dX1_changeDrawers_86 : decode cX1_changeDrawers 86 = .ok (.iastore, 1) := by decide +kernel
set_option maxRecDepth 20000 in
theorem dX1_changeDrawers_87 : decode cX1_changeDrawers 87 = .ok (.aload_n 0, 1) := by decide +kernel
set_option maxRecDepth 20000 in
theorem dX1_changeDrawers_88 : decode cX1_changeDrawers 88 = .ok (.getfield 15, 3) := by decide +kernel
set_option maxRecDepth 20000 in
theorem dX1_changeDrawers_91 : decode cX1_changeDrawers 91 = .ok (.iload_n 2, 1) := by decide +kernel
set_option maxRecDepth 20000 in
theorem dX1_changeDrawers_92 : decode cX1_changeDrawers 92 = .ok (.iconst 5, 1) := by decide +kernel
set_option maxRecDepth 20000 in
theorem dX1_changeDrawers_93 : decode cX1_changeDrawers 93 = .ok (.imul, 1) := by decide +kernel
set_option maxRecDepth 20000 in
theorem dX1_changeDrawers_94 : decode cX1_changeDrawers 94 = .ok (.iload 4, 2) := by decide +kernel
set_option maxRecDepth 20000 in
theorem dX1_changeDrawers_96 : decode cX1_changeDrawers 96 = .ok (.iadd, 1) := by decide +kernel
set_option maxRecDepth 20000 in
theorem dX1_changeDrawers_97 : decode cX1_changeDrawers 97 = .ok (.iload 5, 2) := by decide +kernel
set_option maxRecDepth 20000 in
theorem dX1_changeDrawers_99 : decode cX1_changeDrawers 99 = .ok (.iastore, 1) := by decide +kernel
set_option maxRecDepth 20000 in
theorem dX1_changeDrawers_100 : decode cX1_changeDrawers 100 = .ok (.iinc 4 1, 3) := by decide +kernel
set_option maxRecDepth 20000 in
theorem dX1_changeDrawers_103 : decode cX1_changeDrawers 103 = .ok (.goto (-57), 3) := by decide +kernel
set_option maxRecDepth 20000 in
theorem dX1_changeDrawers_106 : decode cX1_changeDrawers 106 = .ok (.iconst 0, 1) := by decide +kernel
set_option maxRecDepth 20000 in
theorem dX1_changeDrawers_107 : decode cX1_changeDrawers 107 = .ok (.istore 4, 2) := by decide +kernel
set_option maxRecDepth 20000 in
theorem dX1_changeDrawers_109 : decode cX1_changeDrawers 109 = .ok (.iload 4, 2) := by decide +kernel
set_option maxRecDepth 20000 in
theorem dX1_changeDrawers_111 : decode cX1_changeDrawers 111 = .ok (.aload_n 0, 1) := by decide +kernel
set_option maxRecDepth 20000 in
theorem dX1_changeDrawers_112 : decode cX1_changeDrawers 112 = .ok (.getfield 37, 3) := by decide +kernel
set_option maxRecDepth 20000 in
theorem dX1_changeDrawers_115 : decode cX1_changeDrawers 115 = .ok (.if_icmp .ge 28, 3) := by decide +kernel
set_option maxRecDepth 20000 in
theorem dX1_changeDrawers_118 : decode cX1_changeDrawers 118 = .ok (.aload_n 0, 1) := by decide +kernel
set_option maxRecDepth 20000 in
theorem dX1_changeDrawers_119 : decode cX1_changeDrawers 119 = .ok (.getfield 21, 3) := by decide +kernel
set_option maxRecDepth 20000 in
theorem dX1_changeDrawers_122 : decode cX1_changeDrawers 122 = .ok (.iload 4, 2) := by decide +kernel
set_option maxRecDepth 20000 in
theorem dX1_changeDrawers_124 : decode cX1_changeDrawers 124 = .ok (.aload_n 0, 1) := by decide +kernel
set_option maxRecDepth 20000 in
theorem dX1_changeDrawers_125 : decode cX1_changeDrawers 125 = .ok (.getfield 21, 3) := by decide +kernel
set_option maxRecDepth 20000 in
theorem dX1_changeDrawers_128 : decode cX1_changeDrawers 128 = .ok (.iload 4, 2) := by decide +kernel
set_option maxRecDepth 20000 in
theorem dX1_changeDrawers_130 : decode cX1_changeDrawers 130 = .ok (.iaload, 1) := by decide +kernel
set_option maxRecDepth 20000 in
theorem dX1_changeDrawers_131 : decode cX1_changeDrawers 131 = .ok (.iload_n 1, 1) := by decide +kernel
set_option maxRecDepth 20000 in
theorem dX1_changeDrawers_132 : decode cX1_changeDrawers 132 = .ok (.iload_n 2, 1) := by decide +kernel
set_option maxRecDepth 20000 in
theorem dX1_changeDrawers_133 : decode cX1_changeDrawers 133 = .ok (.invokestatic 77, 3) := by decide +kernel
set_option maxRecDepth 20000 in
theorem dX1_changeDrawers_136 : decode cX1_changeDrawers 136 = .ok (.iastore, 1) := by decide +kernel
set_option maxRecDepth 20000 in
theorem dX1_changeDrawers_137 : decode cX1_changeDrawers 137 = .ok (.iinc 4 1, 3) := by decide +kernel
set_option maxRecDepth 20000 in
theorem dX1_changeDrawers_140 : decode cX1_changeDrawers 140 = .ok (.goto (-31), 3) := by decide +kernel
set_option maxRecDepth 20000 in
theorem dX1_changeDrawers_143 : decode cX1_changeDrawers 143 = .ok (.iconst 0, 1) := by decide +kernel
set_option maxRecDepth 20000 in
theorem dX1_changeDrawers_144 : decode cX1_changeDrawers 144 = .ok (.istore 4, 2) := by decide +kernel
set_option maxRecDepth 20000 in
theorem dX1_changeDrawers_146 : decode cX1_changeDrawers 146 = .ok (.iload 4, 2) := by decide +kernel
set_option maxRecDepth 20000 in
theorem dX1_changeDrawers_148 : decode cX1_changeDrawers 148 = .ok (.aload_n 0, 1) := by decide +kernel
set_option maxRecDepth 20000 in
theorem dX1_changeDrawers_149 : decode cX1_changeDrawers 149 = .ok (.getfield 56, 3) := by decide +kernel
set_option maxRecDepth 20000 in
theorem dX1_changeDrawers_152 : decode cX1_changeDrawers 152 = .ok (.if_icmp .ge 28, 3) := by decide +kernel
set_option maxRecDepth 20000 in
theorem dX1_changeDrawers_155 : decode cX1_changeDrawers 155 = .ok (.aload_n 0, 1) := by decide +kernel
set_option maxRecDepth 20000 in
theorem dX1_changeDrawers_156 : decode cX1_changeDrawers 156 = .ok (.getfield 30, 3) := by decide +kernel
set_option maxRecDepth 20000 in
theorem dX1_changeDrawers_159 : decode cX1_changeDrawers 159 = .ok (.iload 4, 2) := by decide +kernel
set_option maxRecDepth 20000 in
theorem dX1_changeDrawers_161 : decode cX1_changeDrawers 161 = .ok (.aload_n 0, 1) := by decide +kernel
set_option maxRecDepth 20000 in
theorem dX1_changeDrawers_162 : decode cX1_changeDrawers 162 = .ok (.getfield 30, 3) := by decide +kernel
set_option maxRecDepth 20000 in
theorem dX1_changeDrawers_165 : decode cX1_changeDrawers 165 = .ok (.iload 4, 2) := by decide +kernel
set_option maxRecDepth 20000 in
theorem dX1_changeDrawers_167 : decode cX1_changeDrawers 167 = .ok (.iaload, 1) := by decide +kernel
set_option maxRecDepth 20000 in
theorem dX1_changeDrawers_168 : decode cX1_changeDrawers 168 = .ok (.iload_n 1, 1) := by decide +kernel
set_option maxRecDepth 20000 in
theorem dX1_changeDrawers_169 : decode cX1_changeDrawers 169 = .ok (.iload_n 2, 1) := by decide +kernel
set_option maxRecDepth 20000 in
theorem dX1_changeDrawers_170 : decode cX1_changeDrawers 170 = .ok (.invokestatic 77, 3) := by decide +kernel
set_option maxRecDepth 20000 in
theorem dX1_changeDrawers_173 : decode cX1_changeDrawers 173 = .ok (.iastore, 1) := by decide +kernel
set_option maxRecDepth 20000 in
theorem dX1_changeDrawers_174 : decode cX1_changeDrawers 174 = .ok (.iinc 4 1, 3) := by decide +kernel
set_option maxRecDepth 20000 in
theorem dX1_changeDrawers_177 : decode cX1_changeDrawers 177 = .ok (.goto (-31), 3) := by decide +kernel
set_option maxRecDepth 20000 in
theorem dX1_changeDrawers_180 : decode cX1_changeDrawers 180 = .ok (.return_, 1) := by decide +kernel
set_option maxRecDepth 20000 in
theorem dX1_changed_0 : decode cX1_changed 0 = .ok (.iload_n 0, 1) := by decide +kernel
set_option maxRecDepth 20000 in
theorem dX1_changed_1 : decode cX1_changed 1 = .ok (.iload_n 1, 1) := by decide +kernel
set_option maxRecDepth 20000 in
theorem dX1_changed_2 : decode cX1_changed 2 = .ok (.if_icmp .ne 5, 3) := by decide +kernel
set_option maxRecDepth 20000 in
theorem dX1_changed_5 : decode cX1_changed 5 = .ok (.iload_n 2, 1) := by decide +kernel
set_option maxRecDepth 20000 in
theorem dX1_changed_6 : decode cX1_changed 6 = .ok (.ireturn, 1) := by decide +kernel
set_option maxRecDepth 20000 in
theorem dX1_changed_7 : decode cX1_changed 7 = .ok (.iload_n 0, 1) := by decide +kernel
set_option maxRecDepth 20000 in
theorem dX1_changed_8 : decode cX1_changed 8 = .ok (.iload_n 2, 1) := by decide +kernel
set_option maxRecDepth 20000 in
theorem dX1_changed_9 : decode cX1_changed 9 = .ok (.if_icmp .ne 7, 3) := by decide +kernel
set_option maxRecDepth 20000 in
theorem dX1_changed_12 : decode cX1_changed 12 = .ok (.iload_n 1, 1) := by decide +kernel
set_option maxRecDepth 20000 in
theorem dX1_changed_13 : decode cX1_changed 13 = .ok (.goto 4, 3) := by decide +kernel
set_option maxRecDepth 20000 in
theorem dX1_changed_16 : decode cX1_changed 16 = .ok (.iload_n 0, 1) := by decide +kernel
set_option maxRecDepth 20000 in
theorem dX1_changed_17 : decode cX1_changed 17 = .ok (.ireturn, 1) := by decide +kernel
set_option maxRecDepth 20000 in
theorem dX2_init_0 : decode cX2_init 0 = .ok (.aload_n 0, 1) := by decide +kernel
set_option maxRecDepth 20000 in
theorem dX2_init_1 : decode cX2_init 1 = .ok (.invokespecial 3, 3) := by decide +kernel
set_option maxRecDepth 20000 in
theorem dX2_init_4 : decode cX2_init 4 = .ok (.aload_n 0, 1) := by decide +kernel
set_option maxRecDepth 20000 in
theorem dX2_init_5 : decode cX2_init 5 = .ok (.iconst (-1), 1) := by decide +kernel
set_option maxRecDepth 20000 in
theorem dX2_init_6 : decode cX2_init 6 = .ok (.putfield 9, 3) := by decide +kernel
set_option maxRecDepth 20000 in
theorem dX2_init_9 : decode cX2_init 9 = .ok (.aload_n 0, 1) := by decide +kernel
set_option maxRecDepth 20000 in
theorem dX2_init_10 : decode cX2_init 10 = .ok (.iconst 0, 1) := by decide +kernel
set_option maxRecDepth 20000 in
theorem dX2_init_11 : decode cX2_init 11 = .ok (.putfield 15, 3) := by decide +kernel
set_option maxRecDepth 20000 in
theorem dX2_init_14 : decode cX2_init 14 = .ok (.aload_n 0, 1) := by decide +kernel
set_option maxRecDepth 20000 in
theorem dX2_init_15 : decode cX2_init 15 = .ok (.bipush 60, 2) := by decide +kernel
set_option maxRecDepth 20000 in
theorem dX2_init_17 : decode cX2_init 17 = .ok (.newarray .int, 2) := by decide +kernel
set_option maxRecDepth 20000 in
theorem dX2_init_19 : decode cX2_init 19 = .ok (.putfield 18, 3) := by decide +kernel
set_option maxRecDepth 20000 in
theorem dX2_init_22 : decode cX2_init 22 = .ok (.return_, 1) := by decide +kernel
set_option maxRecDepth 20000 in
theorem dX2_renew_0 : decode cX2_renew 0 = .ok (.aload_n 0, 1) := by decide +kernel
set_option maxRecDepth 20000 in
theorem dX2_renew_1 : decode cX2_renew 1 = .ok (.iload_n 1, 1) := by decide +kernel
set_option maxRecDepth 20000 in
theorem dX2_renew_2 : decode cX2_renew 2 = .ok (.putfield 9, 3) := by decide +kernel
set_option maxRecDepth 20000 in
theorem dX2_renew_5 : decode cX2_renew 5 = .ok (.aload_n 0, 1) := by decide +kernel
set_option maxRecDepth 20000 in
theorem dX2_renew_6 : decode cX2_renew 6 = .ok (.iload_n 2, 1) := by decide +kernel
set_option maxRecDepth 20000 in
theorem dX2_renew_7 : decode cX2_renew 7 = .ok (.putfield 15, 3) := by decide +kernel
set_option maxRecDepth 20000 in
theorem dX2_renew_10 : decode cX2_renew 10 = .ok (.iconst 0, 1) := by decide +kernel
set_option maxRecDepth 20000 in
theorem dX2_renew_11 : decode cX2_renew 11 = .ok (.istore_n 3, 1) := by decide +kernel
set_option maxRecDepth 20000 in
theorem dX2_renew_12 : decode cX2_renew 12 = .ok (.iload_n 3, 1) := by decide +kernel
set_option maxRecDepth 20000 in
theorem dX2_renew_13 : decode cX2_renew 13 = .ok (.bipush 60, 2) := by decide +kernel
set_option maxRecDepth 20000 in
theorem dX2_renew_15 : decode cX2_renew 15 = .ok (.if_icmp .ge 16, 3) := by decide +kernel
set_option maxRecDepth 20000 in
theorem dX2_renew_18 : decode cX2_renew 18 = .ok (.aload_n 0, 1) := by decide +kernel
set_option maxRecDepth 20000 in
theorem dX2_renew_19 : decode cX2_renew 19 = .ok (.getfield 18, 3) := by decide +kernel
set_option maxRecDepth 20000 in
theorem dX2_renew_22 : decode cX2_renew 22 = .ok (.iload_n 3, 1) := by decide +kernel
set_option maxRecDepth 20000 in
theorem dX2_renew_23 : decode cX2_renew 23 = .ok (.iconst 0, 1) := by decide +kernel
set_option maxRecDepth 20000 in
theorem dX2_renew_24 : decode cX2_renew 24 = .ok (.iastore, 1) := by decide +kernel
set_option maxRecDepth 20000 in
theorem dX2_renew_25 : decode cX2_renew 25 = .ok (.iinc 3 1, 3) := by decide +kernel
set_option maxRecDepth 20000 in
theorem dX2_renew_28 : decode cX2_renew 28 = .ok (.goto (-16), 3) := by decide +kernel
set_option maxRecDepth 20000 in
theorem dX2_renew_31 : decode cX2_renew 31 = .ok (.return_, 1) := by decide +kernel
set_option maxRecDepth 20000 in
theorem dX2_put_0 : decode cX2_put 0 = .ok (.iload_n 1, 1) := by decide +kernel
set_option maxRecDepth 20000 in
theorem dX2_put_1 : decode cX2_put 1 = .ok (.aload_n 0, 1) := by decide +kernel
set_option maxRecDepth 20000 in
theorem dX2_put_2 : decode cX2_put 2 = .ok (.getfield 15, 3) := by decide +kernel
set_option maxRecDepth 20000 in
theorem dX2_put_5 : decode cX2_put 5 = .ok (.invokestatic 22, 3) := by decide +kernel
set_option maxRecDepth 20000 in
theorem dX2_put_8 : decode cX2_put 8 = .ok (.ifCond .ne 4, 3) := by decide +kernel
set_option maxRecDepth 20000 in
theorem dX2_put_11 : decode cX2_put 11 = .ok (.return_, 1) := by decide +kernel
set_option maxRecDepth 20000 in
theorem dX2_put_12 : decode cX2_put 12 = .ok (.aload_n 0, 1) := by decide +kernel
set_option maxRecDepth 20000 in
theorem dX2_put_13 : decode cX2_put 13 = .ok (.getfield 18, 3) := by decide +kernel
set_option maxRecDepth 20000 in
theorem dX2_put_16 : decode cX2_put 16 = .ok (.iload_n 1, 1) := by decide +kernel
set_option maxRecDepth 20000 in
theorem dX2_put_17 : decode cX2_put 17 = .ok (.aload_n 0, 1) := by decide +kernel
set_option maxRecDepth 20000 in
theorem dX2_put_18 : decode cX2_put 18 = .ok (.getfield 9, 3) := by decide +kernel
set_option maxRecDepth 20000 in
theorem dX2_put_21 : decode cX2_put 21 = .ok (.ifCond .ne 8, 3) := by decide +kernel
set_option maxRecDepth 20000 in
theorem dX2_put_24 : decode cX2_put 24 = .ok (.iload_n 2, 1) := by decide +kernel
set_option maxRecDepth 20000 in
theorem dX2_put_25 : decode cX2_put 25 = .ok (.i2b, 1) := by decide +kernel
set_option maxRecDepth 20000 in
theorem dX2_put_26 : decode cX2_put 26 = .ok (.goto 17, 3) := by decide +kernel
set_option maxRecDepth 20000 in
theorem dX2_put_29 : decode cX2_put 29 = .ok (.aload_n 0, 1) := by decide +kernel
set_option maxRecDepth 20000 in
theorem dX2_put_30 : decode cX2_put 30 = .ok (.getfield 9, 3) := by decide +kernel
set_option maxRecDepth 20000 in
theorem dX2_put_33 : decode cX2_put 33 = .ok (.iconst 1, 1) := by decide +kernel
set_option maxRecDepth 20000 in
theorem dX2_put_34 : decode cX2_put 34 = .ok (.if_icmp .ne 8, 3) := by decide +kernel
set_option maxRecDepth 20000 in
theorem dX2_put_37 : decode cX2_put 37 = .ok (.iload_n 2, 1) := by decide +kernel
set_option maxRecDepth 20000 in
theorem dX2_put_38 : decode cX2_put 38 = .ok (.i2s, 1) := by decide +kernel
set_option maxRecDepth 20000 in
theorem dX2_put_39 : decode cX2_put 39 = .ok (.goto 4, 3) := by decide +kernel
set_option maxRecDepth 20000 in
theorem dX2_put_42 : decode cX2_put 42 = .ok (.iload_n 2, 1) := by decide +kernel
set_option maxRecDepth 20000 in
theorem dX2_put_43 : decode cX2_put 43 = .ok (.iastore, 1) := by decide +kernel
set_option maxRecDepth 20000 in
theorem dX2_put_44 : decode cX2_put 44 = .ok (.return_, 1) := by decide +kernel
set_option maxRecDepth 20000 in
theorem dX2_whatIsWrong_0 : decode cX2_whatIsWrong 0 = .ok (.aload_n 0, 1) := by decide +kernel
set_option maxRecDepth 20000 in
theorem dX2_whatIsWrong_1 : decode cX2_whatIsWrong 1 = .ok (.getfield 9, 3) := by decide +kernel
set_option maxRecDepth 20000 in
theorem dX2_whatIsWrong_4 : decode cX2_whatIsWrong 4 = .ok (.iconst (-1), 1) := by decide +kernel
set_option maxRecDepth 20000 in
theorem dX2_whatIsWrong_5 : decode cX2_whatIsWrong 5 = .ok (.if_icmp .ne 5, 3) := by decide +kernel
set_option maxRecDepth 20000 in
theorem dX2_whatIsWrong_8 : decode cX2_whatIsWrong 8 = .ok (.iconst 1, 1) := by decide +kernel
set_option maxRecDepth 20000 in
theorem dX2_whatIsWrong_9 : decode cX2_whatIsWrong 9 = .ok (.ireturn, 1) := by decide +kernel
set_option maxRecDepth 20000 in
theorem dX2_whatIsWrong_10 : decode cX2_whatIsWrong 10 = .ok (.aload_n 0, 1) := by decide +kernel
set_option maxRecDepth 20000 in
theorem dX2_whatIsWrong_11 : decode cX2_whatIsWrong 11 = .ok (.getfield 9, 3) := by decide +kernel
set_option maxRecDepth 20000 in
theorem dX2_whatIsWrong_14 : decode cX2_whatIsWrong 14 = .ok (.iload_n 1, 1) := by decide +kernel
set_option maxRecDepth 20000 in
theorem dX2_whatIsWrong_15 : decode cX2_whatIsWrong 15 = .ok (.if_icmp .eq 5, 3) := by decide +kernel
set_option maxRecDepth 20000 in
theorem dX2_whatIsWrong_18 : decode cX2_whatIsWrong 18 = .ok (.iconst 3, 1) := by decide +kernel
set_option maxRecDepth 20000 in
theorem dX2_whatIsWrong_19 : decode cX2_whatIsWrong 19 = .ok (.ireturn, 1) := by decide +kernel
set_option maxRecDepth 20000 in
theorem dX2_whatIsWrong_20 : decode cX2_whatIsWrong 20 = .ok (.iload_n 2, 1) := by decide +kernel
set_option maxRecDepth 20000 in
theorem dX2_whatIsWrong_21 : decode cX2_whatIsWrong 21 = .ok (.aload_n 0, 1) := by decide +kernel
set_option maxRecDepth 20000 in
theorem dX2_whatIsWrong_22 : decode cX2_whatIsWrong 22 = .ok (.getfield 15, 3) := by decide +kernel
set_option maxRecDepth 20000 in
theorem dX2_whatIsWrong_25 : decode cX2_whatIsWrong 25 = .ok (.invokestatic 22, 3) := by decide +kernel
set_option maxRecDepth 20000 in
theorem dX2_whatIsWrong_28 : decode cX2_whatIsWrong 28 = .ok (.ifCond .eq 7, 3) := by decide +kernel
set_option maxRecDepth 20000 in
theorem dX2_whatIsWrong_31 : decode cX2_whatIsWrong 31 = .ok (.iconst 0, 1) := by decide +kernel
set_option maxRecDepth 20000 in
theorem dX2_whatIsWrong_32 : decode cX2_whatIsWrong 32 = .ok (.goto 4, 3) := by decide +kernel
set_option maxRecDepth 20000 in
theorem dX2_whatIsWrong_35 : decode cX2_whatIsWrong 35 = .ok (.iconst 2, 1) := by decide +kernel
set_option maxRecDepth 20000 in
theorem dX2_whatIsWrong_36 : decode cX2_whatIsWrong 36 = .ok (.ireturn, 1) := by decide +kernel
set_option maxRecDepth 20000 in
theorem dX2_hasItems_0 : decode cX2_hasItems 0 = .ok (.iload_n 1, 1) := by decide +kernel
set_option maxRecDepth 20000 in
theorem dX2_hasItems_1 : decode cX2_hasItems 1 = .ok (.ifCond .lt 21, 3) := by decide +kernel
set_option maxRecDepth 20000 in
theorem dX2_hasItems_4 : decode cX2_hasItems 4 = .ok (.iload_n 2, 1) := by decide +kernel
set_option maxRecDepth 20000 in
theorem dX2_hasItems_5 : decode cX2_hasItems 5 = .ok (.ifCond .lt 17, 3) := by decide +kernel
set_option maxRecDepth 20000 in
theorem dX2_hasItems_8 : decode cX2_hasItems 8 = .ok (.iload_n 2, 1) := by decide +kernel
set_option maxRecDepth 20000 in
theorem dX2_hasItems_9 : decode cX2_hasItems 9 = .ok (.aload_n 0, 1) := by decide +kernel
set_option maxRecDepth 20000 in
theorem dX2_hasItems_10 : decode cX2_hasItems 10 = .ok (.getfield 15, 3) := by decide +kernel
set_option maxRecDepth 20000 in
theorem dX2_hasItems_13 : decode cX2_hasItems 13 = .ok (.iload_n 1, 1) := by decide +kernel
set_option maxRecDepth 20000 in
theorem dX2_hasItems_14 : decode cX2_hasItems 14 = .ok (.isub, 1) := by decide +kernel
set_option maxRecDepth 20000 in
theorem dX2_hasItems_15 : decode cX2_hasItems 15 = .ok (.if_icmp .gt 7, 3) := by decide +kernel
set_option maxRecDepth 20000 in
theorem dX2_hasItems_18 : decode cX2_hasItems 18 = .ok (.iconst 1, 1) := by decide +kernel
set_option maxRecDepth 20000 in
theorem dX2_hasItems_19 : decode cX2_hasItems 19 = .ok (.goto 4, 3) := by decide +kernel
set_option maxRecDepth 20000 in
theorem dX2_hasItems_22 : decode cX2_hasItems 22 = .ok (.iconst 0, 1) := by decide +kernel
set_option maxRecDepth 20000 in
theorem dX2_hasItems_23 : decode cX2_hasItems 23 = .ok (.ireturn, 1) := by decide +kernel
set_option maxRecDepth 20000 in
theorem dX3_init_0 : decode cX3_init 0 = .ok (.aload_n 0, 1) := by decide +kernel
set_option maxRecDepth 20000 in
theorem dX3_init_1 : decode cX3_init 1 = .ok (.invokespecial 3, 3) := by decide +kernel
set_option maxRecDepth 20000 in
theorem dX3_init_4 : decode cX3_init 4 = .ok (.aload_n 0, 1) := by decide +kernel
set_option maxRecDepth 20000 in
theorem dX3_init_5 : decode cX3_init 5 = .ok (.aload_n 1, 1) := by decide +kernel
set_option maxRecDepth 20000 in
theorem dX3_init_6 : decode cX3_init 6 = .ok (.putfield 9, 3) := by decide +kernel
set_option maxRecDepth 20000 in
theorem dX3_init_9 : decode cX3_init 9 = .ok (.aload_n 0, 1) := by decide +kernel
set_option maxRecDepth 20000 in
theorem dX3_init_10 : decode cX3_init 10 = .ok (.aload_n 2, 1) := by decide +kernel
set_option maxRecDepth 20000 in
theorem dX3_init_11 : decode cX3_init 11 = .ok (.putfield 15, 3) := by decide +kernel
set_option maxRecDepth 20000 in
theorem dX3_init_14 : decode cX3_init 14 = .ok (.aload_n 0, 1) := by decide +kernel
set_option maxRecDepth 20000 in
theorem dX3_init_15 : decode cX3_init 15 = .ok (.iload_n 3, 1) := by decide +kernel
set_option maxRecDepth 20000 in
theorem dX3_init_16 : decode cX3_init 16 = .ok (.putfield 19, 3) := by decide +kernel
set_option maxRecDepth 20000 in
theorem dX3_init_19 : decode cX3_init 19 = .ok (.aload_n 0, 1) := by decide +kernel
set_option maxRecDepth 20000 in
theorem dX3_init_20 : decode cX3_init 20 = .ok (.iload 4, 2) := by decide +kernel
set_option maxRecDepth 20000 in
theorem dX3_init_22 : decode cX3_init 22 = .ok (.putfield 23, 3) := by decide +kernel
set_option maxRecDepth 20000 in
theorem dX3_init_25 : decode cX3_init 25 = .ok (.aload_n 0, 1) := by decide +kernel
set_option maxRecDepth 20000 in
theorem dX3_init_26 : decode cX3_init 26 = .ok (.iconst 0, 1) := by decide +kernel
set_option maxRecDepth 20000 in
theorem dX3_init_27 : decode cX3_init 27 = .ok (.putfield 26, 3) := by decide +kernel
set_option maxRecDepth 20000 in
theorem dX3_init_30 : decode cX3_init 30 = .ok (.return_, 1) := by decide +kernel
set_option maxRecDepth 20000 in
theorem dX3_append_0 : decode cX3_append 0 = .ok (.aload_n 0, 1) := by decide +kernel
set_option maxRecDepth 20000 in
theorem dX3_append_1 : decode cX3_append 1 = .ok (.getfield 26, 3) := by decide +kernel
set_option maxRecDepth 20000 in
theorem dX3_append_4 : decode cX3_append 4 = .ok (.aload_n 0, 1) := by decide +kernel
set_option maxRecDepth 20000 in
theorem dX3_append_5 : decode cX3_append 5 = .ok (.getfield 9, 3) := by decide +kernel
set_option maxRecDepth 20000 in
theorem dX3_append_8 : decode cX3_append 8 = .ok (.arraylength, 1) := by decide +kernel
set_option maxRecDepth 20000 in
theorem dX3_append_9 : decode cX3_append 9 = .ok (.invokestatic 29, 3) := by decide +kernel
set_option maxRecDepth 20000 in
theorem dX3_append_12 : decode cX3_append 12 = .ok (.ifCond .ne 5, 3) := by decide +kernel
set_option maxRecDepth 20000 in
theorem dX3_append_15 : decode cX3_append 15 = .ok (.iconst 0, 1) := by decide +kernel
set_option maxRecDepth 20000 in
theorem dX3_append_16 : decode cX3_append 16 = .ok (.ireturn, 1) := by decide +kernel
set_option maxRecDepth 20000 in
theorem dX3_append_17 : decode cX3_append 17 = .ok (.aload_n 0, 1) := by decide +kernel
set_option maxRecDepth 20000 in
theorem dX3_append_18 : decode cX3_append 18 = .ok (.getfield 9, 3) := by decide +kernel
set_option maxRecDepth 20000 in
theorem dX3_append_21 : decode cX3_append 21 = .ok (.aload_n 0, 1) := by decide +kernel
set_option maxRecDepth 20000 in
theorem dX3_append_22 : decode cX3_append 22 = .ok (.getfield 26, 3) := by decide +kernel
set_option maxRecDepth 20000 in
theorem dX3_append_25 : decode cX3_append 25 = .ok (.iload_n 1, 1) := by decide +kernel
set_option maxRecDepth 20000 in
theorem dX3_append_26 : decode cX3_append 26 = .ok (.iastore, 1) := by decide +kernel
set_option maxRecDepth 20000 in
theorem dX3_append_27 : decode cX3_append 27 = .ok (.aload_n 0, 1) := by decide +kernel
set_option maxRecDepth 20000 in
theorem dX3_append_28 : decode cX3_append 28 = .ok (.dup, 1) := by decide +kernel
set_option maxRecDepth 20000 in
theorem dX3_append_29 : decode cX3_append 29 = .ok (.getfield 26, 3) := by decide +kernel
set_option maxRecDepth 20000 in
theorem dX3_append_32 : decode cX3_append 32 = .ok (.iconst 1, 1) := by decide +kernel
set_option maxRecDepth 20000 in
theorem dX3_append_33 : decode cX3_append 33 = .ok (.iadd, 1) := by decide +kernel
set_option maxRecDepth 20000 in
theorem dX3_append_34 : decode cX3_append 34 = .ok (.putfield 26, 3) := by decide +kernel
set_option maxRecDepth 20000 in
theorem dX3_append_37 : decode cX3_append 37 = .ok (.iconst 1, 1) := by decide +kernel
set_option maxRecDepth 20000 in
theorem dX3_append_38 : decode cX3_append 38 = .ok (.ireturn, 1) := by decide +kernel
set_option maxRecDepth 20000 in
theorem dX3_firstFault_0 : decode cX3_firstFault 0 = .ok (.aload_n 0, 1) := by decide +kernel
set_option maxRecDepth 20000 in
theorem dX3_firstFault_1 : decode cX3_firstFault 1 = .ok (.getfield 26, 3) := by decide +kernel
set_option maxRecDepth 20000 in
theorem dX3_firstFault_4 : decode cX3_firstFault 4 = .ok (.ifCond .ne 5, 3) := by decide +kernel
set_option maxRecDepth 20000 in
theorem dX3_firstFault_7 : decode cX3_firstFault 7 = .ok (.iconst (-1), 1) := by decide +kernel
set_option maxRecDepth 20000 in
theorem dX3_firstFault_8 : decode cX3_firstFault 8 = .ok (.ireturn, 1) := by decide +kernel
set_option maxRecDepth 20000 in
theorem dX3_firstFault_9 : decode cX3_firstFault 9 = .ok (.iconst 0, 1) := by decide +kernel
set_option maxRecDepth 20000 in
theorem dX3_firstFault_10 : decode cX3_firstFault 10 = .ok (.istore_n 1, 1) := by decide +kernel
set_option maxRecDepth 20000 in
theorem dX3_firstFault_11 : decode cX3_firstFault 11 = .ok (.iconst 0, 1) := by decide +kernel
set_option maxRecDepth 20000 in
theorem dX3_firstFault_12 : decode cX3_firstFault 12 = .ok (.istore_n 2, 1) := by decide +kernel
set_option maxRecDepth 20000 in
theorem dX3_firstFault_13 : decode cX3_firstFault 13 = .ok (.iconst 0, 1) := by decide +kernel
set_option maxRecDepth 20000 in
theorem dX3_firstFault_14 : decode cX3_firstFault 14 = .ok (.istore_n 3, 1) := by decide +kernel
set_option maxRecDepth 20000 in
theorem dX3_firstFault_15 : decode cX3_firstFault 15 = .ok (.iload_n 3, 1) := by decide +kernel
set_option maxRecDepth 20000 in
theorem dX3_firstFault_16 : decode cX3_firstFault 16 = .ok (.aload_n 0, 1) := by decide +kernel
set_option maxRecDepth 20000 in
theorem dX3_firstFault_17 : decode cX3_firstFault 17 = .ok (.getfield 26, 3) := by decide +kernel
set_option maxRecDepth 20000 in
theorem dX3_firstFault_20 : decode cX3_firstFault 20 = .ok (.if_icmp .ge 58, 3) := by decide +kernel
set_option maxRecDepth 20000 in
theorem dX3_firstFault_23 : decode cX3_firstFault 23 = .ok (.iload_n 3, 1) := by decide +kernel
set_option maxRecDepth 20000 in
theorem dX3_firstFault_24 : decode cX3_firstFault 24 = .ok (.aload_n 0, 1) := by decide +kernel
set_option maxRecDepth 20000 in
theorem dX3_firstFault_25 : decode cX3_firstFault 25 = .ok (.getfield 9, 3) := by decide +kernel
set_option maxRecDepth 20000 in
theorem dX3_firstFault_28 : decode cX3_firstFault 28 = .ok (.arraylength, 1) := by decide +kernel
set_option maxRecDepth 20000 in
theorem dX3_firstFault_29 : decode cX3_firstFault 29 = .ok (.if_icmp .ge 49, 3) := by decide +kernel
set_option maxRecDepth 20000 in
theorem dX3_firstFault_32 : decode cX3_firstFault 32 = .ok (.aload_n 0, 1) := by decide +kernel
set_option maxRecDepth 20000 in
theorem dX3_firstFault_33 : decode cX3_firstFault 33 = .ok (.aload_n 0, 1) := by decide +kernel
set_option maxRecDepth 20000 in
theorem dX3_firstFault_34 : decode cX3_firstFault 34 = .ok (.getfield 9, 3) := by decide +kernel
set_option maxRecDepth 20000 in
theorem dX3_firstFault_37 : decode cX3_firstFault 37 = .ok (.iload_n 3, 1) := by decide +kernel
set_option maxRecDepth 20000 in
theorem dX3_firstFault_38 : decode cX3_firstFault 38 = .ok (.iaload, 1) := by decide +kernel
set_option maxRecDepth 20000 in
theorem dX3_firstFault_39 : decode cX3_firstFault 39 = .ok (.iload_n 2, 1) := by decide +kernel
set_option maxRecDepth 20000 in
theorem dX3_firstFault_40 : decode cX3_firstFault 40 = .ok (.iload_n 1, 1) := by decide +kernel
set_option maxRecDepth 20000 in
theorem dX3_firstFault_41 : decode cX3_firstFault 41 = .ok (.invokevirtual 33, 3) := by decide +kernel
set_option maxRecDepth 20000 in
theorem dX3_firstFault_44 : decode cX3_firstFault 44 = .ok (.ifCond .ne 5, 3) := by decide +kernel
set_option maxRecDepth 20000 in
theorem dX3_firstFault_47 : decode cX3_firstFault 47 = .ok (.iload_n 3, 1) := by decide +kernel
set_option maxRecDepth 20000 in
theorem dX3_firstFault_48 : decode cX3_firstFault 48 = .ok (.ireturn, 1) := by decide +kernel
set_option maxRecDepth 20000 in
theorem dX3_firstFault_49 : decode cX3_firstFault 49 = .ok (.iload_n 2, 1) := by decide +kernel
set_option maxRecDepth 20000 in
theorem dX3_firstFault_50 : decode cX3_firstFault 50 = .ok (.ifCond .ne 6, 3) := by decide +kernel
set_option maxRecDepth 20000 in
theorem dX3_firstFault_53 : decode cX3_firstFault 53 = .ok (.iinc 1 1, 3) := by decide +kernel
set_option maxRecDepth 20000 in
theorem dX3_firstFault_56 : decode cX3_firstFault 56 = .ok (.iload_n 2, 1) := by decide +kernel
set_option maxRecDepth 20000 in
theorem dX3_firstFault_57 : decode cX3_firstFault 57 = .ok (.aload_n 0, 1) := by decide +kernel
set_option maxRecDepth 20000 in
theorem dX3_firstFault_58 : decode cX3_firstFault 58 = .ok (.getfield 19, 3) := by decide +kernel
set_option maxRecDepth 20000 in
theorem dX3_firstFault_61 : decode cX3_firstFault 61 = .ok (.if_icmp .le 7, 3) := by decide +kernel
set_option maxRecDepth 20000 in
theorem dX3_firstFault_64 : decode cX3_firstFault 64 = .ok (.iconst 0, 1) := by decide +kernel
set_option maxRecDepth 20000 in
theorem dX3_firstFault_65 : decode cX3_firstFault 65 = .ok (.goto 6, 3) := by decide +kernel
set_option maxRecDepth 20000 in
theorem dX3_firstFault_68 : decode cX3_firstFault 68 = .ok (.iload_n 2, 1) := by decide +kernel
set_option maxRecDepth 20000 in
theorem dX3_firstFault_69 : decode cX3_firstFault 69 = .ok (.iconst 1, 1) := by decide +kernel
set_option maxRecDepth 20000 in
theorem dX3_firstFault_70 : decode cX3_firstFault 70 = .ok (.iadd, 1) := by decide +kernel
set_option maxRecDepth 20000 in
theorem dX3_firstFault_71 : decode cX3_firstFault 71 = .ok (.istore_n 2, 1) := by decide +kernel
set_option maxRecDepth 20000 in
theorem dX3_firstFault_72 : decode cX3_firstFault 72 = .ok (.iinc 3 1, 3) := by decide +kernel
set_option maxRecDepth 20000 in
theorem dX3_firstFault_75 : decode cX3_firstFault 75 = .ok (.goto (-60), 3) := by decide +kernel
set_option maxRecDepth 20000 in
theorem dX3_firstFault_78 : decode cX3_firstFault 78 = .ok (.iload_n 2, 1) := by decide +kernel
set_option maxRecDepth 20000 in
theorem dX3_firstFault_79 : decode cX3_firstFault 79 = .ok (.aload_n 0, 1) := by decide +kernel
set_option maxRecDepth 20000 in
theorem dX3_firstFault_80 : decode cX3_firstFault 80 = .ok (.getfield 19, 3) := by decide +kernel
set_option maxRecDepth 20000 in
theorem dX3_firstFault_83 : decode cX3_firstFault 83 = .ok (.iconst 1, 1) := by decide +kernel
set_option maxRecDepth 20000 in
theorem dX3_firstFault_84 : decode cX3_firstFault 84 = .ok (.iadd, 1) := by decide +kernel
set_option maxRecDepth 20000 in
theorem dX3_firstFault_85 : decode cX3_firstFault 85 = .ok (.if_icmp .ne 7, 3) := by decide +kernel
set_option maxRecDepth 20000 in
theorem dX3_firstFault_88 : decode cX3_firstFault 88 = .ok (.iconst (-1), 1) := by decide +kernel
set_option maxRecDepth 20000 in
theorem dX3_firstFault_89 : decode cX3_firstFault 89 = .ok (.goto 7, 3) := by decide +kernel
set_option maxRecDepth 20000 in
theorem dX3_firstFault_92 : decode cX3_firstFault 92 = .ok (.aload_n 0, 1) := by decide +kernel
set_option maxRecDepth 20000 in
theorem dX3_firstFault_93 : decode cX3_firstFault 93 = .ok (.getfield 26, 3) := by decide +kernel
set_option maxRecDepth 20000 in
theorem dX3_firstFault_96 : decode cX3_firstFault 96 = .ok (.ireturn, 1) := by decide +kernel
set_option maxRecDepth 20000 in
theorem dX3_fits_0 : decode cX3_fits 0 = .ok (.iload_n 2, 1) := by decide +kernel
set_option maxRecDepth 20000 in
theorem dX3_fits_1 : decode cX3_fits 1 = .ok (.ifCond .ne 27, 3) := by decide +kernel
set_option maxRecDepth 20000 in
theorem dX3_fits_4 : decode cX3_fits 4 = .ok (.iload_n 3, 1) := by decide +kernel
set_option maxRecDepth 20000 in
theorem dX3_fits_5 : decode cX3_fits 5 = .ok (.bipush 8, 2) := by decide +kernel
set_option maxRecDepth 20000 in
theorem dX3_fits_7 : decode cX3_fits 7 = .ok (.if_icmp .ge 19, 3) := by decide +kernel
set_option maxRecDepth 20000 in
theorem dX3_fits_10 : decode cX3_fits 10 = .ok (.aload_n 0, 1) := by decide +kernel
set_option maxRecDepth 20000 in
theorem dX3_fits_11 : decode cX3_fits 11 = .ok (.getfield 15, 3) := by decide +kernel
set_option maxRecDepth 20000 in
theorem dX3_fits_14 : decode cX3_fits 14 = .ok (.iload_n 1, 1) := by decide +kernel
set_option maxRecDepth 20000 in
theorem dX3_fits_15 : decode cX3_fits 15 = .ok (.i2c, 1) := by decide +kernel
set_option maxRecDepth 20000 in
theorem dX3_fits_16 : decode cX3_fits 16 = .ok (.invokevirtual 37, 3) := by decide +kernel
set_option maxRecDepth 20000 in
theorem dX3_fits_19 : decode cX3_fits 19 = .ok (.ifCond .lt 7, 3) := by decide +kernel
set_option maxRecDepth 20000 in
theorem dX3_fits_22 : decode cX3_fits 22 = .ok (.iconst 1, 1) := by decide +kernel
set_option maxRecDepth 20000 in
theorem dX3_fits_23 : decode cX3_fits 23 = .ok (.goto 4, 3) := by decide +kernel
set_option maxRecDepth 20000 in
theorem dX3_fits_26 : decode cX3_fits 26 = .ok (.iconst 0, 1) := by decide +kernel
set_option maxRecDepth 20000 in
theorem dX3_fits_27 : decode cX3_fits 27 = .ok (.ireturn, 1) := by decide +kernel
set_option maxRecDepth 20000 in
theorem dX3_fits_28 : decode cX3_fits 28 = .ok (.iload_n 2, 1) := by decide +kernel
set_option maxRecDepth 20000 in
theorem dX3_fits_29 : decode cX3_fits 29 = .ok (.aload_n 0, 1) := by decide +kernel
set_option maxRecDepth 20000 in
theorem dX3_fits_30 : decode cX3_fits 30 = .ok (.getfield 19, 3) := by decide +kernel
set_option maxRecDepth 20000 in
theorem dX3_fits_33 : decode cX3_fits 33 = .ok (.if_icmp .gt 25, 3) := by decide +kernel
set_option maxRecDepth 20000 in
theorem dX3_fits_36 : decode cX3_fits 36 = .ok (.iload_n 1, 1) := by decide +kernel
set_option maxRecDepth 20000 in
theorem dX3_fits_37 : decode cX3_fits 37 = .ok (.bipush 48, 2) := by decide +kernel
set_option maxRecDepth 20000 in
theorem dX3_fits_39 : decode cX3_fits 39 = .ok (.if_icmp .lt 15, 3) := by decide +kernel
set_option maxRecDepth 20000 in
theorem dX3_fits_42 : decode cX3_fits 42 = .ok (.iload_n 1, 1) := by decide +kernel
set_option maxRecDepth 20000 in
theorem dX3_fits_43 : decode cX3_fits 43 = .ok (.aload_n 0, 1) := by decide +kernel
set_option maxRecDepth 20000 in
theorem dX3_fits_44 : decode cX3_fits 44 = .ok (.getfield 23, 3) := by decide +kernel
set_option maxRecDepth 20000 in
theorem dX3_fits_47 : decode cX3_fits 47 = .ok (.if_icmp .gt 7, 3) := by decide +kernel
set_option maxRecDepth 20000 in
theorem dX3_fits_50 : decode cX3_fits 50 = .ok (.iconst 1, 1) := by decide +kernel
set_option maxRecDepth 20000 in
theorem dX3_fits_51 : decode cX3_fits 51 = .ok (.goto 18, 3) := by decide +kernel
set_option maxRecDepth 20000 in
theorem dX3_fits_54 : decode cX3_fits 54 = .ok (.iconst 0, 1) := by decide +kernel
set_option maxRecDepth 20000 in
theorem dX3_fits_55 : decode cX3_fits 55 = .ok (.goto 14, 3) := by decide +kernel
set_option maxRecDepth 20000 in
theorem dX3_fits_58 : decode cX3_fits 58 = .ok (.iload_n 1, 1) := by decide +kernel
set_option maxRecDepth 20000 in
theorem dX3_fits_59 : decode cX3_fits 59 = .ok (.bipush 59, 2) := by decide +kernel
set_option maxRecDepth 20000 in
theorem dX3_fits_61 : decode cX3_fits 61 = .ok (.if_icmp .ne 7, 3) := by decide +kernel
set_option maxRecDepth 20000 in
theorem dX3_fits_64 : decode cX3_fits 64 = .ok (.iconst 1, 1) := by decide +kernel
set_option maxRecDepth 20000 in
theorem dX3_fits_65 : decode cX3_fits 65 = .ok (.goto 4, 3) := by decide +kernel
set_option maxRecDepth 20000 in
theorem dX3_fits_68 : decode cX3_fits 68 = .ok (.iconst 0, 1) := by decide +kernel
set_option maxRecDepth 20000 in
theorem dX3_fits_69 : decode cX3_fits 69 = .ok (.ireturn, 1) := by decide +kernel
set_option maxRecDepth 20000 in
theorem dX3_sortAt_0 : decode cX3_sortAt 0 = .ok (.iload_n 1, 1) := by decide +kernel
set_option maxRecDepth 20000 in
theorem dX3_sortAt_1 : decode cX3_sortAt 1 = .ok (.aload_n 0, 1) := by decide +kernel
set_option maxRecDepth 20000 in
theorem dX3_sortAt_2 : decode cX3_sortAt 2 = .ok (.getfield 26, 3) := by decide +kernel
set_option maxRecDepth 20000 in
theorem dX3_sortAt_5 : decode cX3_sortAt 5 = .ok (.invokestatic 29, 3) := by decide +kernel
set_option maxRecDepth 20000 in
theorem dX3_sortAt_8 : decode cX3_sortAt 8 = .ok (.ifCond .eq 20, 3) := by decide +kernel
set_option maxRecDepth 20000 in
theorem dX3_sortAt_11 : decode cX3_sortAt 11 = .ok (.aload_n 0, 1) := by decide +kernel
set_option maxRecDepth 20000 in
theorem dX3_sortAt_12 : decode cX3_sortAt 12 = .ok (.getfield 15, 3) := by decide +kernel
set_option maxRecDepth 20000 in
theorem dX3_sortAt_15 : decode cX3_sortAt 15 = .ok (.aload_n 0, 1) := by decide +kernel
set_option maxRecDepth 20000 in
theorem dX3_sortAt_16 : decode cX3_sortAt 16 = .ok (.getfield 9, 3) := by decide +kernel
set_option maxRecDepth 20000 in
theorem dX3_sortAt_19 : decode cX3_sortAt 19 = .ok (.iload_n 1, 1) := by decide +kernel
set_option maxRecDepth 20000 in
theorem dX3_sortAt_20 : decode cX3_sortAt 20 = .ok (.iaload, 1) := by decide +kernel
set_option maxRecDepth 20000 in
theorem dX3_sortAt_21 : decode cX3_sortAt 21 = .ok (.i2c, 1) := by decide +kernel
set_option maxRecDepth 20000 in
theorem dX3_sortAt_22 : decode cX3_sortAt 22 = .ok (.invokevirtual 37, 3) := by decide +kernel
set_option maxRecDepth 20000 in
theorem dX3_sortAt_25 : decode cX3_sortAt 25 = .ok (.goto 4, 3) := by decide +kernel
set_option maxRecDepth 20000 in
theorem dX3_sortAt_28 : decode cX3_sortAt 28 = .ok (.iconst (-1), 1) := by decide +kernel
set_option maxRecDepth 20000 in
theorem dX3_sortAt_29 : decode cX3_sortAt 29 = .ok (.ireturn, 1) := by decide +kernel
set_option maxRecDepth 20000 in
theorem dX3_figureAt_0 : decode cX3_figureAt 0 = .ok (.iload_n 1, 1) := by decide +kernel
set_option maxRecDepth 20000 in
theorem dX3_figureAt_1 : decode cX3_figureAt 1 = .ok (.aload_n 0, 1) := by decide +kernel
set_option maxRecDepth 20000 in
theorem dX3_figureAt_2 : decode cX3_figureAt 2 = .ok (.getfield 26, 3) := by decide +kernel
set_option maxRecDepth 20000 in
theorem dX3_figureAt_5 : decode cX3_figureAt 5 = .ok (.invokestatic 29, 3) := by decide +kernel
set_option maxRecDepth 20000 in
theorem dX3_figureAt_8 : decode cX3_figureAt 8 = .ok (.ifCond .eq 15, 3) := by decide +kernel
set_option maxRecDepth 20000 in
theorem dX3_figureAt_11 : decode cX3_figureAt 11 = .ok (.aload_n 0, 1) := by decide +kernel
set_option maxRecDepth 20000 in
theorem dX3_figureAt_12 : decode cX3_figureAt 12 = .ok (.getfield 9, 3) := by decide +kernel
set_option maxRecDepth 20000 in
theorem dX3_figureAt_15 : decode cX3_figureAt 15 = .ok (.iload_n 1, 1) := by decide +kernel
set_option maxRecDepth 20000 in
theorem dX3_figureAt_16 : decode cX3_figureAt 16 = .ok (.iaload, 1) := by decide +kernel
set_option maxRecDepth 20000 in
theorem dX3_figureAt_17 : decode cX3_figureAt 17 = .ok (.bipush 48, 2) := by decide +kernel
set_option maxRecDepth 20000 in
theorem dX3_figureAt_19 : decode cX3_figureAt 19 = .ok (.isub, 1) := by decide +kernel
set_option maxRecDepth 20000 in
theorem dX3_figureAt_20 : decode cX3_figureAt 20 = .ok (.goto 4, 3) := by decide +kernel
set_option maxRecDepth 20000 in
theorem dX3_figureAt_23 : decode cX3_figureAt 23 = .ok (.iconst (-1), 1) := by decide +kernel
set_option maxRecDepth 20000 in
theorem dX3_figureAt_24 : decode cX3_figureAt 24 = .ok (.ireturn, 1) := by decide +kernel
set_option maxRecDepth 20000 in
theorem dX4_init_0 : decode cX4_init 0 = .ok (.aload_n 0, 1) := by decide +kernel
set_option maxRecDepth 20000 in
theorem dX4_init_1 : decode cX4_init 1 = .ok (.invokespecial 3, 3) := by decide +kernel
set_option maxRecDepth 20000 in
theorem dX4_init_4 : decode cX4_init 4 = .ok (.aload_n 0, 1) := by decide +kernel
set_option maxRecDepth 20000 in
theorem dX4_init_5 : decode cX4_init 5 = .ok (.bipush 40, 2) := by decide +kernel
set_option maxRecDepth 20000 in
theorem dX4_init_7 : decode cX4_init 7 = .ok (.newarray .int, 2) := by decide +kernel
set_option maxRecDepth 20000 in
theorem dX4_init_9 : decode cX4_init 9 = .ok (.putfield 9, 3) := by decide +kernel
set_option maxRecDepth 20000 in
theorem dX4_init_12 : decode cX4_init 12 = .ok (.aload_n 0, 1) := by decide +kernel
set_option maxRecDepth 20000 in
theorem dX4_init_13 : decode cX4_init 13 = .ok (.bipush 40, 2) := by decide +kernel
set_option maxRecDepth 20000 in
theorem dX4_init_15 : decode cX4_init 15 = .ok (.newarray .int, 2) := by decide +kernel
set_option maxRecDepth 20000 in
theorem dX4_init_17 : decode cX4_init 17 = .ok (.putfield 15, 3) := by decide +kernel
set_option maxRecDepth 20000 in
theorem dX4_init_20 : decode cX4_init 20 = .ok (.aload_n 0, 1) := by decide +kernel
set_option maxRecDepth 20000 in
theorem dX4_init_21 : decode cX4_init 21 = .ok (.bipush 8, 2) := by decide +kernel
set_option maxRecDepth 20000 in
theorem dX4_init_23 : decode cX4_init 23 = .ok (.newarray .int, 2) := by decide +kernel
set_option maxRecDepth 20000 in
theorem dX4_init_25 : decode cX4_init 25 = .ok (.putfield 18, 3) := by decide +kernel
set_option maxRecDepth 20000 in
theorem dX4_init_28 : decode cX4_init 28 = .ok (.aload_n 0, 1) := by decide +kernel
set_option maxRecDepth 20000 in
theorem dX4_init_29 : decode cX4_init 29 = .ok (.bipush 8, 2) := by decide +kernel
set_option maxRecDepth 20000 in
theorem dX4_init_31 : decode cX4_init 31 = .ok (.newarray .int, 2) := by decide +kernel
set_option maxRecDepth 20000 in
theorem dX4_init_33 : decode cX4_init 33 = .ok (.putfield 21, 3) := by decide +kernel
set_option maxRecDepth 20000 in
theorem dX4_init_36 : decode cX4_init 36 = .ok (.aload_n 0, 1) := by decide +kernel
set_option maxRecDepth 20000 in
theorem dX4_init_37 : decode cX4_init 37 = .ok (.aload_n 1, 1) := by decide +kernel
set_option maxRecDepth 20000 in
theorem dX4_init_38 : decode cX4_init 38 = .ok (.putfield 24, 3) := by decide +kernel
set_option maxRecDepth 20000 in
theorem dX4_init_41 : decode cX4_init 41 = .ok (.aload_n 0, 1) := by decide +kernel
set_option maxRecDepth 20000 in
theorem dX4_init_42 : decode cX4_init 42 = .ok (.iconst (-1), 1) := by decide +kernel
set_option maxRecDepth 20000 in
theorem dX4_init_43 : decode cX4_init 43 = .ok (.putfield 28, 3) := by decide +kernel
set_option maxRecDepth 20000 in
theorem dX4_init_46 : decode cX4_init 46 = .ok (.return_, 1) := by decide +kernel
set_option maxRecDepth 20000 in
theorem dX4_begin_0 : decode cX4_begin 0 = .ok (.aload_n 0, 1) := by decide +kernel
set_option maxRecDepth 20000 in
theorem dX4_begin_1 : decode cX4_begin 1 = .ok (.iconst (-1), 1) := by decide +kernel
set_option maxRecDepth 20000 in
theorem dX4_begin_2 : decode cX4_begin 2 = .ok (.putfield 28, 3) := by decide +kernel
set_option maxRecDepth 20000 in
theorem dX4_begin_5 : decode cX4_begin 5 = .ok (.aload_n 0, 1) := by decide +kernel
set_option maxRecDepth 20000 in
theorem dX4_begin_6 : decode cX4_begin 6 = .ok (.getfield 24, 3) := by decide +kernel
set_option maxRecDepth 20000 in
theorem dX4_begin_9 : decode cX4_begin 9 = .ok (.getfield 32, 3) := by decide +kernel
set_option maxRecDepth 20000 in
theorem dX4_begin_12 : decode cX4_begin 12 = .ok (.iconst 0, 1) := by decide +kernel
set_option maxRecDepth 20000 in
theorem dX4_begin_13 : decode cX4_begin 13 = .ok (.aload_n 0, 1) := by decide +kernel
set_option maxRecDepth 20000 in
theorem dX4_begin_14 : decode cX4_begin 14 = .ok (.getfield 9, 3) := by decide +kernel
set_option maxRecDepth 20000 in
theorem dX4_begin_17 : decode cX4_begin 17 = .ok (.iconst 0, 1) := by decide +kernel
set_option maxRecDepth 20000 in
theorem dX4_begin_18 : decode cX4_begin 18 = .ok (.bipush 40, 2) := by decide +kernel
set_option maxRecDepth 20000 in
theorem dX4_begin_20 : decode cX4_begin 20 = .ok (.invokestatic 35, 3) := by decide +kernel
set_option maxRecDepth 20000 in
theorem dX4_begin_23 : decode cX4_begin 23 = .ok (.iconst 0, 1) := by decide +kernel
set_option maxRecDepth 20000 in
theorem dX4_begin_24 : decode cX4_begin 24 = .ok (.istore_n 1, 1) := by decide +kernel
set_option maxRecDepth 20000 in
theorem dX4_begin_25 : decode cX4_begin 25 = .ok (.iload_n 1, 1) := by decide +kernel
set_option maxRecDepth 20000 in
theorem dX4_begin_26 : decode cX4_begin 26 = .ok (.aload_n 0, 1) := by decide +kernel
set_option maxRecDepth 20000 in
theorem dX4_begin_27 : decode cX4_begin 27 = .ok (.getfield 24, 3) := by decide +kernel
set_option maxRecDepth 20000 in
theorem dX4_begin_30 : decode cX4_begin 30 = .ok (.getfield 41, 3) := by decide +kernel
set_option maxRecDepth 20000 in
theorem dX4_begin_33 : decode cX4_begin 33 = .ok (.if_icmp .ge 74, 3) := by decide +kernel
set_option maxRecDepth 20000 in
theorem dX4_begin_36 : decode cX4_begin 36 = .ok (.aload_n 0, 1) := by decide +kernel
set_option maxRecDepth 20000 in
theorem dX4_begin_37 : decode cX4_begin 37 = .ok (.getfield 24, 3) := by decide +kernel
set_option maxRecDepth 20000 in
theorem dX4_begin_40 : decode cX4_begin 40 = .ok (.getfield 44, 3) := by decide +kernel
set_option maxRecDepth 20000 in
theorem dX4_begin_43 : decode cX4_begin 43 = .ok (.iload_n 1, 1) := by decide +kernel
set_option maxRecDepth 20000 in
theorem dX4_begin_44 : decode cX4_begin 44 = .ok (.iaload, 1) := by decide +kernel
set_option maxRecDepth 20000 in
theorem dX4_begin_45 : decode cX4_begin 45 = .ok (.istore_n 2, 1) := by decide +kernel
set_option maxRecDepth 20000 in
theorem dX4_begin_46 : decode cX4_begin 46 = .ok (.aload_n 0, 1) := by decide +kernel
set_option maxRecDepth 20000 in
theorem dX4_begin_47 : decode cX4_begin 47 = .ok (.getfield 18, 3) := by decide +kernel
set_option maxRecDepth 20000 in
theorem dX4_begin_50 : decode cX4_begin 50 = .ok (.iload_n 1, 1) := by decide +kernel
set_option maxRecDepth 20000 in
theorem dX4_begin_51 : decode cX4_begin 51 = .ok (.iload_n 2, 1) := by decide +kernel
set_option maxRecDepth 20000 in
theorem dX4_begin_52 : decode cX4_begin 52 = .ok (.iastore, 1) := by decide +kernel
set_option maxRecDepth 20000 in
theorem dX4_begin_53 : decode cX4_begin 53 = .ok (.iconst 0, 1) := by decide +kernel
set_option maxRecDepth 20000 in
theorem dX4_begin_54 : decode cX4_begin 54 = .ok (.istore_n 3, 1) := by decide +kernel
set_option maxRecDepth 20000 in
theorem dX4_begin_55 : decode cX4_begin 55 = .ok (.iload_n 3, 1) := by decide +kernel
set_option maxRecDepth 20000 in
theorem dX4_begin_56 : decode cX4_begin 56 = .ok (.iconst 5, 1) := by decide +kernel
set_option maxRecDepth 20000 in
theorem dX4_begin_57 : decode cX4_begin 57 = .ok (.if_icmp .ge 44, 3) := by decide +kernel
set_option maxRecDepth 20000 in
theorem dX4_begin_60 : decode cX4_begin 60 = .ok (.aload_n 0, 1) := by decide +kernel
set_option maxRecDepth 20000 in
theorem dX4_begin_61 : decode cX4_begin 61 = .ok (.getfield 15, 3) := by decide +kernel
set_option maxRecDepth 20000 in
theorem dX4_begin_64 : decode cX4_begin 64 = .ok (.iload_n 1, 1) := by decide +kernel
set_option maxRecDepth 20000 in
theorem dX4_begin_65 : decode cX4_begin 65 = .ok (.iconst 5, 1) := by decide +kernel
set_option maxRecDepth 20000 in
theorem dX4_begin_66 : decode cX4_begin 66 = .ok (.imul, 1) := by decide +kernel
set_option maxRecDepth 20000 in
theorem dX4_begin_67 : decode cX4_begin 67 = .ok (.iload_n 3, 1) := by decide +kernel
set_option maxRecDepth 20000 in
theorem dX4_begin_68 : decode cX4_begin 68 = .ok (.iadd, 1) := by decide +kernel
set_option maxRecDepth 20000 in
theorem dX4_begin_69 : decode cX4_begin 69 = .ok (.aload_n 0, 1) := by decide +kernel
set_option maxRecDepth 20000 in
theorem dX4_begin_70 : decode cX4_begin 70 = .ok (.getfield 24, 3) := by decide +kernel
set_option maxRecDepth 20000 in
theorem dX4_begin_73 : decode cX4_begin 73 = .ok (.iload_n 2, 1) := by decide +kernel
set_option maxRecDepth 20000 in
theorem dX4_begin_74 : decode cX4_begin 74 = .ok (.invokevirtual 47, 3) := by decide +kernel
set_option maxRecDepth 20000 in
theorem dX4_begin_77 : decode cX4_begin 77 = .ok (.ifCond .eq 16, 3) := by decide +kernel
set_option maxRecDepth 20000 in
theorem dX4_begin_80 : decode cX4_begin 80 = .ok (.aload_n 0, 1) := by decide +kernel
set_option maxRecDepth 20000 in
theorem dX4_begin_81 : decode cX4_begin 81 = .ok (.getfield 9, 3) := by decide +kernel
set_option maxRecDepth 20000 in
theorem dX4_begin_84 : decode cX4_begin 84 = .ok (.iload_n 2, 1) := by decide +kernel
set_option maxRecDepth 20000 in
theorem dX4_begin_85 : decode cX4_begin 85 = .ok (.iconst 5, 1) := by decide +kernel
set_option maxRecDepth 20000 in
theorem dX4_begin_86 : decode cX4_begin 86 = .ok (.imul, 1) := by decide +kernel
set_option maxRecDepth 20000 in
theorem dX4_begin_87 : decode cX4_begin 87 = .ok (.iload_n 3, 1) := by decide +kernel
set_option maxRecDepth 20000 in
theorem dX4_begin_88 : decode cX4_begin 88 = .ok (.iadd, 1) := by decide +kernel
set_option maxRecDepth 20000 in
theorem dX4_begin_89 : decode cX4_begin 89 = .ok (.iaload, 1) := by decide +kernel
set_option maxRecDepth 20000 in
theorem dX4_begin_90 : decode cX4_begin 90 = .ok (.goto 4, 3) := by decide +kernel
set_option maxRecDepth 20000 in
theorem dX4_begin_93 : decode cX4_begin 93 = .ok (.iconst 5, 1) := by decide +kernel
set_option maxRecDepth 20000 in
theorem dX4_begin_94 : decode cX4_begin 94 = .ok (.iastore, 1) := by decide +kernel
set_option maxRecDepth 20000 in
theorem dX4_begin_95 : decode cX4_begin 95 = .ok (.iinc 3 1, 3) := by decide +kernel
set_option maxRecDepth 20000 in
theorem dX4_begin_98 : decode cX4_begin 98 = .ok (.goto (-43), 3) := by decide +kernel
set_option maxRecDepth 20000 in
theorem dX4_begin_101 : decode cX4_begin 101 = .ok (.iinc 1 1, 3) := by decide +kernel
set_option maxRecDepth 20000 in
theorem dX4_begin_104 : decode cX4_begin 104 = .ok (.goto (-79), 3) := by decide +kernel
set_option maxRecDepth 20000 in
theorem dX4_begin_107 : decode cX4_begin 107 = .ok (.return_, 1) := by decide +kernel
set_option maxRecDepth 20000 in
theorem dX4_go_0 : decode cX4_go 0 = .ok (.aload_n 0, 1) := by decide +kernel
set_option maxRecDepth 20000 in
theorem dX4_go_1 : decode cX4_go 1 = .ok (.getfield 28, 3) := by decide +kernel
set_option maxRecDepth 20000 in
theorem dX4_go_4 : decode cX4_go 4 = .ok (.iconst 1, 1) := by decide +kernel
set_option maxRecDepth 20000 in
theorem dX4_go_5 : decode cX4_go 5 = .ok (.iadd, 1) := by decide +kernel
set_option maxRecDepth 20000 in
theorem dX4_go_6 : decode cX4_go 6 = .ok (.istore_n 2, 1) := by decide +kernel
set_option maxRecDepth 20000 in
theorem dX4_go_7 : decode cX4_go 7 = .ok (.iload_n 2, 1) := by decide +kernel
set_option maxRecDepth 20000 in
theorem dX4_go_8 : decode cX4_go 8 = .ok (.iload_n 1, 1) := by decide +kernel
set_option maxRecDepth 20000 in
theorem dX4_go_9 : decode cX4_go 9 = .ok (.if_icmp .gt 69, 3) := by decide +kernel
set_option maxRecDepth 20000 in
theorem dX4_go_12 : decode cX4_go 12 = .ok (.iload_n 2, 1) := by decide +kernel
set_option maxRecDepth 20000 in
theorem dX4_go_13 : decode cX4_go 13 = .ok (.bipush 30, 2) := by decide +kernel
set_option maxRecDepth 20000 in
theorem dX4_go_15 : decode cX4_go 15 = .ok (.if_icmp .ge 63, 3) := by decide +kernel
set_option maxRecDepth 20000 in
theorem dX4_go_18 : decode cX4_go 18 = .ok (.aload_n 0, 1) := by decide +kernel
set_option maxRecDepth 20000 in
theorem dX4_go_19 : decode cX4_go 19 = .ok (.iload_n 2, 1) := by decide +kernel
set_option maxRecDepth 20000 in
theorem dX4_go_20 : decode cX4_go 20 = .ok (.putfield 28, 3) := by decide +kernel
set_option maxRecDepth 20000 in
theorem dX4_go_23 : decode cX4_go 23 = .ok (.aload_n 0, 1) := by decide +kernel
set_option maxRecDepth 20000 in
theorem dX4_go_24 : decode cX4_go 24 = .ok (.invokevirtual 51, 3) := by decide +kernel
set_option maxRecDepth 20000 in
theorem dX4_go_27 : decode cX4_go 27 = .ok (.aload_n 0, 1) := by decide +kernel
set_option maxRecDepth 20000 in
theorem dX4_go_28 : decode cX4_go 28 = .ok (.invokevirtual 54, 3) := by decide +kernel
set_option maxRecDepth 20000 in
theorem dX4_go_31 : decode cX4_go 31 = .ok (.iload_n 2, 1) := by decide +kernel
set_option maxRecDepth 20000 in
theorem dX4_go_32 : decode cX4_go 32 = .ok (.bipush 7, 2) := by decide +kernel
set_option maxRecDepth 20000 in
theorem dX4_go_34 : decode cX4_go 34 = .ok (.irem, 1) := by decide +kernel
set_option maxRecDepth 20000 in
theorem dX4_go_35 : decode cX4_go 35 = .ok (.bipush 6, 2) := by decide +kernel
set_option maxRecDepth 20000 in
theorem dX4_go_37 : decode cX4_go 37 = .ok (.if_icmp .ne 11, 3) := by decide +kernel
set_option maxRecDepth 20000 in
theorem dX4_go_40 : decode cX4_go 40 = .ok (.aload_n 0, 1) := by decide +kernel
set_option maxRecDepth 20000 in
theorem dX4_go_41 : decode cX4_go 41 = .ok (.iload_n 2, 1) := by decide +kernel
set_option maxRecDepth 20000 in
theorem dX4_go_42 : decode cX4_go 42 = .ok (.bipush 7, 2) := by decide +kernel
set_option maxRecDepth 20000 in
theorem dX4_go_44 : decode cX4_go 44 = .ok (.idiv, 1) := by decide +kernel
set_option maxRecDepth 20000 in
theorem dX4_go_45 : decode cX4_go 45 = .ok (.invokevirtual 57, 3) := by decide +kernel
set_option maxRecDepth 20000 in
theorem dX4_go_48 : decode cX4_go 48 = .ok (.iconst 0, 1) := by decide +kernel
set_option maxRecDepth 20000 in
theorem dX4_go_49 : decode cX4_go 49 = .ok (.istore_n 3, 1) := by decide +kernel
set_option maxRecDepth 20000 in
theorem dX4_go_50 : decode cX4_go 50 = .ok (.iload_n 3, 1) := by decide +kernel
set_option maxRecDepth 20000 in
theorem dX4_go_51 : decode cX4_go 51 = .ok (.aload_n 0, 1) := by decide +kernel
set_option maxRecDepth 20000 in
theorem dX4_go_52 : decode cX4_go 52 = .ok (.getfield 24, 3) := by decide +kernel
set_option maxRecDepth 20000 in
theorem dX4_go_55 : decode cX4_go 55 = .ok (.getfield 41, 3) := by decide +kernel
set_option maxRecDepth 20000 in
theorem dX4_go_58 : decode cX4_go 58 = .ok (.if_icmp .ge 14, 3) := by decide +kernel
set_option maxRecDepth 20000 in
theorem dX4_go_61 : decode cX4_go 61 = .ok (.aload_n 0, 1) := by decide +kernel
set_option maxRecDepth 20000 in
theorem dX4_go_62 : decode cX4_go 62 = .ok (.iload_n 3, 1) := by decide +kernel
set_option maxRecDepth 20000 in
theorem dX4_go_63 : decode cX4_go 63 = .ok (.invokevirtual 61, 3) := by decide +kernel
set_option maxRecDepth 20000 in
theorem dX4_go_66 : decode cX4_go 66 = .ok (.iinc 3 1, 3) := by decide +kernel
set_option maxRecDepth 20000 in
theorem dX4_go_69 : decode cX4_go 69 = .ok (.goto (-19), 3) := by decide +kernel
set_option maxRecDepth 20000 in
theorem dX4_go_72 : decode cX4_go 72 = .ok (.iinc 2 1, 3) := by decide +kernel
set_option maxRecDepth 20000 in
theorem dX4_go_75 : decode cX4_go 75 = .ok (.goto (-68), 3) := by decide +kernel
set_option maxRecDepth 20000 in
theorem dX4_go_78 : decode cX4_go 78 = .ok (.return_, 1) := by decide +kernel
set_option maxRecDepth 20000 in
theorem dX4_doHirings_0 : decode cX4_doHirings 0 = .ok (.iconst 0, 1) := by decide +kernel
set_option maxRecDepth 20000 in
theorem dX4_doHirings_1 : decode cX4_doHirings 1 = .ok (.istore_n 1, 1) := by decide +kernel
set_option maxRecDepth 20000 in
theorem dX4_doHirings_2 : decode cX4_doHirings 2 = .ok (.iload_n 1, 1) := by decide +kernel
set_option maxRecDepth 20000 in
theorem dX4_doHirings_3 : decode cX4_doHirings 3 = .ok (.aload_n 0, 1) := by decide +kernel
set_option maxRecDepth 20000 in
theorem dX4_doHirings_4 : decode cX4_doHirings 4 = .ok (.getfield 24, 3) := by decide +kernel
set_option maxRecDepth 20000 in
theorem dX4_doHirings_7 : decode cX4_doHirings 7 = .ok (.getfield 64, 3) := by decide +kernel
set_option maxRecDepth 20000 in
theorem dX4_doHirings_10 : decode cX4_doHirings 10 = .ok (.if_icmp .ge 67, 3) := by decide +kernel
set_option maxRecDepth 20000 in
theorem dX4_doHirings_13 : decode cX4_doHirings 13 = .ok (.aload_n 0, 1) := by decide +kernel
set_option maxRecDepth 20000 in
theorem dX4_doHirings_14 : decode cX4_doHirings 14 = .ok (.getfield 24, 3) := by decide +kernel
set_option maxRecDepth 20000 in
theorem dX4_doHirings_17 : decode cX4_doHirings 17 = .ok (.getfield 67, 3) := by decide +kernel
set_option maxRecDepth 20000 in
theorem dX4_doHirings_20 : decode cX4_doHirings 20 = .ok (.iload_n 1, 1) := by decide +kernel
set_option maxRecDepth 20000 in
theorem dX4_doHirings_21 : decode cX4_doHirings 21 = .ok (.iaload, 1) := by decide +kernel
set_option maxRecDepth 20000 in
theorem dX4_doHirings_22 : decode cX4_doHirings 22 = .ok (.aload_n 0, 1) := by decide +kernel
set_option maxRecDepth 20000 in
theorem dX4_doHirings_23 : decode cX4_doHirings 23 = .ok (.getfield 28, 3) := by decide +kernel
set_option maxRecDepth 20000 in
theorem dX4_doHirings_26 : decode cX4_doHirings 26 = .ok (.if_icmp .ne 45, 3) := by decide +kernel
set_option maxRecDepth 20000 in
theorem dX4_doHirings_29 : decode cX4_doHirings 29 = .ok (.aload_n 0, 1) := by decide +kernel
set_option maxRecDepth 20000 in
theorem dX4_doHirings_30 : decode cX4_doHirings 30 = .ok (.getfield 24, 3) := by decide +kernel
set_option maxRecDepth 20000 in
theorem dX4_doHirings_33 : decode cX4_doHirings 33 = .ok (.aload_n 0, 1) := by decide +kernel
set_option maxRecDepth 20000 in
theorem dX4_doHirings_34 : decode cX4_doHirings 34 = .ok (.getfield 24, 3) := by decide +kernel
set_option maxRecDepth 20000 in
theorem dX4_doHirings_37 : decode cX4_doHirings 37 = .ok (.getfield 70, 3) := by decide +kernel
set_option maxRecDepth 20000 in
theorem dX4_doHirings_40 : decode cX4_doHirings 40 = .ok (.iload_n 1, 1) := by decide +kernel
set_option maxRecDepth 20000 in
theorem dX4_doHirings_41 : decode cX4_doHirings 41 = .ok (.iaload, 1) := by decide +kernel
set_option maxRecDepth 20000 in
theorem dX4_doHirings_42 : decode cX4_doHirings 42 = .ok (.invokevirtual 73, 3) := by decide +kernel
set_option maxRecDepth 20000 in
theorem dX4_doHirings_45 : decode cX4_doHirings 45 = .ok (.ifCond .eq 26, 3) := by decide +kernel
set_option maxRecDepth 20000 in
theorem dX4_doHirings_48 : decode cX4_doHirings 48 = .ok (.aload_n 0, 1) := by decide +kernel
set_option maxRecDepth 20000 in
theorem dX4_doHirings_49 : decode cX4_doHirings 49 = .ok (.getfield 18, 3) := by decide +kernel
set_option maxRecDepth 20000 in
theorem dX4_doHirings_52 : decode cX4_doHirings 52 = .ok (.aload_n 0, 1) := by decide +kernel
set_option maxRecDepth 20000 in
theorem dX4_doHirings_53 : decode cX4_doHirings 53 = .ok (.getfield 24, 3) := by decide +kernel
set_option maxRecDepth 20000 in
theorem dX4_doHirings_56 : decode cX4_doHirings 56 = .ok (.getfield 70, 3) := by decide +kernel
set_option maxRecDepth 20000 in
theorem dX4_doHirings_59 : decode cX4_doHirings 59 = .ok (.iload_n 1, 1) := by decide +kernel
set_option maxRecDepth 20000 in
theorem dX4_doHirings_60 : decode cX4_doHirings 60 = .ok (.iaload, 1) := by decide +kernel
set_option maxRecDepth 20000 in
theorem dX4_doHirings_61 : decode cX4_doHirings 61 = .ok (.aload_n 0, 1) := by decide +kernel
set_option maxRecDepth 20000 in
theorem dX4_doHirings_62 : decode cX4_doHirings 62 = .ok (.getfield 24, 3) := by decide +kernel
set_option maxRecDepth 20000 in
theorem dX4_doHirings_65 : decode cX4_doHirings 65 = .ok (.getfield 76, 3) := by decide +kernel
set_option maxRecDepth 20000 in
theorem dX4_doHirings_68 : decode cX4_doHirings 68 = .ok (.iload_n 1, 1) := by decide +kernel
set_option maxRecDepth 20000 in
theorem dX4_doHirings_69 : decode cX4_doHirings 69 = .ok (.iaload, 1) := by decide +kernel
set_option maxRecDepth 20000 in
theorem dX4_doHirings_70 : decode cX4_doHirings 70 = .ok (.iastore, 1) := by decide +kernel
set_option maxRecDepth 20000 in
theorem dX4_doHirings_71 : decode cX4_doHirings 71 = .ok (.iinc 1 1, 3) := by decide +kernel
set_option maxRecDepth 20000 in
theorem dX4_doHirings_74 : decode cX4_doHirings 74 = .ok (.goto (-72), 3) := by decide +kernel
set_option maxRecDepth 20000 in
theorem dX4_doHirings_77 : decode cX4_doHirings 77 = .ok (.return_, 1) := by decide +kernel
set_option maxRecDepth 20000 in
theorem dX4_countWearers_0 : decode cX4_countWearers 0 = .ok (.iconst 0, 1) := by decide +kernel
set_option maxRecDepth 20000 in
theorem dX4_countWearers_1 : decode cX4_countWearers 1 = .ok (.istore_n 1, 1) := by decide +kernel
set_option maxRecDepth 20000 in
theorem dX4_countWearers_2 : decode cX4_countWearers 2 = .ok (.iload_n 1, 1) := by decide +kernel
set_option maxRecDepth 20000 in
theorem dX4_countWearers_3 : decode cX4_countWearers 3 = .ok (.bipush 8, 2) := by decide +kernel
set_option maxRecDepth 20000 in
theorem dX4_countWearers_5 : decode cX4_countWearers 5 = .ok (.if_icmp .ge 16, 3) := by decide +kernel
set_option maxRecDepth 20000 in
theorem dX4_countWearers_8 : decode cX4_countWearers 8 = .ok (.aload_n 0, 1) := by decide +kernel
set_option maxRecDepth 20000 in
theorem dX4_countWearers_9 : decode cX4_countWearers 9 = .ok (.getfield 21, 3) := by decide +kernel
set_option maxRecDepth 20000 in
theorem dX4_countWearers_12 : decode cX4_countWearers 12 = .ok (.iload_n 1, 1) := by decide +kernel
set_option maxRecDepth 20000 in
theorem dX4_countWearers_13 : decode cX4_countWearers 13 = .ok (.iconst 0, 1) := by decide +kernel
set_option maxRecDepth 20000 in
theorem dX4_countWearers_14 : decode cX4_countWearers 14 = .ok (.iastore, 1) := by decide +kernel
set_option maxRecDepth 20000 in
theorem dX4_countWearers_15 : decode cX4_countWearers 15 = .ok (.iinc 1 1, 3) := by decide +kernel
set_option maxRecDepth 20000 in
theorem dX4_countWearers_18 : decode cX4_countWearers 18 = .ok (.goto (-16), 3) := by decide +kernel
set_option maxRecDepth 20000 in
theorem dX4_countWearers_21 : decode cX4_countWearers 21 = .ok (.iconst 0, 1) := by decide +kernel
set_option maxRecDepth 20000 in
theorem dX4_countWearers_22 : decode cX4_countWearers 22 = .ok (.istore_n 1, 1) := by decide +kernel
set_option maxRecDepth 20000 in
theorem dX4_countWearers_23 : decode cX4_countWearers 23 = .ok (.iload_n 1, 1) := by decide +kernel
set_option maxRecDepth 20000 in
theorem dX4_countWearers_24 : decode cX4_countWearers 24 = .ok (.aload_n 0, 1) := by decide +kernel
set_option maxRecDepth 20000 in
theorem dX4_countWearers_25 : decode cX4_countWearers 25 = .ok (.getfield 24, 3) := by decide +kernel
set_option maxRecDepth 20000 in
theorem dX4_countWearers_28 : decode cX4_countWearers 28 = .ok (.getfield 41, 3) := by decide +kernel
set_option maxRecDepth 20000 in
theorem dX4_countWearers_31 : decode cX4_countWearers 31 = .ok (.if_icmp .ge 38, 3) := by decide +kernel
set_option maxRecDepth 20000 in
theorem dX4_countWearers_34 : decode cX4_countWearers 34 = .ok (.aload_n 0, 1) := by decide +kernel
set_option maxRecDepth 20000 in
theorem dX4_countWearers_35 : decode cX4_countWearers 35 = .ok (.getfield 18, 3) := by decide +kernel
set_option maxRecDepth 20000 in
theorem dX4_countWearers_38 : decode cX4_countWearers 38 = .ok (.iload_n 1, 1) := by decide +kernel
set_option maxRecDepth 20000 in
theorem dX4_countWearers_39 : decode cX4_countWearers 39 = .ok (.iaload, 1) := by decide +kernel
set_option maxRecDepth 20000 in
theorem dX4_countWearers_40 : decode cX4_countWearers 40 = .ok (.bipush 8, 2) := by decide +kernel
set_option maxRecDepth 20000 in
theorem dX4_countWearers_42 : decode cX4_countWearers 42 = .ok (.invokestatic 79, 3) := by decide +kernel
set_option maxRecDepth 20000 in
theorem dX4_countWearers_45 : decode cX4_countWearers 45 = .ok (.ifCond .eq 18, 3) := by decide +kernel
set_option maxRecDepth 20000 in
theorem dX4_countWearers_48 : decode cX4_countWearers 48 = .ok (.aload_n 0, 1) := by decide +kernel
set_option maxRecDepth 20000 in
theorem dX4_countWearers_49 : decode cX4_countWearers 49 = .ok (.getfield 21, 3) := by decide +kernel
set_option maxRecDepth 20000 in
theorem dX4_countWearers_52 : decode cX4_countWearers 52 = .ok (.aload_n 0, 1) := by decide +kernel
set_option maxRecDepth 20000 in
theorem dX4_countWearers_53 : decode cX4_countWearers 53 = .ok (.getfield 18, 3) := by decide +kernel
set_option maxRecDepth 20000 in
theorem dX4_countWearers_56 : decode cX4_countWearers 56 = .ok (.iload_n 1, 1) := by decide +kernel
set_option maxRecDepth 20000 in
theorem dX4_countWearers_57 : decode cX4_countWearers 57 = .ok (.iaload, 1) := by decide +kernel
set_option maxRecDepth 20000 in
theorem dX4_countWearers_58 : decode cX4_countWearers 58 = .ok (.dup2, 1) := by decide +kernel
set_option maxRecDepth 20000 in
theorem dX4_countWearers_59 : decode cX4_countWearers 59 = .ok (.iaload, 1) := by decide +kernel
set_option maxRecDepth 20000 in
theorem dX4_countWearers_60 : decode cX4_countWearers 60 = .ok (.iconst 1, 1) := by decide +kernel
set_option maxRecDepth 20000 in
theorem dX4_countWearers_61 : decode cX4_countWearers 61 = .ok (.iadd, 1) := by decide +kernel
set_option maxRecDepth 20000 in
theorem dX4_countWearers_62 : decode cX4_countWearers 62 = .ok (.iastore, 1) := by decide +kernel
set_option maxRecDepth 20000 in
theorem dX4_countWearers_63 : decode cX4_countWearers 63 = .ok (.iinc 1 1, 3) := by decide +kernel
set_option maxRecDepth 20000 in
theorem dX4_countWearers_66 : decode cX4_countWearers 66 = .ok (.goto (-43), 3) := by decide +kernel
set_option maxRecDepth 20000 in
theorem dX4_countWearers_69 : decode cX4_countWearers 69 = .ok (.return_, 1) := by decide +kernel
set_option maxRecDepth 20000 in
theorem dX4_talk_0 : decode cX4_talk 0 = .ok (.iconst 0, 1) := by decide +kernel
set_option maxRecDepth 20000 in
theorem dX4_talk_1 : decode cX4_talk 1 = .ok (.istore_n 2, 1) := by decide +kernel
set_option maxRecDepth 20000 in
theorem dX4_talk_2 : decode cX4_talk 2 = .ok (.iload_n 2, 1) := by decide +kernel
set_option maxRecDepth 20000 in
theorem dX4_talk_3 : decode cX4_talk 3 = .ok (.iconst 1, 1) := by decide +kernel
set_option maxRecDepth 20000 in
theorem dX4_talk_4 : decode cX4_talk 4 = .ok (.iadd, 1) := by decide +kernel
set_option maxRecDepth 20000 in
theorem dX4_talk_5 : decode cX4_talk 5 = .ok (.aload_n 0, 1) := by decide +kernel
set_option maxRecDepth 20000 in
theorem dX4_talk_6 : decode cX4_talk 6 = .ok (.getfield 24, 3) := by decide +kernel
set_option maxRecDepth 20000 in
theorem dX4_talk_9 : decode cX4_talk 9 = .ok (.getfield 83, 3) := by decide +kernel
set_option maxRecDepth 20000 in
theorem dX4_talk_12 : decode cX4_talk 12 = .ok (.if_icmp .ge 67, 3) := by decide +kernel
set_option maxRecDepth 20000 in
theorem dX4_talk_15 : decode cX4_talk 15 = .ok (.aload_n 0, 1) := by decide +kernel
set_option maxRecDepth 20000 in
theorem dX4_talk_16 : decode cX4_talk 16 = .ok (.getfield 21, 3) := by decide +kernel
set_option maxRecDepth 20000 in
theorem dX4_talk_19 : decode cX4_talk 19 = .ok (.iload_n 2, 1) := by decide +kernel
set_option maxRecDepth 20000 in
theorem dX4_talk_20 : decode cX4_talk 20 = .ok (.iaload, 1) := by decide +kernel
set_option maxRecDepth 20000 in
theorem dX4_talk_21 : decode cX4_talk 21 = .ok (.ifCond .ne 52, 3) := by decide +kernel
set_option maxRecDepth 20000 in
theorem dX4_talk_24 : decode cX4_talk 24 = .ok (.aload_n 0, 1) := by decide +kernel
set_option maxRecDepth 20000 in
theorem dX4_talk_25 : decode cX4_talk 25 = .ok (.getfield 21, 3) := by decide +kernel
set_option maxRecDepth 20000 in
theorem dX4_talk_28 : decode cX4_talk 28 = .ok (.iload_n 2, 1) := by decide +kernel
set_option maxRecDepth 20000 in
theorem dX4_talk_29 : decode cX4_talk 29 = .ok (.iconst 1, 1) := by decide +kernel
set_option maxRecDepth 20000 in
theorem dX4_talk_30 : decode cX4_talk 30 = .ok (.iadd, 1) := by decide +kernel
set_option maxRecDepth 20000 in
theorem dX4_talk_31 : decode cX4_talk 31 = .ok (.iaload, 1) := by decide +kernel
set_option maxRecDepth 20000 in
theorem dX4_talk_32 : decode cX4_talk 32 = .ok (.ifCond .ne 41, 3) := by decide +kernel
set_option maxRecDepth 20000 in
theorem dX4_talk_35 : decode cX4_talk 35 = .ok (.iload_n 2, 1) := by decide +kernel
set_option maxRecDepth 20000 in
theorem dX4_talk_36 : decode cX4_talk 36 = .ok (.iconst 5, 1) := by decide +kernel
set_option maxRecDepth 20000 in
theorem dX4_talk_37 : decode cX4_talk 37 = .ok (.imul, 1) := by decide +kernel
set_option maxRecDepth 20000 in
theorem dX4_talk_38 : decode cX4_talk 38 = .ok (.iload_n 1, 1) := by decide +kernel
set_option maxRecDepth 20000 in
theorem dX4_talk_39 : decode cX4_talk 39 = .ok (.iadd, 1) := by decide +kernel
set_option maxRecDepth 20000 in
theorem dX4_talk_40 : decode cX4_talk 40 = .ok (.istore_n 3, 1) := by decide +kernel
set_option maxRecDepth 20000 in
theorem dX4_talk_41 : decode cX4_talk 41 = .ok (.aload_n 0, 1) := by decide +kernel
set_option maxRecDepth 20000 in
theorem dX4_talk_42 : decode cX4_talk 42 = .ok (.getfield 9, 3) := by decide +kernel
set_option maxRecDepth 20000 in
theorem dX4_talk_45 : decode cX4_talk 45 = .ok (.iload_n 3, 1) := by decide +kernel
set_option maxRecDepth 20000 in
theorem dX4_talk_46 : decode cX4_talk 46 = .ok (.aload_n 0, 1) := by decide +kernel
set_option maxRecDepth 20000 in
theorem dX4_talk_47 : decode cX4_talk 47 = .ok (.getfield 9, 3) := by decide +kernel
set_option maxRecDepth 20000 in
theorem dX4_talk_50 : decode cX4_talk 50 = .ok (.iload_n 3, 1) := by decide +kernel
set_option maxRecDepth 20000 in
theorem dX4_talk_51 : decode cX4_talk 51 = .ok (.iaload, 1) := by decide +kernel
set_option maxRecDepth 20000 in
theorem dX4_talk_52 : decode cX4_talk 52 = .ok (.aload_n 0, 1) := by decide +kernel
set_option maxRecDepth 20000 in
theorem dX4_talk_53 : decode cX4_talk 53 = .ok (.getfield 9, 3) := by decide +kernel
set_option maxRecDepth 20000 in
theorem dX4_talk_56 : decode cX4_talk 56 = .ok (.iload_n 3, 1) := by decide +kernel
set_option maxRecDepth 20000 in
theorem dX4_talk_57 : decode cX4_talk 57 = .ok (.iconst 5, 1) := by decide +kernel
set_option maxRecDepth 20000 in
theorem dX4_talk_58 : decode cX4_talk 58 = .ok (.iadd, 1) := by decide +kernel
set_option maxRecDepth 20000 in
theorem dX4_talk_59 : decode cX4_talk 59 = .ok (.iaload, 1) := by decide +kernel
set_option maxRecDepth 20000 in
theorem dX4_talk_60 : decode cX4_talk 60 = .ok (.aload_n 0, 1) := by decide +kernel
set_option maxRecDepth 20000 in
theorem dX4_talk_61 : decode cX4_talk 61 = .ok (.getfield 24, 3) := by decide +kernel
set_option maxRecDepth 20000 in
theorem dX4_talk_64 : decode cX4_talk 64 = .ok (.getfield 86, 3) := by decide +kernel
set_option maxRecDepth 20000 in
theorem dX4_talk_67 : decode cX4_talk 67 = .ok (.iload_n 2, 1) := by decide +kernel
set_option maxRecDepth 20000 in
theorem dX4_talk_68 : decode cX4_talk 68 = .ok (.iaload, 1) := by decide +kernel
set_option maxRecDepth 20000 in
theorem dX4_talk_69 : decode cX4_talk 69 = .ok (.invokestatic 89, 3) := by decide +kernel
set_option maxRecDepth 20000 in
theorem dX4_talk_72 : decode cX4_talk 72 = .ok (.iastore, 1) := by decide +kernel
set_option maxRecDepth 20000 in
theorem dX4_talk_73 : decode cX4_talk 73 = .ok (.iinc 2 1, 3) := by decide +kernel
set_option maxRecDepth 20000 in
theorem dX4_talk_76 : decode cX4_talk 76 = .ok (.goto (-74), 3) := by decide +kernel
set_option maxRecDepth 20000 in
theorem dX4_talk_79 : decode cX4_talk 79 = .ok (.return_, 1) := by decide +kernel
set_option maxRecDepth 20000 in
theorem dX4_learn_0 : decode cX4_learn 0 = .ok (.aload_n 0, 1) := by decide +kernel
set_option maxRecDepth 20000 in
theorem dX4_learn_1 : decode cX4_learn 1 = .ok (.getfield 18, 3) := by decide +kernel
set_option maxRecDepth 20000 in
theorem dX4_learn_4 : decode cX4_learn 4 = .ok (.iload_n 1, 1) := by decide +kernel
set_option maxRecDepth 20000 in
theorem dX4_learn_5 : decode cX4_learn 5 = .ok (.iaload, 1) := by decide +kernel
set_option maxRecDepth 20000 in
theorem dX4_learn_6 : decode cX4_learn 6 = .ok (.istore_n 2, 1) := by decide +kernel
set_option maxRecDepth 20000 in
theorem dX4_learn_7 : decode cX4_learn 7 = .ok (.aload_n 0, 1) := by decide +kernel
set_option maxRecDepth 20000 in
theorem dX4_learn_8 : decode cX4_learn 8 = .ok (.getfield 24, 3) := by decide +kernel
set_option maxRecDepth 20000 in
theorem dX4_learn_11 : decode cX4_learn 11 = .ok (.getfield 93, 3) := by decide +kernel
set_option maxRecDepth 20000 in
theorem dX4_learn_14 : decode cX4_learn 14 = .ok (.iload_n 1, 1) := by decide +kernel
set_option maxRecDepth 20000 in
theorem dX4_learn_15 : decode cX4_learn 15 = .ok (.iaload, 1) := by decide +kernel
set_option maxRecDepth 20000 in
theorem dX4_learn_16 : decode cX4_learn 16 = .ok (.istore_n 3, 1) := by decide +kernel
set_option maxRecDepth 20000 in
theorem dX4_learn_17 : decode cX4_learn 17 = .ok (.aload_n 0, 1) := by decide +kernel
set_option maxRecDepth 20000 in
theorem dX4_learn_18 : decode cX4_learn 18 = .ok (.getfield 24, 3) := by decide +kernel
set_option maxRecDepth 20000 in
theorem dX4_learn_21 : decode cX4_learn 21 = .ok (.iload_n 2, 1) := by decide +kernel
set_option maxRecDepth 20000 in
theorem dX4_learn_22 : decode cX4_learn 22 = .ok (.invokevirtual 47, 3) := by decide +kernel
set_option maxRecDepth 20000 in
theorem dX4_learn_25 : decode cX4_learn 25 = .ok (.ifCond .eq 17, 3) := by decide +kernel
set_option maxRecDepth 20000 in
theorem dX4_learn_28 : decode cX4_learn 28 = .ok (.iload_n 3, 1) := by decide +kernel
set_option maxRecDepth 20000 in
theorem dX4_learn_29 : decode cX4_learn 29 = .ok (.iconst 2, 1) := by decide +kernel
set_option maxRecDepth 20000 in
theorem dX4_learn_30 : decode cX4_learn 30 = .ok (.if_icmp .ne 13, 3) := by decide +kernel
set_option maxRecDepth 20000 in
theorem dX4_learn_33 : decode cX4_learn 33 = .ok (.aload_n 0, 1) := by decide +kernel
set_option maxRecDepth 20000 in
theorem dX4_learn_34 : decode cX4_learn 34 = .ok (.getfield 28, 3) := by decide +kernel
set_option maxRecDepth 20000 in
theorem dX4_learn_37 : decode cX4_learn 37 = .ok (.iconst 2, 1) := by decide +kernel
set_option maxRecDepth 20000 in
theorem dX4_learn_38 : decode cX4_learn 38 = .ok (.irem, 1) := by decide +kernel
set_option maxRecDepth 20000 in
theorem dX4_learn_39 : decode cX4_learn 39 = .ok (.ifCond .eq 4, 3) := by decide +kernel
set_option maxRecDepth 20000 in
theorem dX4_learn_42 : decode cX4_learn 42 = .ok (.return_, 1) := by decide +kernel
set_option maxRecDepth 20000 in
theorem dX4_learn_43 : decode cX4_learn 43 = .ok (.iconst (-1), 1) := by decide +kernel
set_option maxRecDepth 20000 in
theorem dX4_learn_44 : decode cX4_learn 44 = .ok (.istore 4, 2) := by decide +kernel
set_option maxRecDepth 20000 in
theorem dX4_learn_46 : decode cX4_learn 46 = .ok (.iconst 0, 1) := by decide +kernel
set_option maxRecDepth 20000 in
theorem dX4_learn_47 : decode cX4_learn 47 = .ok (.istore 5, 2) := by decide +kernel
set_option maxRecDepth 20000 in
theorem dX4_learn_49 : decode cX4_learn 49 = .ok (.iconst 0, 1) := by decide +kernel
set_option maxRecDepth 20000 in
theorem dX4_learn_50 : decode cX4_learn 50 = .ok (.istore 6, 2) := by decide +kernel
set_option maxRecDepth 20000 in
theorem dX4_learn_52 : decode cX4_learn 52 = .ok (.iload 6, 2) := by decide +kernel
set_option maxRecDepth 20000 in
theorem dX4_learn_54 : decode cX4_learn 54 = .ok (.iconst 5, 1) := by decide +kernel
set_option maxRecDepth 20000 in
theorem dX4_learn_55 : decode cX4_learn 55 = .ok (.if_icmp .ge 92, 3) := by decide +kernel
set_option maxRecDepth 20000 in
theorem dX4_learn_58 : decode cX4_learn 58 = .ok (.aload_n 0, 1) := by decide +kernel
set_option maxRecDepth 20000 in
theorem dX4_learn_59 : decode cX4_learn 59 = .ok (.getfield 15, 3) := by decide +kernel
set_option maxRecDepth 20000 in
theorem dX4_learn_62 : decode cX4_learn 62 = .ok (.iload_n 1, 1) := by decide +kernel
set_option maxRecDepth 20000 in
theorem dX4_learn_63 : decode cX4_learn 63 = .ok (.iconst 5, 1) := by decide +kernel
set_option maxRecDepth 20000 in
theorem dX4_learn_64 : decode cX4_learn 64 = .ok (.imul, 1) := by decide +kernel
set_option maxRecDepth 20000 in
theorem dX4_learn_65 : decode cX4_learn 65 = .ok (.iload 6, 2) := by decide +kernel
set_option maxRecDepth 20000 in
theorem dX4_learn_67 : decode cX4_learn 67 = .ok (.iadd, 1) := by decide +kernel
set_option maxRecDepth 20000 in
theorem dX4_learn_68 : decode cX4_learn 68 = .ok (.iaload, 1) := by decide +kernel
set_option maxRecDepth 20000 in
theorem dX4_learn_69 : decode cX4_learn 69 = .ok (.istore 7, 2) := by decide +kernel
set_option maxRecDepth 20000 in
theorem dX4_learn_71 : decode cX4_learn 71 = .ok (.aload_n 0, 1) := by decide +kernel
set_option maxRecDepth 20000 in
theorem dX4_learn_72 : decode cX4_learn 72 = .ok (.getfield 9, 3) := by decide +kernel
set_option maxRecDepth 20000 in
theorem dX4_learn_75 : decode cX4_learn 75 = .ok (.iload_n 2, 1) := by decide +kernel
set_option maxRecDepth 20000 in
theorem dX4_learn_76 : decode cX4_learn 76 = .ok (.iconst 5, 1) := by decide +kernel
set_option maxRecDepth 20000 in
theorem dX4_learn_77 : decode cX4_learn 77 = .ok (.imul, 1) := by decide +kernel
set_option maxRecDepth 20000 in
theorem dX4_learn_78 : decode cX4_learn 78 = .ok (.iload 6, 2) := by decide +kernel
set_option maxRecDepth 20000 in
theorem dX4_learn_80 : decode cX4_learn 80 = .ok (.iadd, 1) := by decide +kernel
set_option maxRecDepth 20000 in
theorem dX4_learn_81 : decode cX4_learn 81 = .ok (.iaload, 1) := by decide +kernel
set_option maxRecDepth 20000 in
theorem dX4_learn_82 : decode cX4_learn 82 = .ok (.iload 7, 2) := by decide +kernel
set_option maxRecDepth 20000 in
theorem dX4_learn_84 : decode cX4_learn 84 = .ok (.isub, 1) := by decide +kernel
set_option maxRecDepth 20000 in
theorem dX4_learn_85 : decode cX4_learn 85 = .ok (.invokestatic 96, 3) := by decide +kernel
set_option maxRecDepth 20000 in
theorem dX4_learn_88 : decode cX4_learn 88 = .ok (.istore 8, 2) := by decide +kernel
set_option maxRecDepth 20000 in
theorem dX4_learn_90 : decode cX4_learn 90 = .ok (.iload_n 3, 1) := by decide +kernel
set_option maxRecDepth 20000 in
theorem dX4_learn_91 : decode cX4_learn 91 = .ok (.iconst 1, 1) := by decide +kernel
set_option maxRecDepth 20000 in
theorem dX4_learn_92 : decode cX4_learn 92 = .ok (.if_icmp .ne 34, 3) := by decide +kernel
set_option maxRecDepth 20000 in
theorem dX4_learn_95 : decode cX4_learn 95 = .ok (.aload_n 0, 1) := by decide +kernel
set_option maxRecDepth 20000 in
theorem dX4_learn_96 : decode cX4_learn 96 = .ok (.getfield 15, 3) := by decide +kernel
set_option maxRecDepth 20000 in
theorem dX4_learn_99 : decode cX4_learn 99 = .ok (.iload_n 1, 1) := by decide +kernel
set_option maxRecDepth 20000 in
theorem dX4_learn_100 : decode cX4_learn 100 = .ok (.iconst 5, 1) := by decide +kernel
set_option maxRecDepth 20000 in
theorem dX4_learn_101 : decode cX4_learn 101 = .ok (.imul, 1) := by decide +kernel
set_option maxRecDepth 20000 in
theorem dX4_learn_102 : decode cX4_learn 102 = .ok (.iload 6, 2) := by decide +kernel
set_option maxRecDepth 20000 in
theorem dX4_learn_104 : decode cX4_learn 104 = .ok (.iadd, 1) := by decide +kernel
set_option maxRecDepth 20000 in
theorem dX4_learn_105 : decode cX4_learn 105 = .ok (.iload 7, 2) := by decide +kernel
set_option maxRecDepth 20000 in
theorem dX4_learn_107 : decode cX4_learn 107 = .ok (.aload_n 0, 1) := by decide +kernel
set_option maxRecDepth 20000 in
theorem dX4_learn_108 : decode cX4_learn 108 = .ok (.getfield 9, 3) := by decide +kernel
set_option maxRecDepth 20000 in
theorem dX4_learn_111 : decode cX4_learn 111 = .ok (.iload_n 2, 1) := by decide +kernel
set_option maxRecDepth 20000 in
theorem dX4_learn_112 : decode cX4_learn 112 = .ok (.iconst 5, 1) := by decide +kernel
set_option maxRecDepth 20000 in
theorem dX4_learn_113 : decode cX4_learn 113 = .ok (.imul, 1) := by decide +kernel
set_option maxRecDepth 20000 in
theorem dX4_learn_114 : decode cX4_learn 114 = .ok (.iload 6, 2) := by decide +kernel
set_option maxRecDepth 20000 in
theorem dX4_learn_116 : decode cX4_learn 116 = .ok (.iadd, 1) := by decide +kernel
set_option maxRecDepth 20000 in
theorem dX4_learn_117 : decode cX4_learn 117 = .ok (.iaload, 1) := by decide +kernel
set_option maxRecDepth 20000 in
theorem dX4_learn_118 : decode cX4_learn 118 = .ok (.iconst 1, 1) := by decide +kernel
set_option maxRecDepth 20000 in
theorem dX4_learn_119 : decode cX4_learn 119 = .ok (.invokestatic 89, 3) := by decide +kernel
set_option maxRecDepth 20000 in
theorem dX4_learn_122 : decode cX4_learn 122 = .ok (.iastore, 1) := by decide +kernel
set_option maxRecDepth 20000 in
theorem dX4_learn_123 : decode cX4_learn 123 = .ok (.goto 18, 3) := by decide +kernel
set_option maxRecDepth 20000 in
theorem dX4_learn_126 : decode cX4_learn 126 = .ok (.iload 8, 2) := by decide +kernel
set_option maxRecDepth 20000 in
theorem dX4_learn_128 : decode cX4_learn 128 = .ok (.iload 5, 2) := by decide +kernel
set_option maxRecDepth 20000 in
theorem dX4_learn_130 : decode cX4_learn 130 = .ok (.if_icmp .le 11, 3) := by decide +kernel
set_option maxRecDepth 20000 in
theorem dX4_learn_133 : decode cX4_learn 133 = .ok (.iload 8, 2) := by decide +kernel
set_option maxRecDepth 20000 in
theorem dX4_learn_135 : decode cX4_learn 135 = .ok (.istore 5, 2) := by decide +kernel
set_option maxRecDepth 20000 in
theorem dX4_learn_137 : decode cX4_learn 137 = .ok (.iload 6, 2) := by decide +kernel
set_option maxRecDepth 20000 in
theorem dX4_learn_139 : decode cX4_learn 139 = .ok (.istore 4, 2) := by decide +kernel
set_option maxRecDepth 20000 in
theorem dX4_learn_141 : decode cX4_learn 141 = .ok (.iinc 6 1, 3) := by decide +kernel
set_option maxRecDepth 20000 in
theorem dX4_learn_144 : decode cX4_learn 144 = .ok (.goto (-92), 3) := by decide +kernel
set_option maxRecDepth 20000 in
theorem dX4_learn_147 : decode cX4_learn 147 = .ok (.iload 4, 2) := by decide +kernel
set_option maxRecDepth 20000 in
theorem dX4_learn_149 : decode cX4_learn 149 = .ok (.iconst (-1), 1) := by decide +kernel
set_option maxRecDepth 20000 in
theorem dX4_learn_150 : decode cX4_learn 150 = .ok (.if_icmp .eq 40, 3) := by decide +kernel
set_option maxRecDepth 20000 in
theorem dX4_learn_153 : decode cX4_learn 153 = .ok (.iload_n 1, 1) := by decide +kernel
set_option maxRecDepth 20000 in
theorem dX4_learn_154 : decode cX4_learn 154 = .ok (.iconst 5, 1) := by decide +kernel
set_option maxRecDepth 20000 in
theorem dX4_learn_155 : decode cX4_learn 155 = .ok (.imul, 1) := by decide +kernel
set_option maxRecDepth 20000 in
theorem dX4_learn_156 : decode cX4_learn 156 = .ok (.iload 4, 2) := by decide +kernel
set_option maxRecDepth 20000 in
theorem dX4_learn_158 : decode cX4_learn 158 = .ok (.iadd, 1) := by decide +kernel
set_option maxRecDepth 20000 in
theorem dX4_learn_159 : decode cX4_learn 159 = .ok (.istore 6, 2) := by decide +kernel
set_option maxRecDepth 20000 in
theorem dX4_learn_161 : decode cX4_learn 161 = .ok (.aload_n 0, 1) := by decide +kernel
set_option maxRecDepth 20000 in
theorem dX4_learn_162 : decode cX4_learn 162 = .ok (.getfield 15, 3) := by decide +kernel
set_option maxRecDepth 20000 in
theorem dX4_learn_165 : decode cX4_learn 165 = .ok (.iload 6, 2) := by decide +kernel
set_option maxRecDepth 20000 in
theorem dX4_learn_167 : decode cX4_learn 167 = .ok (.aload_n 0, 1) := by decide +kernel
set_option maxRecDepth 20000 in
theorem dX4_learn_168 : decode cX4_learn 168 = .ok (.getfield 15, 3) := by decide +kernel
set_option maxRecDepth 20000 in
theorem dX4_learn_171 : decode cX4_learn 171 = .ok (.iload 6, 2) := by decide +kernel
set_option maxRecDepth 20000 in
theorem dX4_learn_173 : decode cX4_learn 173 = .ok (.iaload, 1) := by decide +kernel
set_option maxRecDepth 20000 in
theorem dX4_learn_174 : decode cX4_learn 174 = .ok (.aload_n 0, 1) := by decide +kernel
set_option maxRecDepth 20000 in
theorem dX4_learn_175 : decode cX4_learn 175 = .ok (.getfield 9, 3) := by decide +kernel
set_option maxRecDepth 20000 in
theorem dX4_learn_178 : decode cX4_learn 178 = .ok (.iload_n 2, 1) := by decide +kernel
set_option maxRecDepth 20000 in
theorem dX4_learn_179 : decode cX4_learn 179 = .ok (.iconst 5, 1) := by decide +kernel
set_option maxRecDepth 20000 in
theorem dX4_learn_180 : decode cX4_learn 180 = .ok (.imul, 1) := by decide +kernel
set_option maxRecDepth 20000 in
theorem dX4_learn_181 : decode cX4_learn 181 = .ok (.iload 4, 2) := by decide +kernel
set_option maxRecDepth 20000 in
theorem dX4_learn_183 : decode cX4_learn 183 = .ok (.iadd, 1) := by decide +kernel
set_option maxRecDepth 20000 in
theorem dX4_learn_184 : decode cX4_learn 184 = .ok (.iaload, 1) := by decide +kernel
set_option maxRecDepth 20000 in
theorem dX4_learn_185 : decode cX4_learn 185 = .ok (.iconst 1, 1) := by decide +kernel
set_option maxRecDepth 20000 in
theorem dX4_learn_186 : decode cX4_learn 186 = .ok (.invokestatic 89, 3) := by decide +kernel
set_option maxRecDepth 20000 in
theorem dX4_learn_189 : decode cX4_learn 189 = .ok (.iastore, 1) := by decide +kernel
set_option maxRecDepth 20000 in
theorem dX4_learn_190 : decode cX4_learn 190 = .ok (.return_, 1) := by decide +kernel
set_option maxRecDepth 20000 in
theorem dX4_towards_0 : decode cX4_towards 0 = .ok (.iload_n 1, 1) := by decide +kernel
set_option maxRecDepth 20000 in
theorem dX4_towards_1 : decode cX4_towards 1 = .ok (.iload_n 0, 1) := by decide +kernel
set_option maxRecDepth 20000 in
theorem dX4_towards_2 : decode cX4_towards 2 = .ok (.if_icmp .le 18, 3) := by decide +kernel
set_option maxRecDepth 20000 in
theorem dX4_towards_5 : decode cX4_towards 5 = .ok (.iload_n 1, 1) := by decide +kernel
set_option maxRecDepth 20000 in
theorem dX4_towards_6 : decode cX4_towards 6 = .ok (.iload_n 0, 1) := by decide +kernel
set_option maxRecDepth 20000 in
theorem dX4_towards_7 : decode cX4_towards 7 = .ok (.isub, 1) := by decide +kernel
set_option maxRecDepth 20000 in
theorem dX4_towards_8 : decode cX4_towards 8 = .ok (.iload_n 2, 1) := by decide +kernel
set_option maxRecDepth 20000 in
theorem dX4_towards_9 : decode cX4_towards 9 = .ok (.if_icmp .le 9, 3) := by decide +kernel
set_option maxRecDepth 20000 in
theorem dX4_towards_12 : decode cX4_towards 12 = .ok (.iload_n 0, 1) := by decide +kernel
set_option maxRecDepth 20000 in
theorem dX4_towards_13 : decode cX4_towards 13 = .ok (.iload_n 2, 1) := by decide +kernel
set_option maxRecDepth 20000 in
theorem dX4_towards_14 : decode cX4_towards 14 = .ok (.iadd, 1) := by decide +kernel
set_option maxRecDepth 20000 in
theorem dX4_towards_15 : decode cX4_towards 15 = .ok (.goto 4, 3) := by decide +kernel
set_option maxRecDepth 20000 in
theorem dX4_towards_18 : decode cX4_towards 18 = .ok (.iload_n 1, 1) := by decide +kernel
set_option maxRecDepth 20000 in
theorem dX4_towards_19 : decode cX4_towards 19 = .ok (.ireturn, 1) := by decide +kernel
set_option maxRecDepth 20000 in
theorem dX4_towards_20 : decode cX4_towards 20 = .ok (.iload_n 0, 1) := by decide +kernel
set_option maxRecDepth 20000 in
theorem dX4_towards_21 : decode cX4_towards 21 = .ok (.iload_n 1, 1) := by decide +kernel
set_option maxRecDepth 20000 in
theorem dX4_towards_22 : decode cX4_towards 22 = .ok (.isub, 1) := by decide +kernel
set_option maxRecDepth 20000 in
theorem dX4_towards_23 : decode cX4_towards 23 = .ok (.iload_n 2, 1) := by decide +kernel
set_option maxRecDepth 20000 in
theorem dX4_towards_24 : decode cX4_towards 24 = .ok (.if_icmp .le 9, 3) := by decide +kernel
set_option maxRecDepth 20000 in
theorem dX4_towards_27 : decode cX4_towards 27 = .ok (.iload_n 0, 1) := by decide +kernel
set_option maxRecDepth 20000 in
theorem dX4_towards_28 : decode cX4_towards 28 = .ok (.iload_n 2, 1) := by decide +kernel
set_option maxRecDepth 20000 in
theorem dX4_towards_29 : decode cX4_towards 29 = .ok (.isub, 1) := by decide +kernel
set_option maxRecDepth 20000 in
theorem dX4_towards_30 : decode cX4_towards 30 = .ok (.goto 4, 3) := by decide +kernel
set_option maxRecDepth 20000 in
theorem dX4_towards_33 : decode cX4_towards 33 = .ok (.iload_n 1, 1) := by decide +kernel
set_option maxRecDepth 20000 in
theorem dX4_towards_34 : decode cX4_towards 34 = .ok (.ireturn, 1) := by decide +kernel
set_option maxRecDepth 20000 in
theorem dX4_far_0 : decode cX4_far 0 = .ok (.iconst 0, 1) := by decide +kernel
set_option maxRecDepth 20000 in
theorem dX4_far_1 : decode cX4_far 1 = .ok (.istore_n 3, 1) := by decide +kernel
set_option maxRecDepth 20000 in
theorem dX4_far_2 : decode cX4_far 2 = .ok (.iconst 0, 1) := by decide +kernel
set_option maxRecDepth 20000 in
theorem dX4_far_3 : decode cX4_far 3 = .ok (.istore 4, 2) := by decide +kernel
set_option maxRecDepth 20000 in
theorem dX4_far_5 : decode cX4_far 5 = .ok (.iload 4, 2) := by decide +kernel
set_option maxRecDepth 20000 in
theorem dX4_far_7 : decode cX4_far 7 = .ok (.iconst 5, 1) := by decide +kernel
set_option maxRecDepth 20000 in
theorem dX4_far_8 : decode cX4_far 8 = .ok (.if_icmp .ge 38, 3) := by decide +kernel
set_option maxRecDepth 20000 in
theorem dX4_far_11 : decode cX4_far 11 = .ok (.iload_n 3, 1) := by decide +kernel
set_option maxRecDepth 20000 in
theorem dX4_far_12 : decode cX4_far 12 = .ok (.aload_n 0, 1) := by decide +kernel
set_option maxRecDepth 20000 in
theorem dX4_far_13 : decode cX4_far 13 = .ok (.getfield 15, 3) := by decide +kernel
set_option maxRecDepth 20000 in
theorem dX4_far_16 : decode cX4_far 16 = .ok (.iload_n 1, 1) := by decide +kernel
set_option maxRecDepth 20000 in
theorem dX4_far_17 : decode cX4_far 17 = .ok (.iconst 5, 1) := by decide +kernel
set_option maxRecDepth 20000 in
theorem dX4_far_18 : decode cX4_far 18 = .ok (.imul, 1) := by decide +kernel
set_option maxRecDepth 20000 in
theorem dX4_far_19 : decode cX4_far 19 = .ok (.iload 4, 2) := by decide +kernel
set_option maxRecDepth 20000 in
theorem dX4_far_21 : decode cX4_far 21 = .ok (.iadd, 1) := by decide +kernel
set_option maxRecDepth 20000 in
theorem dX4_far_22 : decode cX4_far 22 = .ok (.iaload, 1) := by decide +kernel
set_option maxRecDepth 20000 in
theorem dX4_far_23 : decode cX4_far 23 = .ok (.aload_n 0, 1) := by decide +kernel
set_option maxRecDepth 20000 in
theorem dX4_far_24 : decode cX4_far 24 = .ok (.getfield 9, 3) := by decide +kernel
set_option maxRecDepth 20000 in
theorem dX4_far_27 : decode cX4_far 27 = .ok (.iload_n 2, 1) := by decide +kernel
set_option maxRecDepth 20000 in
theorem dX4_far_28 : decode cX4_far 28 = .ok (.iconst 5, 1) := by decide +kernel
set_option maxRecDepth 20000 in
theorem dX4_far_29 : decode cX4_far 29 = .ok (.imul, 1) := by decide +kernel
set_option maxRecDepth 20000 in
theorem dX4_far_30 : decode cX4_far 30 = .ok (.iload 4, 2) := by decide +kernel
set_option maxRecDepth 20000 in
theorem dX4_far_32 : decode cX4_far 32 = .ok (.iadd, 1) := by decide +kernel
set_option maxRecDepth 20000 in
theorem dX4_far_33 : decode cX4_far 33 = .ok (.iaload, 1) := by decide +kernel
set_option maxRecDepth 20000 in
theorem dX4_far_34 : decode cX4_far 34 = .ok (.isub, 1) := by decide +kernel
set_option maxRecDepth 20000 in
theorem dX4_far_35 : decode cX4_far 35 = .ok (.invokestatic 96, 3) := by decide +kernel
set_option maxRecDepth 20000 in
theorem dX4_far_38 : decode cX4_far 38 = .ok (.iadd, 1) := by decide +kernel
set_option maxRecDepth 20000 in
theorem dX4_far_39 : decode cX4_far 39 = .ok (.istore_n 3, 1) := by decide +kernel
set_option maxRecDepth 20000 in
theorem dX4_far_40 : decode cX4_far 40 = .ok (.iinc 4 1, 3) := by decide +kernel
set_option maxRecDepth 20000 in
theorem dX4_far_43 : decode cX4_far 43 = .ok (.goto (-38), 3) := by decide +kernel
set_option maxRecDepth 20000 in
theorem dX4_far_46 : decode cX4_far 46 = .ok (.iload_n 3, 1) := by decide +kernel
set_option maxRecDepth 20000 in
theorem dX4_far_47 : decode cX4_far 47 = .ok (.ireturn, 1) := by decide +kernel
set_option maxRecDepth 20000 in
theorem dX4_takenFor_0 : decode cX4_takenFor 0 = .ok (.iconst (-1), 1) := by decide +kernel
set_option maxRecDepth 20000 in
theorem dX4_takenFor_1 : decode cX4_takenFor 1 = .ok (.istore_n 2, 1) := by decide +kernel
set_option maxRecDepth 20000 in
theorem dX4_takenFor_2 : decode cX4_takenFor 2 = .ok (.iconst 0, 1) := by decide +kernel
set_option maxRecDepth 20000 in
theorem dX4_takenFor_3 : decode cX4_takenFor 3 = .ok (.istore_n 3, 1) := by decide +kernel
set_option maxRecDepth 20000 in
theorem dX4_takenFor_4 : decode cX4_takenFor 4 = .ok (.iconst 0, 1) := by decide +kernel
set_option maxRecDepth 20000 in
theorem dX4_takenFor_5 : decode cX4_takenFor 5 = .ok (.istore 4, 2) := by decide +kernel
set_option maxRecDepth 20000 in
theorem dX4_takenFor_7 : decode cX4_takenFor 7 = .ok (.iload 4, 2) := by decide +kernel
set_option maxRecDepth 20000 in
theorem dX4_takenFor_9 : decode cX4_takenFor 9 = .ok (.aload_n 0, 1) := by decide +kernel
set_option maxRecDepth 20000 in
theorem dX4_takenFor_10 : decode cX4_takenFor 10 = .ok (.getfield 24, 3) := by decide +kernel
set_option maxRecDepth 20000 in
theorem dX4_takenFor_13 : decode cX4_takenFor 13 = .ok (.getfield 83, 3) := by decide +kernel
set_option maxRecDepth 20000 in
theorem dX4_takenFor_16 : decode cX4_takenFor 16 = .ok (.if_icmp .ge 35, 3) := by decide +kernel
set_option maxRecDepth 20000 in
theorem dX4_takenFor_19 : decode cX4_takenFor 19 = .ok (.aload_n 0, 1) := by decide +kernel
set_option maxRecDepth 20000 in
theorem dX4_takenFor_20 : decode cX4_takenFor 20 = .ok (.iload_n 1, 1) := by decide +kernel
set_option maxRecDepth 20000 in
theorem dX4_takenFor_21 : decode cX4_takenFor 21 = .ok (.iload 4, 2) := by decide +kernel
set_option maxRecDepth 20000 in
theorem dX4_takenFor_23 : decode cX4_takenFor 23 = .ok (.invokevirtual 102, 3) := by decide +kernel
set_option maxRecDepth 20000 in
theorem dX4_takenFor_26 : decode cX4_takenFor 26 = .ok (.istore 5, 2) := by decide +kernel
set_option maxRecDepth 20000 in
theorem dX4_takenFor_28 : decode cX4_takenFor 28 = .ok (.iload_n 2, 1) := by decide +kernel
set_option maxRecDepth 20000 in
theorem dX4_takenFor_29 : decode cX4_takenFor 29 = .ok (.iconst (-1), 1) := by decide +kernel
set_option maxRecDepth 20000 in
theorem dX4_takenFor_30 : decode cX4_takenFor 30 = .ok (.if_icmp .eq 9, 3) := by decide +kernel
set_option maxRecDepth 20000 in
theorem dX4_takenFor_33 : decode cX4_takenFor 33 = .ok (.iload 5, 2) := by decide +kernel
set_option maxRecDepth 20000 in
theorem dX4_takenFor_35 : decode cX4_takenFor 35 = .ok (.iload_n 3, 1) := by decide +kernel
set_option maxRecDepth 20000 in
theorem dX4_takenFor_36 : decode cX4_takenFor 36 = .ok (.if_icmp .ge 9, 3) := by decide +kernel
set_option maxRecDepth 20000 in
theorem dX4_takenFor_39 : decode cX4_takenFor 39 = .ok (.iload 4, 2) := by decide +kernel
set_option maxRecDepth 20000 in
theorem dX4_takenFor_41 : decode cX4_takenFor 41 = .ok (.istore_n 2, 1) := by decide +kernel
set_option maxRecDepth 20000 in
theorem dX4_takenFor_42 : decode cX4_takenFor 42 = .ok (.iload 5, 2) := by decide +kernel
set_option maxRecDepth 20000 in
theorem dX4_takenFor_44 : decode cX4_takenFor 44 = .ok (.istore_n 3, 1) := by decide +kernel
set_option maxRecDepth 20000 in
theorem dX4_takenFor_45 : decode cX4_takenFor 45 = .ok (.iinc 4 1, 3) := by decide +kernel
set_option maxRecDepth 20000 in
theorem dX4_takenFor_48 : decode cX4_takenFor 48 = .ok (.goto (-41), 3) := by decide +kernel
set_option maxRecDepth 20000 in
theorem dX4_takenFor_51 : decode cX4_takenFor 51 = .ok (.iload_n 2, 1) := by decide +kernel
set_option maxRecDepth 20000 in
theorem dX4_takenFor_52 : decode cX4_takenFor 52 = .ok (.ireturn, 1) := by decide +kernel
set_option maxRecDepth 20000 in
theorem dX4_astrayBits_0 : decode cX4_astrayBits 0 = .ok (.iconst 0, 1) := by decide +kernel
set_option maxRecDepth 20000 in
theorem dX4_astrayBits_1 : decode cX4_astrayBits 1 = .ok (.istore_n 1, 1) := by decide +kernel
set_option maxRecDepth 20000 in
theorem dX4_astrayBits_2 : decode cX4_astrayBits 2 = .ok (.iconst 0, 1) := by decide +kernel
set_option maxRecDepth 20000 in
theorem dX4_astrayBits_3 : decode cX4_astrayBits 3 = .ok (.istore_n 2, 1) := by decide +kernel
set_option maxRecDepth 20000 in
theorem dX4_astrayBits_4 : decode cX4_astrayBits 4 = .ok (.iload_n 2, 1) := by decide +kernel
set_option maxRecDepth 20000 in
theorem dX4_astrayBits_5 : decode cX4_astrayBits 5 = .ok (.aload_n 0, 1) := by decide +kernel
set_option maxRecDepth 20000 in
theorem dX4_astrayBits_6 : decode cX4_astrayBits 6 = .ok (.getfield 24, 3) := by decide +kernel
set_option maxRecDepth 20000 in
theorem dX4_astrayBits_9 : decode cX4_astrayBits 9 = .ok (.getfield 41, 3) := by decide +kernel
set_option maxRecDepth 20000 in
theorem dX4_astrayBits_12 : decode cX4_astrayBits 12 = .ok (.if_icmp .ge 39, 3) := by decide +kernel
set_option maxRecDepth 20000 in
theorem dX4_astrayBits_15 : decode cX4_astrayBits 15 = .ok (.aload_n 0, 1) := by decide +kernel
set_option maxRecDepth 20000 in
theorem dX4_astrayBits_16 : decode cX4_astrayBits 16 = .ok (.iload_n 2, 1) := by decide +kernel
set_option maxRecDepth 20000 in
theorem dX4_astrayBits_17 : decode cX4_astrayBits 17 = .ok (.invokevirtual 106, 3) := by decide +kernel
set_option maxRecDepth 20000 in
theorem dX4_astrayBits_20 : decode cX4_astrayBits 20 = .ok (.istore_n 3, 1) := by decide +kernel
set_option maxRecDepth 20000 in
theorem dX4_astrayBits_21 : decode cX4_astrayBits 21 = .ok (.iload_n 3, 1) := by decide +kernel
set_option maxRecDepth 20000 in
theorem dX4_astrayBits_22 : decode cX4_astrayBits 22 = .ok (.iconst (-1), 1) := by decide +kernel
set_option maxRecDepth 20000 in
theorem dX4_astrayBits_23 : decode cX4_astrayBits 23 = .ok (.if_icmp .eq 22, 3) := by decide +kernel
set_option maxRecDepth 20000 in
theorem dX4_astrayBits_26 : decode cX4_astrayBits 26 = .ok (.iload_n 3, 1) := by decide +kernel
set_option maxRecDepth 20000 in
theorem dX4_astrayBits_27 : decode cX4_astrayBits 27 = .ok (.aload_n 0, 1) := by decide +kernel
set_option maxRecDepth 20000 in
theorem dX4_astrayBits_28 : decode cX4_astrayBits 28 = .ok (.getfield 24, 3) := by decide +kernel
set_option maxRecDepth 20000 in
theorem dX4_astrayBits_31 : decode cX4_astrayBits 31 = .ok (.getfield 44, 3) := by decide +kernel
set_option maxRecDepth 20000 in
theorem dX4_astrayBits_34 : decode cX4_astrayBits 34 = .ok (.iload_n 2, 1) := by decide +kernel
set_option maxRecDepth 20000 in
theorem dX4_astrayBits_35 : decode cX4_astrayBits 35 = .ok (.iaload, 1) := by decide +kernel
set_option maxRecDepth 20000 in
theorem dX4_astrayBits_36 : decode cX4_astrayBits 36 = .ok (.if_icmp .eq 9, 3) := by decide +kernel
set_option maxRecDepth 20000 in
theorem dX4_astrayBits_39 : decode cX4_astrayBits 39 = .ok (.iload_n 1, 1) := by decide +kernel
set_option maxRecDepth 20000 in
theorem dX4_astrayBits_40 : decode cX4_astrayBits 40 = .ok (.iconst 1, 1) := by decide +kernel
set_option maxRecDepth 20000 in
theorem dX4_astrayBits_41 : decode cX4_astrayBits 41 = .ok (.iload_n 2, 1) := by decide +kernel
set_option maxRecDepth 20000 in
theorem dX4_astrayBits_42 : decode cX4_astrayBits 42 = .ok (.ishl, 1) := by decide +kernel
set_option maxRecDepth 20000 in
theorem dX4_astrayBits_43 : decode cX4_astrayBits 43 = .ok (.ior, 1) := by decide +kernel
set_option maxRecDepth 20000 in
theorem dX4_astrayBits_44 : decode cX4_astrayBits 44 = .ok (.istore_n 1, 1) := by decide +kernel
set_option maxRecDepth 20000 in
theorem dX4_astrayBits_45 : decode cX4_astrayBits 45 = .ok (.iinc 2 1, 3) := by decide +kernel
set_option maxRecDepth 20000 in
theorem dX4_astrayBits_48 : decode cX4_astrayBits 48 = .ok (.goto (-44), 3) := by decide +kernel
set_option maxRecDepth 20000 in
theorem dX4_astrayBits_51 : decode cX4_astrayBits 51 = .ok (.iload_n 1, 1) := by decide +kernel
set_option maxRecDepth 20000 in
theorem dX4_astrayBits_52 : decode cX4_astrayBits 52 = .ok (.ireturn, 1) := by decide +kernel
set_option maxRecDepth 20000 in
theorem dX4_isAnother_0 : decode cX4_isAnother 0 = .ok (.aload_n 0, 1) := by decide +kernel
set_option maxRecDepth 20000 in
theorem dX4_isAnother_1 : decode cX4_isAnother 1 = .ok (.getfield 18, 3) := by decide +kernel
set_option maxRecDepth 20000 in
theorem dX4_isAnother_4 : decode cX4_isAnother 4 = .ok (.iload_n 1, 1) := by decide +kernel
set_option maxRecDepth 20000 in
theorem dX4_isAnother_5 : decode cX4_isAnother 5 = .ok (.iaload, 1) := by decide +kernel
set_option maxRecDepth 20000 in
theorem dX4_isAnother_6 : decode cX4_isAnother 6 = .ok (.istore_n 2, 1) := by decide +kernel
set_option maxRecDepth 20000 in
theorem dX4_isAnother_7 : decode cX4_isAnother 7 = .ok (.iload_n 2, 1) := by decide +kernel
set_option maxRecDepth 20000 in
theorem dX4_isAnother_8 : decode cX4_isAnother 8 = .ok (.aload_n 0, 1) := by decide +kernel
set_option maxRecDepth 20000 in
theorem dX4_isAnother_9 : decode cX4_isAnother 9 = .ok (.getfield 24, 3) := by decide +kernel
set_option maxRecDepth 20000 in
theorem dX4_isAnother_12 : decode cX4_isAnother 12 = .ok (.getfield 44, 3) := by decide +kernel
set_option maxRecDepth 20000 in
theorem dX4_isAnother_15 : decode cX4_isAnother 15 = .ok (.iload_n 1, 1) := by decide +kernel
set_option maxRecDepth 20000 in
theorem dX4_isAnother_16 : decode cX4_isAnother 16 = .ok (.iaload, 1) := by decide +kernel
set_option maxRecDepth 20000 in
theorem dX4_isAnother_17 : decode cX4_isAnother 17 = .ok (.if_icmp .eq 27, 3) := by decide +kernel
set_option maxRecDepth 20000 in
theorem dX4_isAnother_20 : decode cX4_isAnother 20 = .ok (.aload_n 0, 1) := by decide +kernel
set_option maxRecDepth 20000 in
theorem dX4_isAnother_21 : decode cX4_isAnother 21 = .ok (.getfield 24, 3) := by decide +kernel
set_option maxRecDepth 20000 in
theorem dX4_isAnother_24 : decode cX4_isAnother 24 = .ok (.iload_n 2, 1) := by decide +kernel
set_option maxRecDepth 20000 in
theorem dX4_isAnother_25 : decode cX4_isAnother 25 = .ok (.invokevirtual 47, 3) := by decide +kernel
set_option maxRecDepth 20000 in
theorem dX4_isAnother_28 : decode cX4_isAnother 28 = .ok (.ifCond .eq 16, 3) := by decide +kernel
set_option maxRecDepth 20000 in
theorem dX4_isAnother_31 : decode cX4_isAnother 31 = .ok (.aload_n 0, 1) := by decide +kernel
set_option maxRecDepth 20000 in
theorem dX4_isAnother_32 : decode cX4_isAnother 32 = .ok (.iload_n 1, 1) := by decide +kernel
set_option maxRecDepth 20000 in
theorem dX4_isAnother_33 : decode cX4_isAnother 33 = .ok (.iload_n 2, 1) := by decide +kernel
set_option maxRecDepth 20000 in
theorem dX4_isAnother_34 : decode cX4_isAnother 34 = .ok (.invokevirtual 102, 3) := by decide +kernel
set_option maxRecDepth 20000 in
theorem dX4_isAnother_37 : decode cX4_isAnother 37 = .ok (.ifCond .ne 7, 3) := by decide +kernel
set_option maxRecDepth 20000 in
theorem dX4_isAnother_40 : decode cX4_isAnother 40 = .ok (.iconst 1, 1) := by decide +kernel
set_option maxRecDepth 20000 in
theorem dX4_isAnother_41 : decode cX4_isAnother 41 = .ok (.goto 4, 3) := by decide +kernel
set_option maxRecDepth 20000 in
theorem dX4_isAnother_44 : decode cX4_isAnother 44 = .ok (.iconst 0, 1) := by decide +kernel
set_option maxRecDepth 20000 in
theorem dX4_isAnother_45 : decode cX4_isAnother 45 = .ok (.ireturn, 1) := by decide +kernel
