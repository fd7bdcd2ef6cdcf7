theorem dX5_init_0 : decode cX5_init 0 = .ok (.aload_n 0, 1) := by decide +kernel
theorem dX5_init_1 : decode cX5_init 1 = .ok (.invokespecial 1, 3) := by decide +kernel
theorem dX5_init_4 : decode cX5_init 4 = .ok (.aload_n 0, 1) := by decide +kernel
theorem dX5_init_5 : decode cX5_init 5 = .ok (.bipush 83, 2) := by decide +kernel
theorem dX5_init_7 : decode cX5_init 7 = .ok (.newarray .int, 2) := by decide +kernel
theorem dX5_init_9 : decode cX5_init 9 = .ok (.putfield 7, 3) := by decide +kernel
theorem dX5_init_12 : decode cX5_init 12 = .ok (.aload_n 0, 1) := by decide +kernel
theorem dX5_init_13 : decode cX5_init 13 = .ok (.sipush 664, 3) := by decide +kernel
theorem dX5_init_16 : decode cX5_init 16 = .ok (.newarray .int, 2) := by decide +kernel
theorem dX5_init_18 : decode cX5_init 18 = .ok (.putfield 13, 3) := by decide +kernel
theorem dX5_init_21 : decode cX5_init 21 = .ok (.aload_n 0, 1) := by decide +kernel
theorem dX5_init_22 : decode cX5_init 22 = .ok (.bipush 83, 2) := by decide +kernel
theorem dX5_init_24 : decode cX5_init 24 = .ok (.newarray .int, 2) := by decide +kernel
theorem dX5_init_26 : decode cX5_init 26 = .ok (.putfield 16, 3) := by decide +kernel
theorem dX5_init_29 : decode cX5_init 29 = .ok (.aload_n 0, 1) := by decide +kernel
theorem dX5_init_30 : decode cX5_init 30 = .ok (.bipush 83, 2) := by decide +kernel
theorem dX5_init_32 : decode cX5_init 32 = .ok (.newarray .int, 2) := by decide +kernel
theorem dX5_init_34 : decode cX5_init 34 = .ok (.putfield 19, 3) := by decide +kernel
theorem dX5_init_37 : decode cX5_init 37 = .ok (.aload_n 0, 1) := by decide +kernel
theorem dX5_init_38 : decode cX5_init 38 = .ok (.bipush 83, 2) := by decide +kernel
theorem dX5_init_40 : decode cX5_init 40 = .ok (.newarray .int, 2) := by decide +kernel
theorem dX5_init_42 : decode cX5_init 42 = .ok (.putfield 22, 3) := by decide +kernel
theorem dX5_init_45 : decode cX5_init 45 = .ok (.aload_n 0, 1) := by decide +kernel
theorem dX5_init_46 : decode cX5_init 46 = .ok (.bipush 10, 2) := by decide +kernel
theorem dX5_init_48 : decode cX5_init 48 = .ok (.newarray .int, 2) := by decide +kernel
theorem dX5_init_50 : decode cX5_init 50 = .ok (.putfield 25, 3) := by decide +kernel
theorem dX5_init_53 : decode cX5_init 53 = .ok (.aload_n 0, 1) := by decide +kernel
theorem dX5_init_54 : decode cX5_init 54 = .ok (.bipush 60, 2) := by decide +kernel
theorem dX5_init_56 : decode cX5_init 56 = .ok (.newarray .int, 2) := by decide +kernel
theorem dX5_init_58 : decode cX5_init 58 = .ok (.putfield 28, 3) := by decide +kernel
theorem dX5_init_61 : decode cX5_init 61 = .ok (.aload_n 0, 1) := by decide +kernel
theorem dX5_init_62 : decode cX5_init 62 = .ok (.iconst (-1), 1) := by decide +kernel
theorem dX5_init_63 : decode cX5_init 63 = .ok (.putfield 31, 3) := by decide +kernel
theorem dX5_init_66 : decode cX5_init 66 = .ok (.aload_n 0, 1) := by decide +kernel
theorem dX5_init_67 : decode cX5_init 67 = .ok (.sipush 200, 3) := by decide +kernel
theorem dX5_init_70 : decode cX5_init 70 = .ok (.newarray .char, 2) := by decide +kernel
theorem dX5_init_72 : decode cX5_init 72 = .ok (.putfield 35, 3) := by decide +kernel
theorem dX5_init_75 : decode cX5_init 75 = .ok (.aload_n 0, 1) := by decide +kernel
theorem dX5_init_76 : decode cX5_init 76 = .ok (.bipush 93, 2) := by decide +kernel
theorem dX5_init_78 : decode cX5_init 78 = .ok (.newarray .int, 2) := by decide +kernel
theorem dX5_init_80 : decode cX5_init 80 = .ok (.putfield 39, 3) := by decide +kernel
theorem dX5_init_83 : decode cX5_init 83 = .ok (.aload_n 0, 1) := by decide +kernel
theorem dX5_init_84 : decode cX5_init 84 = .ok (.getfield 7, 3) := by decide +kernel
theorem dX5_init_87 : decode cX5_init 87 = .ok (.iconst 4, 1) := by decide +kernel
theorem dX5_init_88 : decode cX5_init 88 = .ok (.iconst 5, 1) := by decide +kernel
theorem dX5_init_89 : decode cX5_init 89 = .ok (.iastore, 1) := by decide +kernel
theorem dX5_init_90 : decode cX5_init 90 = .ok (.return_, 1) := by decide +kernel
theorem dX5_thrown_0 : decode cX5_thrown 0 = .ok (.aload_n 0, 1) := by decide +kernel
theorem dX5_thrown_1 : decode cX5_thrown 1 = .ok (.getfield 42, 3) := by decide +kernel
theorem dX5_thrown_4 : decode cX5_thrown 4 = .ok (.ireturn, 1) := by decide +kernel
theorem dX5_fails_0 : decode cX5_fails 0 = .ok (.aload_n 0, 1) := by decide +kernel
theorem dX5_fails_1 : decode cX5_fails 1 = .ok (.iload_n 1, 1) := by decide +kernel
theorem dX5_fails_2 : decode cX5_fails 2 = .ok (.putfield 42, 3) := by decide +kernel
theorem dX5_fails_5 : decode cX5_fails 5 = .ok (.aload_n 0, 1) := by decide +kernel
theorem dX5_fails_6 : decode cX5_fails 6 = .ok (.iconst 0, 1) := by decide +kernel
theorem dX5_fails_7 : decode cX5_fails 7 = .ok (.putfield 45, 3) := by decide +kernel
theorem dX5_fails_10 : decode cX5_fails 10 = .ok (.iload_n 1, 1) := by decide +kernel
theorem dX5_fails_11 : decode cX5_fails 11 = .ok (.ifCond .le 7, 3) := by decide +kernel
theorem dX5_fails_14 : decode cX5_fails 14 = .ok (.iconst 1, 1) := by decide +kernel
theorem dX5_fails_15 : decode cX5_fails 15 = .ok (.goto 4, 3) := by decide +kernel
theorem dX5_fails_18 : decode cX5_fails 18 = .ok (.iconst 0, 1) := by decide +kernel
theorem dX5_fails_19 : decode cX5_fails 19 = .ok (.ireturn, 1) := by decide +kernel
theorem dX5_denies_0 : decode cX5_denies 0 = .ok (.aload_n 0, 1) := by decide +kernel
theorem dX5_denies_1 : decode cX5_denies 1 = .ok (.iload_n 1, 1) := by decide +kernel
theorem dX5_denies_2 : decode cX5_denies 2 = .ok (.putfield 42, 3) := by decide +kernel
theorem dX5_denies_5 : decode cX5_denies 5 = .ok (.aload_n 0, 1) := by decide +kernel
theorem dX5_denies_6 : decode cX5_denies 6 = .ok (.iconst 1, 1) := by decide +kernel
theorem dX5_denies_7 : decode cX5_denies 7 = .ok (.putfield 45, 3) := by decide +kernel
theorem dX5_denies_10 : decode cX5_denies 10 = .ok (.aload_n 0, 1) := by decide +kernel
theorem dX5_denies_11 : decode cX5_denies 11 = .ok (.iload_n 2, 1) := by decide +kernel
theorem dX5_denies_12 : decode cX5_denies 12 = .ok (.putfield 49, 3) := by decide +kernel
theorem dX5_denies_15 : decode cX5_denies 15 = .ok (.aload_n 0, 1) := by decide +kernel
theorem dX5_denies_16 : decode cX5_denies 16 = .ok (.iload_n 3, 1) := by decide +kernel
theorem dX5_denies_17 : decode cX5_denies 17 = .ok (.putfield 52, 3) := by decide +kernel
theorem dX5_denies_20 : decode cX5_denies 20 = .ok (.aload_n 0, 1) := by decide +kernel
theorem dX5_denies_21 : decode cX5_denies 21 = .ok (.iconst 0, 1) := by decide +kernel
theorem dX5_denies_22 : decode cX5_denies 22 = .ok (.putfield 55, 3) := by decide +kernel
theorem dX5_denies_25 : decode cX5_denies 25 = .ok (.iconst 0, 1) := by decide +kernel
theorem dX5_denies_26 : decode cX5_denies 26 = .ok (.ireturn, 1) := by decide +kernel
theorem dX5_in_0 : decode cX5_in 0 = .ok (.iload_n 0, 1) := by decide +kernel
theorem dX5_in_1 : decode cX5_in 1 = .ok (.iload_n 1, 1) := by decide +kernel
theorem dX5_in_2 : decode cX5_in 2 = .ok (.if_icmp .lt 12, 3) := by decide +kernel
theorem dX5_in_5 : decode cX5_in 5 = .ok (.iload_n 0, 1) := by decide +kernel
theorem dX5_in_6 : decode cX5_in 6 = .ok (.iload_n 2, 1) := by decide +kernel
theorem dX5_in_7 : decode cX5_in 7 = .ok (.if_icmp .gt 7, 3) := by decide +kernel
theorem dX5_in_10 : decode cX5_in 10 = .ok (.iconst 1, 1) := by decide +kernel
theorem dX5_in_11 : decode cX5_in 11 = .ok (.goto 4, 3) := by decide +kernel
theorem dX5_in_14 : decode cX5_in 14 = .ok (.iconst 0, 1) := by decide +kernel
theorem dX5_in_15 : decode cX5_in 15 = .ok (.ireturn, 1) := by decide +kernel
theorem dX5_least_0 : decode cX5_least 0 = .ok (.iload_n 0, 1) := by decide +kernel
theorem dX5_least_1 : decode cX5_least 1 = .ok (.iload_n 1, 1) := by decide +kernel
theorem dX5_least_2 : decode cX5_least 2 = .ok (.if_icmp .ge 7, 3) := by decide +kernel
theorem dX5_least_5 : decode cX5_least 5 = .ok (.iload_n 0, 1) := by decide +kernel
theorem dX5_least_6 : decode cX5_least 6 = .ok (.goto 4, 3) := by decide +kernel
theorem dX5_least_9 : decode cX5_least 9 = .ok (.iload_n 1, 1) := by decide +kernel
theorem dX5_least_10 : decode cX5_least 10 = .ok (.ireturn, 1) := by decide +kernel
theorem dX5_copies_0 : decode cX5_copies 0 = .ok (.iconst 0, 1) := by decide +kernel
theorem dX5_copies_1 : decode cX5_copies 1 = .ok (.istore 4, 2) := by decide +kernel
theorem dX5_copies_3 : decode cX5_copies 3 = .ok (.iload 4, 2) := by decide +kernel
theorem dX5_copies_5 : decode cX5_copies 5 = .ok (.bipush 83, 2) := by decide +kernel
theorem dX5_copies_7 : decode cX5_copies 7 = .ok (.if_icmp .ge 21, 3) := by decide +kernel
theorem dX5_copies_10 : decode cX5_copies 10 = .ok (.aload_n 2, 1) := by decide +kernel
theorem dX5_copies_11 : decode cX5_copies 11 = .ok (.iload_n 3, 1) := by decide +kernel
theorem dX5_copies_12 : decode cX5_copies 12 = .ok (.iload 4, 2) := by decide +kernel
theorem dX5_copies_14 : decode cX5_copies 14 = .ok (.iadd, 1) := by decide +kernel
theorem dX5_copies_15 : decode cX5_copies 15 = .ok (.aload_n 0, 1) := by decide +kernel
theorem dX5_copies_16 : decode cX5_copies 16 = .ok (.iload_n 1, 1) := by decide +kernel
theorem dX5_copies_17 : decode cX5_copies 17 = .ok (.iload 4, 2) := by decide +kernel
theorem dX5_copies_19 : decode cX5_copies 19 = .ok (.iadd, 1) := by decide +kernel
theorem dX5_copies_20 : decode cX5_copies 20 = .ok (.iaload, 1) := by decide +kernel
theorem dX5_copies_21 : decode cX5_copies 21 = .ok (.iastore, 1) := by decide +kernel
theorem dX5_copies_22 : decode cX5_copies 22 = .ok (.iinc 4 1, 3) := by decide +kernel
theorem dX5_copies_25 : decode cX5_copies 25 = .ok (.goto (-22), 3) := by decide +kernel
theorem dX5_copies_28 : decode cX5_copies 28 = .ok (.return_, 1) := by decide +kernel
theorem dX5_keeps_0 : decode cX5_keeps 0 = .ok (.aload_n 0, 1) := by decide +kernel
theorem dX5_keeps_1 : decode cX5_keeps 1 = .ok (.iconst 0, 1) := by decide +kernel
theorem dX5_keeps_2 : decode cX5_keeps 2 = .ok (.putfield 42, 3) := by decide +kernel
theorem dX5_keeps_5 : decode cX5_keeps 5 = .ok (.aload_n 0, 1) := by decide +kernel
theorem dX5_keeps_6 : decode cX5_keeps 6 = .ok (.getfield 58, 3) := by decide +kernel
theorem dX5_keeps_9 : decode cX5_keeps 9 = .ok (.ifCond .eq 4, 3) := by decide +kernel
theorem dX5_keeps_12 : decode cX5_keeps 12 = .ok (.return_, 1) := by decide +kernel
theorem dX5_keeps_13 : decode cX5_keeps 13 = .ok (.aload_n 0, 1) := by decide +kernel
theorem dX5_keeps_14 : decode cX5_keeps 14 = .ok (.getfield 61, 3) := by decide +kernel
theorem dX5_keeps_17 : decode cX5_keeps 17 = .ok (.bipush 8, 2) := by decide +kernel
theorem dX5_keeps_19 : decode cX5_keeps 19 = .ok (.if_icmp .ne 43, 3) := by decide +kernel
theorem dX5_keeps_22 : decode cX5_keeps 22 = .ok (.iconst 0, 1) := by decide +kernel
theorem dX5_keeps_23 : decode cX5_keeps 23 = .ok (.istore_n 2, 1) := by decide +kernel
theorem dX5_keeps_24 : decode cX5_keeps 24 = .ok (.iload_n 2, 1) := by decide +kernel
theorem dX5_keeps_25 : decode cX5_keeps 25 = .ok (.sipush 581, 3) := by decide +kernel
theorem dX5_keeps_28 : decode cX5_keeps 28 = .ok (.if_icmp .ge 24, 3) := by decide +kernel
theorem dX5_keeps_31 : decode cX5_keeps 31 = .ok (.aload_n 0, 1) := by decide +kernel
theorem dX5_keeps_32 : decode cX5_keeps 32 = .ok (.getfield 13, 3) := by decide +kernel
theorem dX5_keeps_35 : decode cX5_keeps 35 = .ok (.iload_n 2, 1) := by decide +kernel
theorem dX5_keeps_36 : decode cX5_keeps 36 = .ok (.aload_n 0, 1) := by decide +kernel
theorem dX5_keeps_37 : decode cX5_keeps 37 = .ok (.getfield 13, 3) := by decide +kernel
theorem dX5_keeps_40 : decode cX5_keeps 40 = .ok (.iload_n 2, 1) := by decide +kernel
theorem dX5_keeps_41 : decode cX5_keeps 41 = .ok (.bipush 83, 2) := by decide +kernel
theorem dX5_keeps_43 : decode cX5_keeps 43 = .ok (.iadd, 1) := by decide +kernel
theorem dX5_keeps_44 : decode cX5_keeps 44 = .ok (.iaload, 1) := by decide +kernel
theorem dX5_keeps_45 : decode cX5_keeps 45 = .ok (.iastore, 1) := by decide +kernel
theorem dX5_keeps_46 : decode cX5_keeps 46 = .ok (.iinc 2 1, 3) := by decide +kernel
theorem dX5_keeps_49 : decode cX5_keeps 49 = .ok (.goto (-25), 3) := by decide +kernel
theorem dX5_keeps_52 : decode cX5_keeps 52 = .ok (.aload_n 0, 1) := by decide +kernel
theorem dX5_keeps_53 : decode cX5_keeps 53 = .ok (.dup, 1) := by decide +kernel
theorem dX5_keeps_54 : decode cX5_keeps 54 = .ok (.getfield 61, 3) := by decide +kernel
theorem dX5_keeps_57 : decode cX5_keeps 57 = .ok (.iconst 1, 1) := by decide +kernel
theorem dX5_keeps_58 : decode cX5_keeps 58 = .ok (.isub, 1) := by decide +kernel
theorem dX5_keeps_59 : decode cX5_keeps 59 = .ok (.putfield 61, 3) := by decide +kernel
theorem dX5_keeps_62 : decode cX5_keeps 62 = .ok (.aload_n 1, 1) := by decide +kernel
theorem dX5_keeps_63 : decode cX5_keeps 63 = .ok (.iconst 0, 1) := by decide +kernel
theorem dX5_keeps_64 : decode cX5_keeps 64 = .ok (.aload_n 0, 1) := by decide +kernel
theorem dX5_keeps_65 : decode cX5_keeps 65 = .ok (.getfield 13, 3) := by decide +kernel
theorem dX5_keeps_68 : decode cX5_keeps 68 = .ok (.bipush 83, 2) := by decide +kernel
theorem dX5_keeps_70 : decode cX5_keeps 70 = .ok (.aload_n 0, 1) := by decide +kernel
theorem dX5_keeps_71 : decode cX5_keeps 71 = .ok (.getfield 61, 3) := by decide +kernel
theorem dX5_keeps_74 : decode cX5_keeps 74 = .ok (.imul, 1) := by decide +kernel
theorem dX5_keeps_75 : decode cX5_keeps 75 = .ok (.invokestatic 64, 3) := by decide +kernel
theorem dX5_keeps_78 : decode cX5_keeps 78 = .ok (.aload_n 0, 1) := by decide +kernel
theorem dX5_keeps_79 : decode cX5_keeps 79 = .ok (.dup, 1) := by decide +kernel
theorem dX5_keeps_80 : decode cX5_keeps 80 = .ok (.getfield 61, 3) := by decide +kernel
theorem dX5_keeps_83 : decode cX5_keeps 83 = .ok (.iconst 1, 1) := by decide +kernel
theorem dX5_keeps_84 : decode cX5_keeps 84 = .ok (.iadd, 1) := by decide +kernel
theorem dX5_keeps_85 : decode cX5_keeps 85 = .ok (.putfield 61, 3) := by decide +kernel
theorem dX5_keeps_88 : decode cX5_keeps 88 = .ok (.return_, 1) := by decide +kernel
theorem dX5_of_0 : decode cX5_of 0 = .ok (.aload_n 0, 1) := by decide +kernel
theorem dX5_of_1 : decode cX5_of 1 = .ok (.getfield 7, 3) := by decide +kernel
theorem dX5_of_4 : decode cX5_of 4 = .ok (.bipush 9, 2) := by decide +kernel
theorem dX5_of_6 : decode cX5_of 6 = .ok (.iconst 5, 1) := by decide +kernel
theorem dX5_of_7 : decode cX5_of 7 = .ok (.iload_n 1, 1) := by decide +kernel
theorem dX5_of_8 : decode cX5_of 8 = .ok (.imul, 1) := by decide +kernel
theorem dX5_of_9 : decode cX5_of 9 = .ok (.iadd, 1) := by decide +kernel
theorem dX5_of_10 : decode cX5_of 10 = .ok (.iload_n 2, 1) := by decide +kernel
theorem dX5_of_11 : decode cX5_of 11 = .ok (.iadd, 1) := by decide +kernel
theorem dX5_of_12 : decode cX5_of 12 = .ok (.iaload, 1) := by decide +kernel
theorem dX5_of_13 : decode cX5_of 13 = .ok (.ireturn, 1) := by decide +kernel
theorem dX5_lays_0 : decode cX5_lays 0 = .ok (.aload_n 0, 1) := by decide +kernel
theorem dX5_lays_1 : decode cX5_lays 1 = .ok (.getfield 7, 3) := by decide +kernel
theorem dX5_lays_4 : decode cX5_lays 4 = .ok (.bipush 9, 2) := by decide +kernel
theorem dX5_lays_6 : decode cX5_lays 6 = .ok (.iconst 5, 1) := by decide +kernel
theorem dX5_lays_7 : decode cX5_lays 7 = .ok (.iload_n 1, 1) := by decide +kernel
theorem dX5_lays_8 : decode cX5_lays 8 = .ok (.imul, 1) := by decide +kernel
theorem dX5_lays_9 : decode cX5_lays 9 = .ok (.iadd, 1) := by decide +kernel
theorem dX5_lays_10 : decode cX5_lays 10 = .ok (.iload_n 2, 1) := by decide +kernel
theorem dX5_lays_11 : decode cX5_lays 11 = .ok (.iadd, 1) := by decide +kernel
theorem dX5_lays_12 : decode cX5_lays 12 = .ok (.iload_n 3, 1) := by decide +kernel
theorem dX5_lays_13 : decode cX5_lays 13 = .ok (.iastore, 1) := by decide +kernel
theorem dX5_lays_14 : decode cX5_lays 14 = .ok (.return_, 1) := by decide +kernel
theorem dX5_isSpan_0 : decode cX5_isSpan 0 = .ok (.iload_n 1, 1) := by decide +kernel
theorem dX5_isSpan_1 : decode cX5_isSpan 1 = .ok (.iconst 0, 1) := by decide +kernel
theorem dX5_isSpan_2 : decode cX5_isSpan 2 = .ok (.aload_n 0, 1) := by decide +kernel
theorem dX5_isSpan_3 : decode cX5_isSpan 3 = .ok (.getfield 7, 3) := by decide +kernel
theorem dX5_isSpan_6 : decode cX5_isSpan 6 = .ok (.iconst 0, 1) := by decide +kernel
theorem dX5_isSpan_7 : decode cX5_isSpan 7 = .ok (.iaload, 1) := by decide +kernel
theorem dX5_isSpan_8 : decode cX5_isSpan 8 = .ok (.iconst 1, 1) := by decide +kernel
theorem dX5_isSpan_9 : decode cX5_isSpan 9 = .ok (.isub, 1) := by decide +kernel
theorem dX5_isSpan_10 : decode cX5_isSpan 10 = .ok (.invokestatic 68, 3) := by decide +kernel
theorem dX5_isSpan_13 : decode cX5_isSpan 13 = .ok (.ireturn, 1) := by decide +kernel
theorem dX5_isNone_0 : decode cX5_isNone 0 = .ok (.aload_n 0, 1) := by decide +kernel
theorem dX5_isNone_1 : decode cX5_isNone 1 = .ok (.aload_n 0, 1) := by decide +kernel
theorem dX5_isNone_2 : decode cX5_isNone 2 = .ok (.iload_n 1, 1) := by decide +kernel
theorem dX5_isNone_3 : decode cX5_isNone 3 = .ok (.invokevirtual 72, 3) := by decide +kernel
theorem dX5_isNone_6 : decode cX5_isNone 6 = .ok (.ifCond .eq 7, 3) := by decide +kernel
theorem dX5_isNone_9 : decode cX5_isNone 9 = .ok (.iconst 0, 1) := by decide +kernel
theorem dX5_isNone_10 : decode cX5_isNone 10 = .ok (.goto 4, 3) := by decide +kernel
theorem dX5_isNone_13 : decode cX5_isNone 13 = .ok (.iconst 1, 1) := by decide +kernel
theorem dX5_isNone_14 : decode cX5_isNone 14 = .ok (.invokevirtual 76, 3) := by decide +kernel
theorem dX5_isNone_17 : decode cX5_isNone 17 = .ok (.ireturn, 1) := by decide +kernel
theorem dX5_bears_0 : decode cX5_bears 0 = .ok (.aload_n 0, 1) := by decide +kernel
theorem dX5_bears_1 : decode cX5_bears 1 = .ok (.iload_n 1, 1) := by decide +kernel
theorem dX5_bears_2 : decode cX5_bears 2 = .ok (.iconst 1, 1) := by decide +kernel
theorem dX5_bears_3 : decode cX5_bears 3 = .ok (.invokevirtual 79, 3) := by decide +kernel
theorem dX5_bears_6 : decode cX5_bears 6 = .ok (.iload_n 2, 1) := by decide +kernel
theorem dX5_bears_7 : decode cX5_bears 7 = .ok (.bipush 24, 2) := by decide +kernel
theorem dX5_bears_9 : decode cX5_bears 9 = .ok (.invokestatic 83, 3) := by decide +kernel
theorem dX5_bears_12 : decode cX5_bears 12 = .ok (.imul, 1) := by decide +kernel
theorem dX5_bears_13 : decode cX5_bears 13 = .ok (.aload_n 0, 1) := by decide +kernel
theorem dX5_bears_14 : decode cX5_bears 14 = .ok (.iload_n 1, 1) := by decide +kernel
theorem dX5_bears_15 : decode cX5_bears 15 = .ok (.iconst 0, 1) := by decide +kernel
theorem dX5_bears_16 : decode cX5_bears 16 = .ok (.invokevirtual 79, 3) := by decide +kernel
theorem dX5_bears_19 : decode cX5_bears 19 = .ok (.idiv, 1) := by decide +kernel
theorem dX5_bears_20 : decode cX5_bears 20 = .ok (.bipush 10, 2) := by decide +kernel
theorem dX5_bears_22 : decode cX5_bears 22 = .ok (.aload_n 0, 1) := by decide +kernel
theorem dX5_bears_23 : decode cX5_bears 23 = .ok (.iload_n 1, 1) := by decide +kernel
theorem dX5_bears_24 : decode cX5_bears 24 = .ok (.iconst 3, 1) := by decide +kernel
theorem dX5_bears_25 : decode cX5_bears 25 = .ok (.invokevirtual 79, 3) := by decide +kernel
theorem dX5_bears_28 : decode cX5_bears 28 = .ok (.isub, 1) := by decide +kernel
theorem dX5_bears_29 : decode cX5_bears 29 = .ok (.imul, 1) := by decide +kernel
theorem dX5_bears_30 : decode cX5_bears 30 = .ok (.bipush 10, 2) := by decide +kernel
theorem dX5_bears_32 : decode cX5_bears 32 = .ok (.idiv, 1) := by decide +kernel
theorem dX5_bears_33 : decode cX5_bears 33 = .ok (.ireturn, 1) := by decide +kernel
theorem dX5_strong_0 : decode cX5_strong 0 = .ok (.aload_n 0, 1) := by decide +kernel
theorem dX5_strong_1 : decode cX5_strong 1 = .ok (.iload_n 1, 1) := by decide +kernel
theorem dX5_strong_2 : decode cX5_strong 2 = .ok (.aload_n 0, 1) := by decide +kernel
theorem dX5_strong_3 : decode cX5_strong 3 = .ok (.iload_n 1, 1) := by decide +kernel
theorem dX5_strong_4 : decode cX5_strong 4 = .ok (.iconst 2, 1) := by decide +kernel
theorem dX5_strong_5 : decode cX5_strong 5 = .ok (.invokevirtual 79, 3) := by decide +kernel
theorem dX5_strong_8 : decode cX5_strong 8 = .ok (.invokevirtual 86, 3) := by decide +kernel
theorem dX5_strong_11 : decode cX5_strong 11 = .ok (.ireturn, 1) := by decide +kernel
theorem dX5_loaded_0 : decode cX5_loaded 0 = .ok (.iconst 0, 1) := by decide +kernel
theorem dX5_loaded_1 : decode cX5_loaded 1 = .ok (.istore_n 2, 1) := by decide +kernel
theorem dX5_loaded_2 : decode cX5_loaded 2 = .ok (.iconst 0, 1) := by decide +kernel
theorem dX5_loaded_3 : decode cX5_loaded 3 = .ok (.istore_n 3, 1) := by decide +kernel
theorem dX5_loaded_4 : decode cX5_loaded 4 = .ok (.iload_n 3, 1) := by decide +kernel
theorem dX5_loaded_5 : decode cX5_loaded 5 = .ok (.aload_n 0, 1) := by decide +kernel
theorem dX5_loaded_6 : decode cX5_loaded 6 = .ok (.getfield 7, 3) := by decide +kernel
theorem dX5_loaded_9 : decode cX5_loaded 9 = .ok (.iconst 1, 1) := by decide +kernel
theorem dX5_loaded_10 : decode cX5_loaded 10 = .ok (.iaload, 1) := by decide +kernel
theorem dX5_loaded_11 : decode cX5_loaded 11 = .ok (.if_icmp .ge 32, 3) := by decide +kernel
theorem dX5_loaded_14 : decode cX5_loaded 14 = .ok (.iload_n 2, 1) := by decide +kernel
theorem dX5_loaded_15 : decode cX5_loaded 15 = .ok (.aload_n 0, 1) := by decide +kernel
theorem dX5_loaded_16 : decode cX5_loaded 16 = .ok (.iload_n 3, 1) := by decide +kernel
theorem dX5_loaded_17 : decode cX5_loaded 17 = .ok (.iconst 2, 1) := by decide +kernel
theorem dX5_loaded_18 : decode cX5_loaded 18 = .ok (.invokevirtual 89, 3) := by decide +kernel
theorem dX5_loaded_21 : decode cX5_loaded 21 = .ok (.iload_n 1, 1) := by decide +kernel
theorem dX5_loaded_22 : decode cX5_loaded 22 = .ok (.if_icmp .ne 12, 3) := by decide +kernel
theorem dX5_loaded_25 : decode cX5_loaded 25 = .ok (.aload_n 0, 1) := by decide +kernel
theorem dX5_loaded_26 : decode cX5_loaded 26 = .ok (.iload_n 3, 1) := by decide +kernel
theorem dX5_loaded_27 : decode cX5_loaded 27 = .ok (.iconst 1, 1) := by decide +kernel
theorem dX5_loaded_28 : decode cX5_loaded 28 = .ok (.invokevirtual 89, 3) := by decide +kernel
theorem dX5_loaded_31 : decode cX5_loaded 31 = .ok (.goto 4, 3) := by decide +kernel
theorem dX5_loaded_34 : decode cX5_loaded 34 = .ok (.iconst 0, 1) := by decide +kernel
theorem dX5_loaded_35 : decode cX5_loaded 35 = .ok (.iadd, 1) := by decide +kernel
theorem dX5_loaded_36 : decode cX5_loaded 36 = .ok (.istore_n 2, 1) := by decide +kernel
theorem dX5_loaded_37 : decode cX5_loaded 37 = .ok (.iinc 3 1, 3) := by decide +kernel
theorem dX5_loaded_40 : decode cX5_loaded 40 = .ok (.goto (-36), 3) := by decide +kernel
theorem dX5_loaded_43 : decode cX5_loaded 43 = .ok (.iload_n 2, 1) := by decide +kernel
theorem dX5_loaded_44 : decode cX5_loaded 44 = .ok (.ireturn, 1) := by decide +kernel
theorem dX5_strains_0 : decode cX5_strains 0 = .ok (.iconst 5, 1) := by decide +kernel
theorem dX5_strains_1 : decode cX5_strains 1 = .ok (.aload_n 0, 1) := by decide +kernel
theorem dX5_strains_2 : decode cX5_strains 2 = .ok (.iload_n 1, 1) := by decide +kernel
theorem dX5_strains_3 : decode cX5_strains 3 = .ok (.invokevirtual 92, 3) := by decide +kernel
theorem dX5_strains_6 : decode cX5_strains 6 = .ok (.imul, 1) := by decide +kernel
theorem dX5_strains_7 : decode cX5_strains 7 = .ok (.iconst 4, 1) := by decide +kernel
theorem dX5_strains_8 : decode cX5_strains 8 = .ok (.aload_n 0, 1) := by decide +kernel
theorem dX5_strains_9 : decode cX5_strains 9 = .ok (.iload_n 1, 1) := by decide +kernel
theorem dX5_strains_10 : decode cX5_strains 10 = .ok (.invokevirtual 96, 3) := by decide +kernel
theorem dX5_strains_13 : decode cX5_strains 13 = .ok (.imul, 1) := by decide +kernel
theorem dX5_strains_14 : decode cX5_strains 14 = .ok (.if_icmp .le 7, 3) := by decide +kernel
theorem dX5_strains_17 : decode cX5_strains 17 = .ok (.iconst 1, 1) := by decide +kernel
theorem dX5_strains_18 : decode cX5_strains 18 = .ok (.goto 4, 3) := by decide +kernel
theorem dX5_strains_21 : decode cX5_strains 21 = .ok (.iconst 0, 1) := by decide +kernel
theorem dX5_strains_22 : decode cX5_strains 22 = .ok (.ireturn, 1) := by decide +kernel
theorem dX5_addSpan_0 : decode cX5_addSpan 0 = .ok (.aload_n 0, 1) := by decide +kernel
theorem dX5_addSpan_1 : decode cX5_addSpan 1 = .ok (.iload_n 1, 1) := by decide +kernel
theorem dX5_addSpan_2 : decode cX5_addSpan 2 = .ok (.iconst 1, 1) := by decide +kernel
theorem dX5_addSpan_3 : decode cX5_addSpan 3 = .ok (.bipush 20, 2) := by decide +kernel
theorem dX5_addSpan_5 : decode cX5_addSpan 5 = .ok (.invokestatic 68, 3) := by decide +kernel
theorem dX5_addSpan_8 : decode cX5_addSpan 8 = .ok (.ifCond .eq 7, 3) := by decide +kernel
theorem dX5_addSpan_11 : decode cX5_addSpan 11 = .ok (.iconst 0, 1) := by decide +kernel
theorem dX5_addSpan_12 : decode cX5_addSpan 12 = .ok (.goto 4, 3) := by decide +kernel
theorem dX5_addSpan_15 : decode cX5_addSpan 15 = .ok (.iconst 1, 1) := by decide +kernel
theorem dX5_addSpan_16 : decode cX5_addSpan 16 = .ok (.invokevirtual 76, 3) := by decide +kernel
theorem dX5_addSpan_19 : decode cX5_addSpan 19 = .ok (.ifCond .eq 5, 3) := by decide +kernel
theorem dX5_addSpan_22 : decode cX5_addSpan 22 = .ok (.iconst 0, 1) := by decide +kernel
theorem dX5_addSpan_23 : decode cX5_addSpan 23 = .ok (.ireturn, 1) := by decide +kernel
theorem dX5_addSpan_24 : decode cX5_addSpan 24 = .ok (.aload_n 0, 1) := by decide +kernel
theorem dX5_addSpan_25 : decode cX5_addSpan 25 = .ok (.getfield 7, 3) := by decide +kernel
theorem dX5_addSpan_28 : decode cX5_addSpan 28 = .ok (.iconst 1, 1) := by decide +kernel
theorem dX5_addSpan_29 : decode cX5_addSpan 29 = .ok (.iaload, 1) := by decide +kernel
theorem dX5_addSpan_30 : decode cX5_addSpan 30 = .ok (.ifCond .le 16, 3) := by decide +kernel
theorem dX5_addSpan_33 : decode cX5_addSpan 33 = .ok (.aload_n 0, 1) := by decide +kernel
theorem dX5_addSpan_34 : decode cX5_addSpan 34 = .ok (.iconst 2, 1) := by decide +kernel
theorem dX5_addSpan_35 : decode cX5_addSpan 35 = .ok (.iconst 4, 1) := by decide +kernel
theorem dX5_addSpan_36 : decode cX5_addSpan 36 = .ok (.aload_n 0, 1) := by decide +kernel
theorem dX5_addSpan_37 : decode cX5_addSpan 37 = .ok (.getfield 7, 3) := by decide +kernel
theorem dX5_addSpan_40 : decode cX5_addSpan 40 = .ok (.iconst 1, 1) := by decide +kernel
theorem dX5_addSpan_41 : decode cX5_addSpan 41 = .ok (.iaload, 1) := by decide +kernel
theorem dX5_addSpan_42 : decode cX5_addSpan 42 = .ok (.invokevirtual 99, 3) := by decide +kernel
theorem dX5_addSpan_45 : decode cX5_addSpan 45 = .ok (.ireturn, 1) := by decide +kernel
theorem dX5_addSpan_46 : decode cX5_addSpan 46 = .ok (.aload_n 0, 1) := by decide +kernel
theorem dX5_addSpan_47 : decode cX5_addSpan 47 = .ok (.getfield 7, 3) := by decide +kernel
theorem dX5_addSpan_50 : decode cX5_addSpan 50 = .ok (.iconst 0, 1) := by decide +kernel
theorem dX5_addSpan_51 : decode cX5_addSpan 51 = .ok (.iaload, 1) := by decide +kernel
theorem dX5_addSpan_52 : decode cX5_addSpan 52 = .ok (.bipush 10, 2) := by decide +kernel
theorem dX5_addSpan_54 : decode cX5_addSpan 54 = .ok (.if_icmp .ne 12, 3) := by decide +kernel
theorem dX5_addSpan_57 : decode cX5_addSpan 57 = .ok (.aload_n 0, 1) := by decide +kernel
theorem dX5_addSpan_58 : decode cX5_addSpan 58 = .ok (.iconst 2, 1) := by decide +kernel
theorem dX5_addSpan_59 : decode cX5_addSpan 59 = .ok (.iconst 1, 1) := by decide +kernel
theorem dX5_addSpan_60 : decode cX5_addSpan 60 = .ok (.bipush 10, 2) := by decide +kernel
theorem dX5_addSpan_62 : decode cX5_addSpan 62 = .ok (.invokevirtual 99, 3) := by decide +kernel
theorem dX5_addSpan_65 : decode cX5_addSpan 65 = .ok (.ireturn, 1) := by decide +kernel
theorem dX5_addSpan_66 : decode cX5_addSpan 66 = .ok (.aload_n 0, 1) := by decide +kernel
theorem dX5_addSpan_67 : decode cX5_addSpan 67 = .ok (.aload_n 0, 1) := by decide +kernel
theorem dX5_addSpan_68 : decode cX5_addSpan 68 = .ok (.getfield 7, 3) := by decide +kernel
theorem dX5_addSpan_71 : decode cX5_addSpan 71 = .ok (.invokevirtual 103, 3) := by decide +kernel
theorem dX5_addSpan_74 : decode cX5_addSpan 74 = .ok (.aload_n 0, 1) := by decide +kernel
theorem dX5_addSpan_75 : decode cX5_addSpan 75 = .ok (.getfield 7, 3) := by decide +kernel
theorem dX5_addSpan_78 : decode cX5_addSpan 78 = .ok (.iconst 0, 1) := by decide +kernel
theorem dX5_addSpan_79 : decode cX5_addSpan 79 = .ok (.iaload, 1) := by decide +kernel
theorem dX5_addSpan_80 : decode cX5_addSpan 80 = .ok (.istore_n 2, 1) := by decide +kernel
theorem dX5_addSpan_81 : decode cX5_addSpan 81 = .ok (.aload_n 0, 1) := by decide +kernel
theorem dX5_addSpan_82 : decode cX5_addSpan 82 = .ok (.getfield 7, 3) := by decide +kernel
theorem dX5_addSpan_85 : decode cX5_addSpan 85 = .ok (.iconst 0, 1) := by decide +kernel
theorem dX5_addSpan_86 : decode cX5_addSpan 86 = .ok (.dup2, 1) := by decide +kernel
theorem dX5_addSpan_87 : decode cX5_addSpan 87 = .ok (.iaload, 1) := by decide +kernel
theorem dX5_addSpan_88 : decode cX5_addSpan 88 = .ok (.iconst 1, 1) := by decide +kernel
theorem dX5_addSpan_89 : decode cX5_addSpan 89 = .ok (.iadd, 1) := by decide +kernel
theorem dX5_addSpan_90 : decode cX5_addSpan 90 = .ok (.iastore, 1) := by decide +kernel
theorem dX5_addSpan_91 : decode cX5_addSpan 91 = .ok (.iconst 0, 1) := by decide +kernel
theorem dX5_addSpan_92 : decode cX5_addSpan 92 = .ok (.istore_n 3, 1) := by decide +kernel
theorem dX5_addSpan_93 : decode cX5_addSpan 93 = .ok (.iload_n 3, 1) := by decide +kernel
theorem dX5_addSpan_94 : decode cX5_addSpan 94 = .ok (.iconst 5, 1) := by decide +kernel
theorem dX5_addSpan_95 : decode cX5_addSpan 95 = .ok (.if_icmp .ge 16, 3) := by decide +kernel
theorem dX5_addSpan_98 : decode cX5_addSpan 98 = .ok (.aload_n 0, 1) := by decide +kernel
theorem dX5_addSpan_99 : decode cX5_addSpan 99 = .ok (.iload_n 2, 1) := by decide +kernel
theorem dX5_addSpan_100 : decode cX5_addSpan 100 = .ok (.iload_n 3, 1) := by decide +kernel
theorem dX5_addSpan_101 : decode cX5_addSpan 101 = .ok (.iconst 0, 1) := by decide +kernel
theorem dX5_addSpan_102 : decode cX5_addSpan 102 = .ok (.invokevirtual 107, 3) := by decide +kernel
theorem dX5_addSpan_105 : decode cX5_addSpan 105 = .ok (.iinc 3 1, 3) := by decide +kernel
theorem dX5_addSpan_108 : decode cX5_addSpan 108 = .ok (.goto (-15), 3) := by decide +kernel
theorem dX5_addSpan_111 : decode cX5_addSpan 111 = .ok (.aload_n 0, 1) := by decide +kernel
theorem dX5_addSpan_112 : decode cX5_addSpan 112 = .ok (.iload_n 2, 1) := by decide +kernel
theorem dX5_addSpan_113 : decode cX5_addSpan 113 = .ok (.iconst 0, 1) := by decide +kernel
theorem dX5_addSpan_114 : decode cX5_addSpan 114 = .ok (.iload_n 1, 1) := by decide +kernel
theorem dX5_addSpan_115 : decode cX5_addSpan 115 = .ok (.invokevirtual 107, 3) := by decide +kernel
theorem dX5_addSpan_118 : decode cX5_addSpan 118 = .ok (.iload_n 2, 1) := by decide +kernel
theorem dX5_addSpan_119 : decode cX5_addSpan 119 = .ok (.ireturn, 1) := by decide +kernel
theorem dX5_removeLastSpan_0 : decode cX5_removeLastSpan 0 = .ok (.aload_n 0, 1) := by decide +kernel
theorem dX5_removeLastSpan_1 : decode cX5_removeLastSpan 1 = .ok (.getfield 7, 3) := by decide +kernel
theorem dX5_removeLastSpan_4 : decode cX5_removeLastSpan 4 = .ok (.iconst 0, 1) := by decide +kernel
theorem dX5_removeLastSpan_5 : decode cX5_removeLastSpan 5 = .ok (.iaload, 1) := by decide +kernel
theorem dX5_removeLastSpan_6 : decode cX5_removeLastSpan 6 = .ok (.ifCond .ne 16, 3) := by decide +kernel
theorem dX5_removeLastSpan_9 : decode cX5_removeLastSpan 9 = .ok (.aload_n 0, 1) := by decide +kernel
theorem dX5_removeLastSpan_10 : decode cX5_removeLastSpan 10 = .ok (.iconst 1, 1) := by decide +kernel
theorem dX5_removeLastSpan_11 : decode cX5_removeLastSpan 11 = .ok (.iconst 3, 1) := by decide +kernel
theorem dX5_removeLastSpan_12 : decode cX5_removeLastSpan 12 = .ok (.aload_n 0, 1) := by decide +kernel
theorem dX5_removeLastSpan_13 : decode cX5_removeLastSpan 13 = .ok (.getfield 7, 3) := by decide +kernel
theorem dX5_removeLastSpan_16 : decode cX5_removeLastSpan 16 = .ok (.iconst 3, 1) := by decide +kernel
theorem dX5_removeLastSpan_17 : decode cX5_removeLastSpan 17 = .ok (.iaload, 1) := by decide +kernel
theorem dX5_removeLastSpan_18 : decode cX5_removeLastSpan 18 = .ok (.invokevirtual 99, 3) := by decide +kernel
theorem dX5_removeLastSpan_21 : decode cX5_removeLastSpan 21 = .ok (.ireturn, 1) := by decide +kernel
theorem dX5_removeLastSpan_22 : decode cX5_removeLastSpan 22 = .ok (.aload_n 0, 1) := by decide +kernel
theorem dX5_removeLastSpan_23 : decode cX5_removeLastSpan 23 = .ok (.getfield 7, 3) := by decide +kernel
theorem dX5_removeLastSpan_26 : decode cX5_removeLastSpan 26 = .ok (.iconst 1, 1) := by decide +kernel
theorem dX5_removeLastSpan_27 : decode cX5_removeLastSpan 27 = .ok (.iaload, 1) := by decide +kernel
theorem dX5_removeLastSpan_28 : decode cX5_removeLastSpan 28 = .ok (.ifCond .le 16, 3) := by decide +kernel
theorem dX5_removeLastSpan_31 : decode cX5_removeLastSpan 31 = .ok (.aload_n 0, 1) := by decide +kernel
theorem dX5_removeLastSpan_32 : decode cX5_removeLastSpan 32 = .ok (.iconst 1, 1) := by decide +kernel
theorem dX5_removeLastSpan_33 : decode cX5_removeLastSpan 33 = .ok (.iconst 4, 1) := by decide +kernel
theorem dX5_removeLastSpan_34 : decode cX5_removeLastSpan 34 = .ok (.aload_n 0, 1) := by decide +kernel
theorem dX5_removeLastSpan_35 : decode cX5_removeLastSpan 35 = .ok (.getfield 7, 3) := by decide +kernel
theorem dX5_removeLastSpan_38 : decode cX5_removeLastSpan 38 = .ok (.iconst 1, 1) := by decide +kernel
theorem dX5_removeLastSpan_39 : decode cX5_removeLastSpan 39 = .ok (.iaload, 1) := by decide +kernel
theorem dX5_removeLastSpan_40 : decode cX5_removeLastSpan 40 = .ok (.invokevirtual 99, 3) := by decide +kernel
theorem dX5_removeLastSpan_43 : decode cX5_removeLastSpan 43 = .ok (.ireturn, 1) := by decide +kernel
theorem dX5_removeLastSpan_44 : decode cX5_removeLastSpan 44 = .ok (.aload_n 0, 1) := by decide +kernel
theorem dX5_removeLastSpan_45 : decode cX5_removeLastSpan 45 = .ok (.aload_n 0, 1) := by decide +kernel
theorem dX5_removeLastSpan_46 : decode cX5_removeLastSpan 46 = .ok (.getfield 7, 3) := by decide +kernel
theorem dX5_removeLastSpan_49 : decode cX5_removeLastSpan 49 = .ok (.invokevirtual 103, 3) := by decide +kernel
theorem dX5_removeLastSpan_52 : decode cX5_removeLastSpan 52 = .ok (.aload_n 0, 1) := by decide +kernel
theorem dX5_removeLastSpan_53 : decode cX5_removeLastSpan 53 = .ok (.getfield 7, 3) := by decide +kernel
theorem dX5_removeLastSpan_56 : decode cX5_removeLastSpan 56 = .ok (.iconst 0, 1) := by decide +kernel
theorem dX5_removeLastSpan_57 : decode cX5_removeLastSpan 57 = .ok (.dup2, 1) := by decide +kernel
theorem dX5_removeLastSpan_58 : decode cX5_removeLastSpan 58 = .ok (.iaload, 1) := by decide +kernel
theorem dX5_removeLastSpan_59 : decode cX5_removeLastSpan 59 = .ok (.iconst 1, 1) := by decide +kernel
theorem dX5_removeLastSpan_60 : decode cX5_removeLastSpan 60 = .ok (.isub, 1) := by decide +kernel
theorem dX5_removeLastSpan_61 : decode cX5_removeLastSpan 61 = .ok (.iastore, 1) := by decide +kernel
theorem dX5_removeLastSpan_62 : decode cX5_removeLastSpan 62 = .ok (.aload_n 0, 1) := by decide +kernel
theorem dX5_removeLastSpan_63 : decode cX5_removeLastSpan 63 = .ok (.aload_n 0, 1) := by decide +kernel
theorem dX5_removeLastSpan_64 : decode cX5_removeLastSpan 64 = .ok (.getfield 7, 3) := by decide +kernel
theorem dX5_removeLastSpan_67 : decode cX5_removeLastSpan 67 = .ok (.iconst 0, 1) := by decide +kernel
theorem dX5_removeLastSpan_68 : decode cX5_removeLastSpan 68 = .ok (.iaload, 1) := by decide +kernel
theorem dX5_removeLastSpan_69 : decode cX5_removeLastSpan 69 = .ok (.iconst 1, 1) := by decide +kernel
theorem dX5_removeLastSpan_70 : decode cX5_removeLastSpan 70 = .ok (.invokevirtual 79, 3) := by decide +kernel
theorem dX5_removeLastSpan_73 : decode cX5_removeLastSpan 73 = .ok (.istore_n 1, 1) := by decide +kernel
theorem dX5_removeLastSpan_74 : decode cX5_removeLastSpan 74 = .ok (.iconst 0, 1) := by decide +kernel
theorem dX5_removeLastSpan_75 : decode cX5_removeLastSpan 75 = .ok (.istore_n 2, 1) := by decide +kernel
theorem dX5_removeLastSpan_76 : decode cX5_removeLastSpan 76 = .ok (.iload_n 2, 1) := by decide +kernel
theorem dX5_removeLastSpan_77 : decode cX5_removeLastSpan 77 = .ok (.iconst 5, 1) := by decide +kernel
theorem dX5_removeLastSpan_78 : decode cX5_removeLastSpan 78 = .ok (.if_icmp .ge 21, 3) := by decide +kernel
theorem dX5_removeLastSpan_81 : decode cX5_removeLastSpan 81 = .ok (.aload_n 0, 1) := by decide +kernel
theorem dX5_removeLastSpan_82 : decode cX5_removeLastSpan 82 = .ok (.aload_n 0, 1) := by decide +kernel
theorem dX5_removeLastSpan_83 : decode cX5_removeLastSpan 83 = .ok (.getfield 7, 3) := by decide +kernel
theorem dX5_removeLastSpan_86 : decode cX5_removeLastSpan 86 = .ok (.iconst 0, 1) := by decide +kernel
theorem dX5_removeLastSpan_87 : decode cX5_removeLastSpan 87 = .ok (.iaload, 1) := by decide +kernel
theorem dX5_removeLastSpan_88 : decode cX5_removeLastSpan 88 = .ok (.iload_n 2, 1) := by decide +kernel
theorem dX5_removeLastSpan_89 : decode cX5_removeLastSpan 89 = .ok (.iconst 0, 1) := by decide +kernel
theorem dX5_removeLastSpan_90 : decode cX5_removeLastSpan 90 = .ok (.invokevirtual 107, 3) := by decide +kernel
theorem dX5_removeLastSpan_93 : decode cX5_removeLastSpan 93 = .ok (.iinc 2 1, 3) := by decide +kernel
theorem dX5_removeLastSpan_96 : decode cX5_removeLastSpan 96 = .ok (.goto (-20), 3) := by decide +kernel
theorem dX5_removeLastSpan_99 : decode cX5_removeLastSpan 99 = .ok (.iload_n 1, 1) := by decide +kernel
theorem dX5_removeLastSpan_100 : decode cX5_removeLastSpan 100 = .ok (.ireturn, 1) := by decide +kernel
theorem dX5_pour_0 : decode cX5_pour 0 = .ok (.aload_n 0, 1) := by decide +kernel
theorem dX5_pour_1 : decode cX5_pour 1 = .ok (.aload_n 0, 1) := by decide +kernel
theorem dX5_pour_2 : decode cX5_pour 2 = .ok (.iload_n 1, 1) := by decide +kernel
theorem dX5_pour_3 : decode cX5_pour 3 = .ok (.invokevirtual 72, 3) := by decide +kernel
theorem dX5_pour_6 : decode cX5_pour 6 = .ok (.ifCond .ne 7, 3) := by decide +kernel
theorem dX5_pour_9 : decode cX5_pour 9 = .ok (.iconst 1, 1) := by decide +kernel
theorem dX5_pour_10 : decode cX5_pour 10 = .ok (.goto 18, 3) := by decide +kernel
theorem dX5_pour_13 : decode cX5_pour 13 = .ok (.iload_n 2, 1) := by decide +kernel
theorem dX5_pour_14 : decode cX5_pour 14 = .ok (.iconst 1, 1) := by decide +kernel
theorem dX5_pour_15 : decode cX5_pour 15 = .ok (.bipush 50, 2) := by decide +kernel
theorem dX5_pour_17 : decode cX5_pour 17 = .ok (.invokestatic 68, 3) := by decide +kernel
theorem dX5_pour_20 : decode cX5_pour 20 = .ok (.ifCond .eq 7, 3) := by decide +kernel
theorem dX5_pour_23 : decode cX5_pour 23 = .ok (.iconst 0, 1) := by decide +kernel
theorem dX5_pour_24 : decode cX5_pour 24 = .ok (.goto 4, 3) := by decide +kernel
theorem dX5_pour_27 : decode cX5_pour 27 = .ok (.iconst 2, 1) := by decide +kernel
theorem dX5_pour_28 : decode cX5_pour 28 = .ok (.invokevirtual 76, 3) := by decide +kernel
theorem dX5_pour_31 : decode cX5_pour 31 = .ok (.ifCond .eq 5, 3) := by decide +kernel
theorem dX5_pour_34 : decode cX5_pour 34 = .ok (.iconst 0, 1) := by decide +kernel
theorem dX5_pour_35 : decode cX5_pour 35 = .ok (.ireturn, 1) := by decide +kernel
theorem dX5_pour_36 : decode cX5_pour 36 = .ok (.aload_n 0, 1) := by decide +kernel
theorem dX5_pour_37 : decode cX5_pour 37 = .ok (.getfield 7, 3) := by decide +kernel
theorem dX5_pour_40 : decode cX5_pour 40 = .ok (.iconst 1, 1) := by decide +kernel
theorem dX5_pour_41 : decode cX5_pour 41 = .ok (.iaload, 1) := by decide +kernel
theorem dX5_pour_42 : decode cX5_pour 42 = .ok (.ifCond .le 16, 3) := by decide +kernel
theorem dX5_pour_45 : decode cX5_pour 45 = .ok (.aload_n 0, 1) := by decide +kernel
theorem dX5_pour_46 : decode cX5_pour 46 = .ok (.iconst 3, 1) := by decide +kernel
theorem dX5_pour_47 : decode cX5_pour 47 = .ok (.iconst 4, 1) := by decide +kernel
theorem dX5_pour_48 : decode cX5_pour 48 = .ok (.aload_n 0, 1) := by decide +kernel
theorem dX5_pour_49 : decode cX5_pour 49 = .ok (.getfield 7, 3) := by decide +kernel
theorem dX5_pour_52 : decode cX5_pour 52 = .ok (.iconst 1, 1) := by decide +kernel
theorem dX5_pour_53 : decode cX5_pour 53 = .ok (.iaload, 1) := by decide +kernel
theorem dX5_pour_54 : decode cX5_pour 54 = .ok (.invokevirtual 99, 3) := by decide +kernel
theorem dX5_pour_57 : decode cX5_pour 57 = .ok (.ireturn, 1) := by decide +kernel
theorem dX5_pour_58 : decode cX5_pour 58 = .ok (.aload_n 0, 1) := by decide +kernel
theorem dX5_pour_59 : decode cX5_pour 59 = .ok (.iload_n 1, 1) := by decide +kernel
theorem dX5_pour_60 : decode cX5_pour 60 = .ok (.iconst 1, 1) := by decide +kernel
theorem dX5_pour_61 : decode cX5_pour 61 = .ok (.invokevirtual 79, 3) := by decide +kernel
theorem dX5_pour_64 : decode cX5_pour 64 = .ok (.istore_n 3, 1) := by decide +kernel
theorem dX5_pour_65 : decode cX5_pour 65 = .ok (.iload_n 3, 1) := by decide +kernel
theorem dX5_pour_66 : decode cX5_pour 66 = .ok (.iload_n 2, 1) := by decide +kernel
theorem dX5_pour_67 : decode cX5_pour 67 = .ok (.iadd, 1) := by decide +kernel
theorem dX5_pour_68 : decode cX5_pour 68 = .ok (.bipush 50, 2) := by decide +kernel
theorem dX5_pour_70 : decode cX5_pour 70 = .ok (.if_icmp .le 12, 3) := by decide +kernel
theorem dX5_pour_73 : decode cX5_pour 73 = .ok (.aload_n 0, 1) := by decide +kernel
theorem dX5_pour_74 : decode cX5_pour 74 = .ok (.iconst 3, 1) := by decide +kernel
theorem dX5_pour_75 : decode cX5_pour 75 = .ok (.iconst 1, 1) := by decide +kernel
theorem dX5_pour_76 : decode cX5_pour 76 = .ok (.bipush 50, 2) := by decide +kernel
theorem dX5_pour_78 : decode cX5_pour 78 = .ok (.invokevirtual 99, 3) := by decide +kernel
theorem dX5_pour_81 : decode cX5_pour 81 = .ok (.ireturn, 1) := by decide +kernel
theorem dX5_pour_82 : decode cX5_pour 82 = .ok (.aload_n 0, 1) := by decide +kernel
theorem dX5_pour_83 : decode cX5_pour 83 = .ok (.aload_n 0, 1) := by decide +kernel
theorem dX5_pour_84 : decode cX5_pour 84 = .ok (.getfield 7, 3) := by decide +kernel
theorem dX5_pour_87 : decode cX5_pour 87 = .ok (.invokevirtual 103, 3) := by decide +kernel
theorem dX5_pour_90 : decode cX5_pour 90 = .ok (.aload_n 0, 1) := by decide +kernel
theorem dX5_pour_91 : decode cX5_pour 91 = .ok (.iload_n 1, 1) := by decide +kernel
theorem dX5_pour_92 : decode cX5_pour 92 = .ok (.iconst 1, 1) := by decide +kernel
theorem dX5_pour_93 : decode cX5_pour 93 = .ok (.iload_n 3, 1) := by decide +kernel
theorem dX5_pour_94 : decode cX5_pour 94 = .ok (.iload_n 2, 1) := by decide +kernel
theorem dX5_pour_95 : decode cX5_pour 95 = .ok (.iadd, 1) := by decide +kernel
theorem dX5_pour_96 : decode cX5_pour 96 = .ok (.invokevirtual 107, 3) := by decide +kernel
theorem dX5_pour_99 : decode cX5_pour 99 = .ok (.aload_n 0, 1) := by decide +kernel
theorem dX5_pour_100 : decode cX5_pour 100 = .ok (.iload_n 1, 1) := by decide +kernel
theorem dX5_pour_101 : decode cX5_pour 101 = .ok (.iconst 2, 1) := by decide +kernel
theorem dX5_pour_102 : decode cX5_pour 102 = .ok (.aload_n 0, 1) := by decide +kernel
theorem dX5_pour_103 : decode cX5_pour 103 = .ok (.iload_n 1, 1) := by decide +kernel
theorem dX5_pour_104 : decode cX5_pour 104 = .ok (.iconst 2, 1) := by decide +kernel
theorem dX5_pour_105 : decode cX5_pour 105 = .ok (.invokevirtual 79, 3) := by decide +kernel
theorem dX5_pour_108 : decode cX5_pour 108 = .ok (.iload_n 3, 1) := by decide +kernel
theorem dX5_pour_109 : decode cX5_pour 109 = .ok (.imul, 1) := by decide +kernel
theorem dX5_pour_110 : decode cX5_pour 110 = .ok (.iload_n 3, 1) := by decide +kernel
theorem dX5_pour_111 : decode cX5_pour 111 = .ok (.iload_n 2, 1) := by decide +kernel
theorem dX5_pour_112 : decode cX5_pour 112 = .ok (.iadd, 1) := by decide +kernel
theorem dX5_pour_113 : decode cX5_pour 113 = .ok (.idiv, 1) := by decide +kernel
theorem dX5_pour_114 : decode cX5_pour 114 = .ok (.invokevirtual 107, 3) := by decide +kernel
theorem dX5_pour_117 : decode cX5_pour 117 = .ok (.aload_n 0, 1) := by decide +kernel
theorem dX5_pour_118 : decode cX5_pour 118 = .ok (.iload_n 1, 1) := by decide +kernel
theorem dX5_pour_119 : decode cX5_pour 119 = .ok (.iconst 2, 1) := by decide +kernel
theorem dX5_pour_120 : decode cX5_pour 120 = .ok (.invokevirtual 79, 3) := by decide +kernel
theorem dX5_pour_123 : decode cX5_pour 123 = .ok (.ireturn, 1) := by decide +kernel
theorem dX5_mend_0 : decode cX5_mend 0 = .ok (.aload_n 0, 1) := by decide +kernel
theorem dX5_mend_1 : decode cX5_mend 1 = .ok (.aload_n 0, 1) := by decide +kernel
theorem dX5_mend_2 : decode cX5_mend 2 = .ok (.iload_n 1, 1) := by decide +kernel
theorem dX5_mend_3 : decode cX5_mend 3 = .ok (.invokevirtual 72, 3) := by decide +kernel
theorem dX5_mend_6 : decode cX5_mend 6 = .ok (.ifCond .ne 7, 3) := by decide +kernel
theorem dX5_mend_9 : decode cX5_mend 9 = .ok (.iconst 1, 1) := by decide +kernel
theorem dX5_mend_10 : decode cX5_mend 10 = .ok (.goto 18, 3) := by decide +kernel
theorem dX5_mend_13 : decode cX5_mend 13 = .ok (.iload_n 2, 1) := by decide +kernel
theorem dX5_mend_14 : decode cX5_mend 14 = .ok (.iconst 1, 1) := by decide +kernel
theorem dX5_mend_15 : decode cX5_mend 15 = .ok (.bipush 9, 2) := by decide +kernel
theorem dX5_mend_17 : decode cX5_mend 17 = .ok (.invokestatic 68, 3) := by decide +kernel
theorem dX5_mend_20 : decode cX5_mend 20 = .ok (.ifCond .eq 7, 3) := by decide +kernel
theorem dX5_mend_23 : decode cX5_mend 23 = .ok (.iconst 0, 1) := by decide +kernel
theorem dX5_mend_24 : decode cX5_mend 24 = .ok (.goto 4, 3) := by decide +kernel
theorem dX5_mend_27 : decode cX5_mend 27 = .ok (.iconst 2, 1) := by decide +kernel
theorem dX5_mend_28 : decode cX5_mend 28 = .ok (.invokevirtual 76, 3) := by decide +kernel
theorem dX5_mend_31 : decode cX5_mend 31 = .ok (.ifCond .eq 5, 3) := by decide +kernel
theorem dX5_mend_34 : decode cX5_mend 34 = .ok (.iconst 0, 1) := by decide +kernel
theorem dX5_mend_35 : decode cX5_mend 35 = .ok (.ireturn, 1) := by decide +kernel
theorem dX5_mend_36 : decode cX5_mend 36 = .ok (.aload_n 0, 1) := by decide +kernel
theorem dX5_mend_37 : decode cX5_mend 37 = .ok (.iload_n 1, 1) := by decide +kernel
theorem dX5_mend_38 : decode cX5_mend 38 = .ok (.iconst 3, 1) := by decide +kernel
theorem dX5_mend_39 : decode cX5_mend 39 = .ok (.invokevirtual 79, 3) := by decide +kernel
theorem dX5_mend_42 : decode cX5_mend 42 = .ok (.iload_n 2, 1) := by decide +kernel
theorem dX5_mend_43 : decode cX5_mend 43 = .ok (.if_icmp .ge 17, 3) := by decide +kernel
theorem dX5_mend_46 : decode cX5_mend 46 = .ok (.aload_n 0, 1) := by decide +kernel
theorem dX5_mend_47 : decode cX5_mend 47 = .ok (.iconst 3, 1) := by decide +kernel
theorem dX5_mend_48 : decode cX5_mend 48 = .ok (.bipush 6, 2) := by decide +kernel
theorem dX5_mend_50 : decode cX5_mend 50 = .ok (.aload_n 0, 1) := by decide +kernel
theorem dX5_mend_51 : decode cX5_mend 51 = .ok (.iload_n 1, 1) := by decide +kernel
theorem dX5_mend_52 : decode cX5_mend 52 = .ok (.iconst 3, 1) := by decide +kernel
theorem dX5_mend_53 : decode cX5_mend 53 = .ok (.invokevirtual 79, 3) := by decide +kernel
theorem dX5_mend_56 : decode cX5_mend 56 = .ok (.invokevirtual 99, 3) := by decide +kernel
theorem dX5_mend_59 : decode cX5_mend 59 = .ok (.ireturn, 1) := by decide +kernel
theorem dX5_mend_60 : decode cX5_mend 60 = .ok (.aload_n 0, 1) := by decide +kernel
theorem dX5_mend_61 : decode cX5_mend 61 = .ok (.getfield 7, 3) := by decide +kernel
theorem dX5_mend_64 : decode cX5_mend 64 = .ok (.iconst 5, 1) := by decide +kernel
theorem dX5_mend_65 : decode cX5_mend 65 = .ok (.iaload, 1) := by decide +kernel
theorem dX5_mend_66 : decode cX5_mend 66 = .ok (.iconst 5, 1) := by decide +kernel
theorem dX5_mend_67 : decode cX5_mend 67 = .ok (.iload_n 2, 1) := by decide +kernel
theorem dX5_mend_68 : decode cX5_mend 68 = .ok (.imul, 1) := by decide +kernel
theorem dX5_mend_69 : decode cX5_mend 69 = .ok (.if_icmp .ge 16, 3) := by decide +kernel
theorem dX5_mend_72 : decode cX5_mend 72 = .ok (.aload_n 0, 1) := by decide +kernel
theorem dX5_mend_73 : decode cX5_mend 73 = .ok (.iconst 3, 1) := by decide +kernel
theorem dX5_mend_74 : decode cX5_mend 74 = .ok (.iconst 5, 1) := by decide +kernel
theorem dX5_mend_75 : decode cX5_mend 75 = .ok (.aload_n 0, 1) := by decide +kernel
theorem dX5_mend_76 : decode cX5_mend 76 = .ok (.getfield 7, 3) := by decide +kernel
theorem dX5_mend_79 : decode cX5_mend 79 = .ok (.iconst 5, 1) := by decide +kernel
theorem dX5_mend_80 : decode cX5_mend 80 = .ok (.iaload, 1) := by decide +kernel
theorem dX5_mend_81 : decode cX5_mend 81 = .ok (.invokevirtual 99, 3) := by decide +kernel
theorem dX5_mend_84 : decode cX5_mend 84 = .ok (.ireturn, 1) := by decide +kernel
theorem dX5_mend_85 : decode cX5_mend 85 = .ok (.aload_n 0, 1) := by decide +kernel
theorem dX5_mend_86 : decode cX5_mend 86 = .ok (.aload_n 0, 1) := by decide +kernel
theorem dX5_mend_87 : decode cX5_mend 87 = .ok (.getfield 7, 3) := by decide +kernel
theorem dX5_mend_90 : decode cX5_mend 90 = .ok (.invokevirtual 103, 3) := by decide +kernel
theorem dX5_mend_93 : decode cX5_mend 93 = .ok (.aload_n 0, 1) := by decide +kernel
theorem dX5_mend_94 : decode cX5_mend 94 = .ok (.iload_n 1, 1) := by decide +kernel
theorem dX5_mend_95 : decode cX5_mend 95 = .ok (.iconst 3, 1) := by decide +kernel
theorem dX5_mend_96 : decode cX5_mend 96 = .ok (.aload_n 0, 1) := by decide +kernel
theorem dX5_mend_97 : decode cX5_mend 97 = .ok (.iload_n 1, 1) := by decide +kernel
theorem dX5_mend_98 : decode cX5_mend 98 = .ok (.iconst 3, 1) := by decide +kernel
theorem dX5_mend_99 : decode cX5_mend 99 = .ok (.invokevirtual 79, 3) := by decide +kernel
theorem dX5_mend_102 : decode cX5_mend 102 = .ok (.iload_n 2, 1) := by decide +kernel
theorem dX5_mend_103 : decode cX5_mend 103 = .ok (.isub, 1) := by decide +kernel
theorem dX5_mend_104 : decode cX5_mend 104 = .ok (.invokevirtual 107, 3) := by decide +kernel
theorem dX5_mend_107 : decode cX5_mend 107 = .ok (.aload_n 0, 1) := by decide +kernel
theorem dX5_mend_108 : decode cX5_mend 108 = .ok (.getfield 7, 3) := by decide +kernel
theorem dX5_mend_111 : decode cX5_mend 111 = .ok (.iconst 5, 1) := by decide +kernel
theorem dX5_mend_112 : decode cX5_mend 112 = .ok (.dup2, 1) := by decide +kernel
theorem dX5_mend_113 : decode cX5_mend 113 = .ok (.iaload, 1) := by decide +kernel
theorem dX5_mend_114 : decode cX5_mend 114 = .ok (.iconst 5, 1) := by decide +kernel
theorem dX5_mend_115 : decode cX5_mend 115 = .ok (.iload_n 2, 1) := by decide +kernel
theorem dX5_mend_116 : decode cX5_mend 116 = .ok (.imul, 1) := by decide +kernel
theorem dX5_mend_117 : decode cX5_mend 117 = .ok (.isub, 1) := by decide +kernel
theorem dX5_mend_118 : decode cX5_mend 118 = .ok (.iastore, 1) := by decide +kernel
theorem dX5_mend_119 : decode cX5_mend 119 = .ok (.aload_n 0, 1) := by decide +kernel
theorem dX5_mend_120 : decode cX5_mend 120 = .ok (.getfield 7, 3) := by decide +kernel
theorem dX5_mend_123 : decode cX5_mend 123 = .ok (.iconst 5, 1) := by decide +kernel
theorem dX5_mend_124 : decode cX5_mend 124 = .ok (.iaload, 1) := by decide +kernel
theorem dX5_mend_125 : decode cX5_mend 125 = .ok (.ireturn, 1) := by decide +kernel
theorem dX5_spanCount_0 : decode cX5_spanCount 0 = .ok (.aload_n 0, 1) := by decide +kernel
theorem dX5_spanCount_1 : decode cX5_spanCount 1 = .ok (.iconst 0, 1) := by decide +kernel
theorem dX5_spanCount_2 : decode cX5_spanCount 2 = .ok (.putfield 42, 3) := by decide +kernel
theorem dX5_spanCount_5 : decode cX5_spanCount 5 = .ok (.aload_n 0, 1) := by decide +kernel
theorem dX5_spanCount_6 : decode cX5_spanCount 6 = .ok (.getfield 7, 3) := by decide +kernel
theorem dX5_spanCount_9 : decode cX5_spanCount 9 = .ok (.iconst 0, 1) := by decide +kernel
theorem dX5_spanCount_10 : decode cX5_spanCount 10 = .ok (.iaload, 1) := by decide +kernel
theorem dX5_spanCount_11 : decode cX5_spanCount 11 = .ok (.ireturn, 1) := by decide +kernel
theorem dX5_jars_0 : decode cX5_jars 0 = .ok (.aload_n 0, 1) := by decide +kernel
theorem dX5_jars_1 : decode cX5_jars 1 = .ok (.iload_n 1, 1) := by decide +kernel
theorem dX5_jars_2 : decode cX5_jars 2 = .ok (.invokevirtual 111, 3) := by decide +kernel
theorem dX5_jars_5 : decode cX5_jars 5 = .ok (.ifCond .eq 7, 3) := by decide +kernel
theorem dX5_jars_8 : decode cX5_jars 8 = .ok (.iconst 0, 1) := by decide +kernel
theorem dX5_jars_9 : decode cX5_jars 9 = .ok (.goto 9, 3) := by decide +kernel
theorem dX5_jars_12 : decode cX5_jars 12 = .ok (.aload_n 0, 1) := by decide +kernel
theorem dX5_jars_13 : decode cX5_jars 13 = .ok (.iload_n 1, 1) := by decide +kernel
theorem dX5_jars_14 : decode cX5_jars 14 = .ok (.iconst 1, 1) := by decide +kernel
theorem dX5_jars_15 : decode cX5_jars 15 = .ok (.invokevirtual 79, 3) := by decide +kernel
theorem dX5_jars_18 : decode cX5_jars 18 = .ok (.ireturn, 1) := by decide +kernel
theorem dX5_age_0 : decode cX5_age 0 = .ok (.aload_n 0, 1) := by decide +kernel
theorem dX5_age_1 : decode cX5_age 1 = .ok (.iload_n 1, 1) := by decide +kernel
theorem dX5_age_2 : decode cX5_age 2 = .ok (.invokevirtual 111, 3) := by decide +kernel
theorem dX5_age_5 : decode cX5_age 5 = .ok (.ifCond .eq 7, 3) := by decide +kernel
theorem dX5_age_8 : decode cX5_age 8 = .ok (.iconst 0, 1) := by decide +kernel
theorem dX5_age_9 : decode cX5_age 9 = .ok (.goto 9, 3) := by decide +kernel
theorem dX5_age_12 : decode cX5_age 12 = .ok (.aload_n 0, 1) := by decide +kernel
theorem dX5_age_13 : decode cX5_age 13 = .ok (.iload_n 1, 1) := by decide +kernel
theorem dX5_age_14 : decode cX5_age 14 = .ok (.iconst 2, 1) := by decide +kernel
theorem dX5_age_15 : decode cX5_age 15 = .ok (.invokevirtual 79, 3) := by decide +kernel
theorem dX5_age_18 : decode cX5_age 18 = .ok (.ireturn, 1) := by decide +kernel
theorem dX5_cracks_0 : decode cX5_cracks 0 = .ok (.aload_n 0, 1) := by decide +kernel
theorem dX5_cracks_1 : decode cX5_cracks 1 = .ok (.iload_n 1, 1) := by decide +kernel
theorem dX5_cracks_2 : decode cX5_cracks 2 = .ok (.invokevirtual 111, 3) := by decide +kernel
theorem dX5_cracks_5 : decode cX5_cracks 5 = .ok (.ifCond .eq 7, 3) := by decide +kernel
theorem dX5_cracks_8 : decode cX5_cracks 8 = .ok (.iconst 0, 1) := by decide +kernel
theorem dX5_cracks_9 : decode cX5_cracks 9 = .ok (.goto 9, 3) := by decide +kernel
theorem dX5_cracks_12 : decode cX5_cracks 12 = .ok (.aload_n 0, 1) := by decide +kernel
theorem dX5_cracks_13 : decode cX5_cracks 13 = .ok (.iload_n 1, 1) := by decide +kernel
theorem dX5_cracks_14 : decode cX5_cracks 14 = .ok (.iconst 3, 1) := by decide +kernel
theorem dX5_cracks_15 : decode cX5_cracks 15 = .ok (.invokevirtual 79, 3) := by decide +kernel
theorem dX5_cracks_18 : decode cX5_cracks 18 = .ok (.ireturn, 1) := by decide +kernel
theorem dX5_stress_0 : decode cX5_stress 0 = .ok (.aload_n 0, 1) := by decide +kernel
theorem dX5_stress_1 : decode cX5_stress 1 = .ok (.iload_n 1, 1) := by decide +kernel
theorem dX5_stress_2 : decode cX5_stress 2 = .ok (.invokevirtual 111, 3) := by decide +kernel
theorem dX5_stress_5 : decode cX5_stress 5 = .ok (.ifCond .eq 7, 3) := by decide +kernel
theorem dX5_stress_8 : decode cX5_stress 8 = .ok (.iconst 0, 1) := by decide +kernel
theorem dX5_stress_9 : decode cX5_stress 9 = .ok (.goto 9, 3) := by decide +kernel
theorem dX5_stress_12 : decode cX5_stress 12 = .ok (.aload_n 0, 1) := by decide +kernel
theorem dX5_stress_13 : decode cX5_stress 13 = .ok (.iload_n 1, 1) := by decide +kernel
theorem dX5_stress_14 : decode cX5_stress 14 = .ok (.iconst 4, 1) := by decide +kernel
theorem dX5_stress_15 : decode cX5_stress 15 = .ok (.invokevirtual 79, 3) := by decide +kernel
theorem dX5_stress_18 : decode cX5_stress 18 = .ok (.ireturn, 1) := by decide +kernel
theorem dX5_strength_0 : decode cX5_strength 0 = .ok (.aload_n 0, 1) := by decide +kernel
theorem dX5_strength_1 : decode cX5_strength 1 = .ok (.iload_n 1, 1) := by decide +kernel
theorem dX5_strength_2 : decode cX5_strength 2 = .ok (.invokevirtual 111, 3) := by decide +kernel
theorem dX5_strength_5 : decode cX5_strength 5 = .ok (.ifCond .eq 7, 3) := by decide +kernel
theorem dX5_strength_8 : decode cX5_strength 8 = .ok (.iconst 0, 1) := by decide +kernel
theorem dX5_strength_9 : decode cX5_strength 9 = .ok (.goto 8, 3) := by decide +kernel
theorem dX5_strength_12 : decode cX5_strength 12 = .ok (.aload_n 0, 1) := by decide +kernel
theorem dX5_strength_13 : decode cX5_strength 13 = .ok (.iload_n 1, 1) := by decide +kernel
theorem dX5_strength_14 : decode cX5_strength 14 = .ok (.invokevirtual 96, 3) := by decide +kernel
theorem dX5_strength_17 : decode cX5_strength 17 = .ok (.ireturn, 1) := by decide +kernel
theorem dX5_load_0 : decode cX5_load 0 = .ok (.aload_n 0, 1) := by decide +kernel
theorem dX5_load_1 : decode cX5_load 1 = .ok (.iload_n 1, 1) := by decide +kernel
theorem dX5_load_2 : decode cX5_load 2 = .ok (.invokevirtual 111, 3) := by decide +kernel
theorem dX5_load_5 : decode cX5_load 5 = .ok (.ifCond .eq 7, 3) := by decide +kernel
theorem dX5_load_8 : decode cX5_load 8 = .ok (.iconst 0, 1) := by decide +kernel
theorem dX5_load_9 : decode cX5_load 9 = .ok (.goto 8, 3) := by decide +kernel
theorem dX5_load_12 : decode cX5_load 12 = .ok (.aload_n 0, 1) := by decide +kernel
theorem dX5_load_13 : decode cX5_load 13 = .ok (.iload_n 1, 1) := by decide +kernel
theorem dX5_load_14 : decode cX5_load 14 = .ok (.invokevirtual 92, 3) := by decide +kernel
theorem dX5_load_17 : decode cX5_load 17 = .ok (.ireturn, 1) := by decide +kernel
theorem dX5_isStrained_0 : decode cX5_isStrained 0 = .ok (.aload_n 0, 1) := by decide +kernel
theorem dX5_isStrained_1 : decode cX5_isStrained 1 = .ok (.iload_n 1, 1) := by decide +kernel
theorem dX5_isStrained_2 : decode cX5_isStrained 2 = .ok (.invokevirtual 111, 3) := by decide +kernel
theorem dX5_isStrained_5 : decode cX5_isStrained 5 = .ok (.ifCond .ne 15, 3) := by decide +kernel
theorem dX5_isStrained_8 : decode cX5_isStrained 8 = .ok (.aload_n 0, 1) := by decide +kernel
theorem dX5_isStrained_9 : decode cX5_isStrained 9 = .ok (.iload_n 1, 1) := by decide +kernel
theorem dX5_isStrained_10 : decode cX5_isStrained 10 = .ok (.invokevirtual 114, 3) := by decide +kernel
theorem dX5_isStrained_13 : decode cX5_isStrained 13 = .ok (.ifCond .eq 7, 3) := by decide +kernel
theorem dX5_isStrained_16 : decode cX5_isStrained 16 = .ok (.iconst 1, 1) := by decide +kernel
theorem dX5_isStrained_17 : decode cX5_isStrained 17 = .ok (.goto 4, 3) := by decide +kernel
theorem dX5_isStrained_20 : decode cX5_isStrained 20 = .ok (.iconst 0, 1) := by decide +kernel
theorem dX5_isStrained_21 : decode cX5_isStrained 21 = .ok (.ireturn, 1) := by decide +kernel
theorem dX5_hoursTo_0 : decode cX5_hoursTo 0 = .ok (.aload_n 0, 1) := by decide +kernel
theorem dX5_hoursTo_1 : decode cX5_hoursTo 1 = .ok (.iload_n 1, 1) := by decide +kernel
theorem dX5_hoursTo_2 : decode cX5_hoursTo 2 = .ok (.iconst 1, 1) := by decide +kernel
theorem dX5_hoursTo_3 : decode cX5_hoursTo 3 = .ok (.invokevirtual 79, 3) := by decide +kernel
theorem dX5_hoursTo_6 : decode cX5_hoursTo 6 = .ok (.ifCond .ne 12, 3) := by decide +kernel
theorem dX5_hoursTo_9 : decode cX5_hoursTo 9 = .ok (.aload_n 0, 1) := by decide +kernel
theorem dX5_hoursTo_10 : decode cX5_hoursTo 10 = .ok (.iload_n 1, 1) := by decide +kernel
theorem dX5_hoursTo_11 : decode cX5_hoursTo 11 = .ok (.iconst 2, 1) := by decide +kernel
theorem dX5_hoursTo_12 : decode cX5_hoursTo 12 = .ok (.invokevirtual 79, 3) := by decide +kernel
theorem dX5_hoursTo_15 : decode cX5_hoursTo 15 = .ok (.goto 12, 3) := by decide +kernel
theorem dX5_hoursTo_18 : decode cX5_hoursTo 18 = .ok (.aload_n 0, 1) := by decide +kernel
theorem dX5_hoursTo_19 : decode cX5_hoursTo 19 = .ok (.iload_n 1, 1) := by decide +kernel
theorem dX5_hoursTo_20 : decode cX5_hoursTo 20 = .ok (.iconst 2, 1) := by decide +kernel
theorem dX5_hoursTo_21 : decode cX5_hoursTo 21 = .ok (.invokevirtual 79, 3) := by decide +kernel
theorem dX5_hoursTo_24 : decode cX5_hoursTo 24 = .ok (.bipush 24, 2) := by decide +kernel
theorem dX5_hoursTo_26 : decode cX5_hoursTo 26 = .ok (.iadd, 1) := by decide +kernel
theorem dX5_hoursTo_27 : decode cX5_hoursTo 27 = .ok (.istore_n 3, 1) := by decide +kernel
theorem dX5_hoursTo_28 : decode cX5_hoursTo 28 = .ok (.aload_n 0, 1) := by decide +kernel
theorem dX5_hoursTo_29 : decode cX5_hoursTo 29 = .ok (.iload_n 1, 1) := by decide +kernel
theorem dX5_hoursTo_30 : decode cX5_hoursTo 30 = .ok (.iconst 2, 1) := by decide +kernel
theorem dX5_hoursTo_31 : decode cX5_hoursTo 31 = .ok (.invokevirtual 79, 3) := by decide +kernel
theorem dX5_hoursTo_34 : decode cX5_hoursTo 34 = .ok (.istore 4, 2) := by decide +kernel
theorem dX5_hoursTo_36 : decode cX5_hoursTo 36 = .ok (.iload 4, 2) := by decide +kernel
theorem dX5_hoursTo_38 : decode cX5_hoursTo 38 = .ok (.iload_n 3, 1) := by decide +kernel
theorem dX5_hoursTo_39 : decode cX5_hoursTo 39 = .ok (.if_icmp .gt 30, 3) := by decide +kernel
theorem dX5_hoursTo_42 : decode cX5_hoursTo 42 = .ok (.aload_n 0, 1) := by decide +kernel
theorem dX5_hoursTo_43 : decode cX5_hoursTo 43 = .ok (.iload_n 1, 1) := by decide +kernel
theorem dX5_hoursTo_44 : decode cX5_hoursTo 44 = .ok (.iload 4, 2) := by decide +kernel
theorem dX5_hoursTo_46 : decode cX5_hoursTo 46 = .ok (.invokevirtual 86, 3) := by decide +kernel
theorem dX5_hoursTo_49 : decode cX5_hoursTo 49 = .ok (.iload_n 2, 1) := by decide +kernel
theorem dX5_hoursTo_50 : decode cX5_hoursTo 50 = .ok (.if_icmp .lt 13, 3) := by decide +kernel
theorem dX5_hoursTo_53 : decode cX5_hoursTo 53 = .ok (.iload 4, 2) := by decide +kernel
theorem dX5_hoursTo_55 : decode cX5_hoursTo 55 = .ok (.aload_n 0, 1) := by decide +kernel
theorem dX5_hoursTo_56 : decode cX5_hoursTo 56 = .ok (.iload_n 1, 1) := by decide +kernel
theorem dX5_hoursTo_57 : decode cX5_hoursTo 57 = .ok (.iconst 2, 1) := by decide +kernel
theorem dX5_hoursTo_58 : decode cX5_hoursTo 58 = .ok (.invokevirtual 79, 3) := by decide +kernel
theorem dX5_hoursTo_61 : decode cX5_hoursTo 61 = .ok (.isub, 1) := by decide +kernel
theorem dX5_hoursTo_62 : decode cX5_hoursTo 62 = .ok (.ireturn, 1) := by decide +kernel
theorem dX5_hoursTo_63 : decode cX5_hoursTo 63 = .ok (.iinc 4 1, 3) := by decide +kernel
theorem dX5_hoursTo_66 : decode cX5_hoursTo 66 = .ok (.goto (-30), 3) := by decide +kernel
theorem dX5_hoursTo_69 : decode cX5_hoursTo 69 = .ok (.iconst (-1), 1) := by decide +kernel
theorem dX5_hoursTo_70 : decode cX5_hoursTo 70 = .ok (.ireturn, 1) := by decide +kernel
theorem dX5_hoursAsked_0 : decode cX5_hoursAsked 0 = .ok (.aload_n 0, 1) := by decide +kernel
theorem dX5_hoursAsked_1 : decode cX5_hoursAsked 1 = .ok (.aload_n 0, 1) := by decide +kernel
theorem dX5_hoursAsked_2 : decode cX5_hoursAsked 2 = .ok (.iload_n 1, 1) := by decide +kernel
theorem dX5_hoursAsked_3 : decode cX5_hoursAsked 3 = .ok (.invokevirtual 72, 3) := by decide +kernel
theorem dX5_hoursAsked_6 : decode cX5_hoursAsked 6 = .ok (.ifCond .ne 7, 3) := by decide +kernel
theorem dX5_hoursAsked_9 : decode cX5_hoursAsked 9 = .ok (.iconst 1, 1) := by decide +kernel
theorem dX5_hoursAsked_10 : decode cX5_hoursAsked 10 = .ok (.goto 18, 3) := by decide +kernel
theorem dX5_hoursAsked_13 : decode cX5_hoursAsked 13 = .ok (.iload_n 2, 1) := by decide +kernel
theorem dX5_hoursAsked_14 : decode cX5_hoursAsked 14 = .ok (.iconst 1, 1) := by decide +kernel
theorem dX5_hoursAsked_15 : decode cX5_hoursAsked 15 = .ok (.bipush 99, 2) := by decide +kernel
theorem dX5_hoursAsked_17 : decode cX5_hoursAsked 17 = .ok (.invokestatic 68, 3) := by decide +kernel
theorem dX5_hoursAsked_20 : decode cX5_hoursAsked 20 = .ok (.ifCond .eq 7, 3) := by decide +kernel
theorem dX5_hoursAsked_23 : decode cX5_hoursAsked 23 = .ok (.iconst 0, 1) := by decide +kernel
theorem dX5_hoursAsked_24 : decode cX5_hoursAsked 24 = .ok (.goto 4, 3) := by decide +kernel
theorem dX5_hoursAsked_27 : decode cX5_hoursAsked 27 = .ok (.iconst 2, 1) := by decide +kernel
theorem dX5_hoursAsked_28 : decode cX5_hoursAsked 28 = .ok (.invokevirtual 76, 3) := by decide +kernel
theorem dX5_hoursAsked_31 : decode cX5_hoursAsked 31 = .ok (.ifCond .eq 5, 3) := by decide +kernel
theorem dX5_hoursAsked_34 : decode cX5_hoursAsked 34 = .ok (.iconst 0, 1) := by decide +kernel
theorem dX5_hoursAsked_35 : decode cX5_hoursAsked 35 = .ok (.ireturn, 1) := by decide +kernel
theorem dX5_hoursAsked_36 : decode cX5_hoursAsked 36 = .ok (.aload_n 0, 1) := by decide +kernel
theorem dX5_hoursAsked_37 : decode cX5_hoursAsked 37 = .ok (.aload_n 0, 1) := by decide +kernel
theorem dX5_hoursAsked_38 : decode cX5_hoursAsked 38 = .ok (.iload_n 1, 1) := by decide +kernel
theorem dX5_hoursAsked_39 : decode cX5_hoursAsked 39 = .ok (.iload_n 2, 1) := by decide +kernel
theorem dX5_hoursAsked_40 : decode cX5_hoursAsked 40 = .ok (.invokevirtual 117, 3) := by decide +kernel
theorem dX5_hoursAsked_43 : decode cX5_hoursAsked 43 = .ok (.ifCond .ge 7, 3) := by decide +kernel
theorem dX5_hoursAsked_46 : decode cX5_hoursAsked 46 = .ok (.iconst 3, 1) := by decide +kernel
theorem dX5_hoursAsked_47 : decode cX5_hoursAsked 47 = .ok (.goto 4, 3) := by decide +kernel
theorem dX5_hoursAsked_50 : decode cX5_hoursAsked 50 = .ok (.iconst 0, 1) := by decide +kernel
theorem dX5_hoursAsked_51 : decode cX5_hoursAsked 51 = .ok (.invokevirtual 76, 3) := by decide +kernel
theorem dX5_hoursAsked_54 : decode cX5_hoursAsked 54 = .ok (.ifCond .eq 7, 3) := by decide +kernel
theorem dX5_hoursAsked_57 : decode cX5_hoursAsked 57 = .ok (.iconst 0, 1) := by decide +kernel
theorem dX5_hoursAsked_58 : decode cX5_hoursAsked 58 = .ok (.goto 9, 3) := by decide +kernel
theorem dX5_hoursAsked_61 : decode cX5_hoursAsked 61 = .ok (.aload_n 0, 1) := by decide +kernel
theorem dX5_hoursAsked_62 : decode cX5_hoursAsked 62 = .ok (.iload_n 1, 1) := by decide +kernel
theorem dX5_hoursAsked_63 : decode cX5_hoursAsked 63 = .ok (.iload_n 2, 1) := by decide +kernel
theorem dX5_hoursAsked_64 : decode cX5_hoursAsked 64 = .ok (.invokevirtual 117, 3) := by decide +kernel
theorem dX5_hoursAsked_67 : decode cX5_hoursAsked 67 = .ok (.ireturn, 1) := by decide +kernel
theorem dX5_hoursUntilBears_0 : decode cX5_hoursUntilBears 0 = .ok (.aload_n 0, 1) := by decide +kernel
theorem dX5_hoursUntilBears_1 : decode cX5_hoursUntilBears 1 = .ok (.iload_n 1, 1) := by decide +kernel
theorem dX5_hoursUntilBears_2 : decode cX5_hoursUntilBears 2 = .ok (.iload_n 2, 1) := by decide +kernel
theorem dX5_hoursUntilBears_3 : decode cX5_hoursUntilBears 3 = .ok (.invokevirtual 120, 3) := by decide +kernel
theorem dX5_hoursUntilBears_6 : decode cX5_hoursUntilBears 6 = .ok (.ireturn, 1) := by decide +kernel
theorem dX5_hoursUntilBearsByDivision_0 : decode cX5_hoursUntilBearsByDivision 0 = .ok (.aload_n 0, 1) := by decide +kernel
theorem dX5_hoursUntilBearsByDivision_1 : decode cX5_hoursUntilBearsByDivision 1 = .ok (.iload_n 1, 1) := by decide +kernel
theorem dX5_hoursUntilBearsByDivision_2 : decode cX5_hoursUntilBearsByDivision 2 = .ok (.iload_n 2, 1) := by decide +kernel
theorem dX5_hoursUntilBearsByDivision_3 : decode cX5_hoursUntilBearsByDivision 3 = .ok (.invokevirtual 120, 3) := by decide +kernel
theorem dX5_hoursUntilBearsByDivision_6 : decode cX5_hoursUntilBearsByDivision 6 = .ok (.ireturn, 1) := by decide +kernel
theorem dX5_isAhead_0 : decode cX5_isAhead 0 = .ok (.aload_n 0, 1) := by decide +kernel
theorem dX5_isAhead_1 : decode cX5_isAhead 1 = .ok (.iload_n 1, 1) := by decide +kernel
theorem dX5_isAhead_2 : decode cX5_isAhead 2 = .ok (.invokevirtual 96, 3) := by decide +kernel
theorem dX5_isAhead_5 : decode cX5_isAhead 5 = .ok (.aload_n 0, 1) := by decide +kernel
theorem dX5_isAhead_6 : decode cX5_isAhead 6 = .ok (.iload_n 2, 1) := by decide +kernel
theorem dX5_isAhead_7 : decode cX5_isAhead 7 = .ok (.invokevirtual 96, 3) := by decide +kernel
theorem dX5_isAhead_10 : decode cX5_isAhead 10 = .ok (.if_icmp .eq 22, 3) := by decide +kernel
theorem dX5_isAhead_13 : decode cX5_isAhead 13 = .ok (.aload_n 0, 1) := by decide +kernel
theorem dX5_isAhead_14 : decode cX5_isAhead 14 = .ok (.iload_n 1, 1) := by decide +kernel
theorem dX5_isAhead_15 : decode cX5_isAhead 15 = .ok (.invokevirtual 96, 3) := by decide +kernel
theorem dX5_isAhead_18 : decode cX5_isAhead 18 = .ok (.aload_n 0, 1) := by decide +kernel
theorem dX5_isAhead_19 : decode cX5_isAhead 19 = .ok (.iload_n 2, 1) := by decide +kernel
theorem dX5_isAhead_20 : decode cX5_isAhead 20 = .ok (.invokevirtual 96, 3) := by decide +kernel
theorem dX5_isAhead_23 : decode cX5_isAhead 23 = .ok (.if_icmp .ge 7, 3) := by decide +kernel
theorem dX5_isAhead_26 : decode cX5_isAhead 26 = .ok (.iconst 1, 1) := by decide +kernel
theorem dX5_isAhead_27 : decode cX5_isAhead 27 = .ok (.goto 4, 3) := by decide +kernel
theorem dX5_isAhead_30 : decode cX5_isAhead 30 = .ok (.iconst 0, 1) := by decide +kernel
theorem dX5_isAhead_31 : decode cX5_isAhead 31 = .ok (.ireturn, 1) := by decide +kernel
theorem dX5_isAhead_32 : decode cX5_isAhead 32 = .ok (.aload_n 0, 1) := by decide +kernel
theorem dX5_isAhead_33 : decode cX5_isAhead 33 = .ok (.iload_n 1, 1) := by decide +kernel
theorem dX5_isAhead_34 : decode cX5_isAhead 34 = .ok (.iconst 3, 1) := by decide +kernel
theorem dX5_isAhead_35 : decode cX5_isAhead 35 = .ok (.invokevirtual 79, 3) := by decide +kernel
theorem dX5_isAhead_38 : decode cX5_isAhead 38 = .ok (.aload_n 0, 1) := by decide +kernel
theorem dX5_isAhead_39 : decode cX5_isAhead 39 = .ok (.iload_n 2, 1) := by decide +kernel
theorem dX5_isAhead_40 : decode cX5_isAhead 40 = .ok (.iconst 3, 1) := by decide +kernel
theorem dX5_isAhead_41 : decode cX5_isAhead 41 = .ok (.invokevirtual 79, 3) := by decide +kernel
theorem dX5_isAhead_44 : decode cX5_isAhead 44 = .ok (.if_icmp .gt 23, 3) := by decide +kernel
theorem dX5_isAhead_47 : decode cX5_isAhead 47 = .ok (.aload_n 0, 1) := by decide +kernel
theorem dX5_isAhead_48 : decode cX5_isAhead 48 = .ok (.iload_n 1, 1) := by decide +kernel
theorem dX5_isAhead_49 : decode cX5_isAhead 49 = .ok (.iconst 3, 1) := by decide +kernel
theorem dX5_isAhead_50 : decode cX5_isAhead 50 = .ok (.invokevirtual 79, 3) := by decide +kernel
theorem dX5_isAhead_53 : decode cX5_isAhead 53 = .ok (.aload_n 0, 1) := by decide +kernel
theorem dX5_isAhead_54 : decode cX5_isAhead 54 = .ok (.iload_n 2, 1) := by decide +kernel
theorem dX5_isAhead_55 : decode cX5_isAhead 55 = .ok (.iconst 3, 1) := by decide +kernel
theorem dX5_isAhead_56 : decode cX5_isAhead 56 = .ok (.invokevirtual 79, 3) := by decide +kernel
theorem dX5_isAhead_59 : decode cX5_isAhead 59 = .ok (.if_icmp .ne 12, 3) := by decide +kernel
theorem dX5_isAhead_62 : decode cX5_isAhead 62 = .ok (.iload_n 1, 1) := by decide +kernel
theorem dX5_isAhead_63 : decode cX5_isAhead 63 = .ok (.iload_n 2, 1) := by decide +kernel
theorem dX5_isAhead_64 : decode cX5_isAhead 64 = .ok (.if_icmp .ge 7, 3) := by decide +kernel
theorem dX5_isAhead_67 : decode cX5_isAhead 67 = .ok (.iconst 1, 1) := by decide +kernel
theorem dX5_isAhead_68 : decode cX5_isAhead 68 = .ok (.goto 4, 3) := by decide +kernel
theorem dX5_isAhead_71 : decode cX5_isAhead 71 = .ok (.iconst 0, 1) := by decide +kernel
theorem dX5_isAhead_72 : decode cX5_isAhead 72 = .ok (.ireturn, 1) := by decide +kernel
theorem dX5_spanByStrength_0 : decode cX5_spanByStrength 0 = .ok (.iconst 0, 1) := by decide +kernel
theorem dX5_spanByStrength_1 : decode cX5_spanByStrength 1 = .ok (.istore_n 2, 1) := by decide +kernel
theorem dX5_spanByStrength_2 : decode cX5_spanByStrength 2 = .ok (.iload_n 2, 1) := by decide +kernel
theorem dX5_spanByStrength_3 : decode cX5_spanByStrength 3 = .ok (.aload_n 0, 1) := by decide +kernel
theorem dX5_spanByStrength_4 : decode cX5_spanByStrength 4 = .ok (.getfield 7, 3) := by decide +kernel
theorem dX5_spanByStrength_7 : decode cX5_spanByStrength 7 = .ok (.iconst 0, 1) := by decide +kernel
theorem dX5_spanByStrength_8 : decode cX5_spanByStrength 8 = .ok (.iaload, 1) := by decide +kernel
theorem dX5_spanByStrength_9 : decode cX5_spanByStrength 9 = .ok (.if_icmp .ge 64, 3) := by decide +kernel
theorem dX5_spanByStrength_12 : decode cX5_spanByStrength 12 = .ok (.iconst 0, 1) := by decide +kernel
theorem dX5_spanByStrength_13 : decode cX5_spanByStrength 13 = .ok (.istore_n 3, 1) := by decide +kernel
theorem dX5_spanByStrength_14 : decode cX5_spanByStrength 14 = .ok (.iconst 0, 1) := by decide +kernel
theorem dX5_spanByStrength_15 : decode cX5_spanByStrength 15 = .ok (.istore 4, 2) := by decide +kernel
theorem dX5_spanByStrength_17 : decode cX5_spanByStrength 17 = .ok (.iload 4, 2) := by decide +kernel
theorem dX5_spanByStrength_19 : decode cX5_spanByStrength 19 = .ok (.aload_n 0, 1) := by decide +kernel
theorem dX5_spanByStrength_20 : decode cX5_spanByStrength 20 = .ok (.getfield 7, 3) := by decide +kernel
theorem dX5_spanByStrength_23 : decode cX5_spanByStrength 23 = .ok (.iconst 0, 1) := by decide +kernel
theorem dX5_spanByStrength_24 : decode cX5_spanByStrength 24 = .ok (.iaload, 1) := by decide +kernel
theorem dX5_spanByStrength_25 : decode cX5_spanByStrength 25 = .ok (.if_icmp .ge 27, 3) := by decide +kernel
theorem dX5_spanByStrength_28 : decode cX5_spanByStrength 28 = .ok (.iload_n 3, 1) := by decide +kernel
theorem dX5_spanByStrength_29 : decode cX5_spanByStrength 29 = .ok (.aload_n 0, 1) := by decide +kernel
theorem dX5_spanByStrength_30 : decode cX5_spanByStrength 30 = .ok (.iload 4, 2) := by decide +kernel
theorem dX5_spanByStrength_32 : decode cX5_spanByStrength 32 = .ok (.iload_n 2, 1) := by decide +kernel
theorem dX5_spanByStrength_33 : decode cX5_spanByStrength 33 = .ok (.invokevirtual 123, 3) := by decide +kernel
theorem dX5_spanByStrength_36 : decode cX5_spanByStrength 36 = .ok (.ifCond .eq 7, 3) := by decide +kernel
theorem dX5_spanByStrength_39 : decode cX5_spanByStrength 39 = .ok (.iconst 1, 1) := by decide +kernel
theorem dX5_spanByStrength_40 : decode cX5_spanByStrength 40 = .ok (.goto 4, 3) := by decide +kernel
theorem dX5_spanByStrength_43 : decode cX5_spanByStrength 43 = .ok (.iconst 0, 1) := by decide +kernel
theorem dX5_spanByStrength_44 : decode cX5_spanByStrength 44 = .ok (.iadd, 1) := by decide +kernel
theorem dX5_spanByStrength_45 : decode cX5_spanByStrength 45 = .ok (.istore_n 3, 1) := by decide +kernel
theorem dX5_spanByStrength_46 : decode cX5_spanByStrength 46 = .ok (.iinc 4 1, 3) := by decide +kernel
theorem dX5_spanByStrength_49 : decode cX5_spanByStrength 49 = .ok (.goto (-32), 3) := by decide +kernel
theorem dX5_spanByStrength_52 : decode cX5_spanByStrength 52 = .ok (.iload_n 3, 1) := by decide +kernel
theorem dX5_spanByStrength_53 : decode cX5_spanByStrength 53 = .ok (.iload_n 1, 1) := by decide +kernel
theorem dX5_spanByStrength_54 : decode cX5_spanByStrength 54 = .ok (.if_icmp .eq 6, 3) := by decide +kernel
theorem dX5_spanByStrength_57 : decode cX5_spanByStrength 57 = .ok (.goto 10, 3) := by decide +kernel
theorem dX5_spanByStrength_60 : decode cX5_spanByStrength 60 = .ok (.aload_n 0, 1) := by decide +kernel
theorem dX5_spanByStrength_61 : decode cX5_spanByStrength 61 = .ok (.iconst 0, 1) := by decide +kernel
theorem dX5_spanByStrength_62 : decode cX5_spanByStrength 62 = .ok (.putfield 42, 3) := by decide +kernel
theorem dX5_spanByStrength_65 : decode cX5_spanByStrength 65 = .ok (.iload_n 2, 1) := by decide +kernel
theorem dX5_spanByStrength_66 : decode cX5_spanByStrength 66 = .ok (.ireturn, 1) := by decide +kernel
theorem dX5_spanByStrength_67 : decode cX5_spanByStrength 67 = .ok (.iinc 2 1, 3) := by decide +kernel
theorem dX5_spanByStrength_70 : decode cX5_spanByStrength 70 = .ok (.goto (-68), 3) := by decide +kernel
theorem dX5_spanByStrength_73 : decode cX5_spanByStrength 73 = .ok (.aload_n 0, 1) := by decide +kernel
theorem dX5_spanByStrength_74 : decode cX5_spanByStrength 74 = .ok (.iconst 1, 1) := by decide +kernel
theorem dX5_spanByStrength_75 : decode cX5_spanByStrength 75 = .ok (.putfield 42, 3) := by decide +kernel
theorem dX5_spanByStrength_78 : decode cX5_spanByStrength 78 = .ok (.iconst 0, 1) := by decide +kernel
theorem dX5_spanByStrength_79 : decode cX5_spanByStrength 79 = .ok (.ireturn, 1) := by decide +kernel
theorem dX5_on_0 : decode cX5_on 0 = .ok (.aload_n 0, 1) := by decide +kernel
theorem dX5_on_1 : decode cX5_on 1 = .ok (.getfield 7, 3) := by decide +kernel
theorem dX5_on_4 : decode cX5_on 4 = .ok (.bipush 59, 2) := by decide +kernel
theorem dX5_on_6 : decode cX5_on 6 = .ok (.iconst 3, 1) := by decide +kernel
theorem dX5_on_7 : decode cX5_on 7 = .ok (.iload_n 1, 1) := by decide +kernel
theorem dX5_on_8 : decode cX5_on 8 = .ok (.imul, 1) := by decide +kernel
theorem dX5_on_9 : decode cX5_on 9 = .ok (.iadd, 1) := by decide +kernel
theorem dX5_on_10 : decode cX5_on 10 = .ok (.iload_n 2, 1) := by decide +kernel
theorem dX5_on_11 : decode cX5_on 11 = .ok (.iadd, 1) := by decide +kernel
theorem dX5_on_12 : decode cX5_on 12 = .ok (.iaload, 1) := by decide +kernel
theorem dX5_on_13 : decode cX5_on 13 = .ok (.ireturn, 1) := by decide +kernel
theorem dX5_placeOf_0 : decode cX5_placeOf 0 = .ok (.iconst 0, 1) := by decide +kernel
theorem dX5_placeOf_1 : decode cX5_placeOf 1 = .ok (.istore_n 2, 1) := by decide +kernel
theorem dX5_placeOf_2 : decode cX5_placeOf 2 = .ok (.iload_n 2, 1) := by decide +kernel
theorem dX5_placeOf_3 : decode cX5_placeOf 3 = .ok (.aload_n 0, 1) := by decide +kernel
theorem dX5_placeOf_4 : decode cX5_placeOf 4 = .ok (.getfield 7, 3) := by decide +kernel
theorem dX5_placeOf_7 : decode cX5_placeOf 7 = .ok (.iconst 1, 1) := by decide +kernel
theorem dX5_placeOf_8 : decode cX5_placeOf 8 = .ok (.iaload, 1) := by decide +kernel
theorem dX5_placeOf_9 : decode cX5_placeOf 9 = .ok (.if_icmp .ge 21, 3) := by decide +kernel
theorem dX5_placeOf_12 : decode cX5_placeOf 12 = .ok (.aload_n 0, 1) := by decide +kernel
theorem dX5_placeOf_13 : decode cX5_placeOf 13 = .ok (.iload_n 2, 1) := by decide +kernel
theorem dX5_placeOf_14 : decode cX5_placeOf 14 = .ok (.iconst 0, 1) := by decide +kernel
theorem dX5_placeOf_15 : decode cX5_placeOf 15 = .ok (.invokevirtual 89, 3) := by decide +kernel
theorem dX5_placeOf_18 : decode cX5_placeOf 18 = .ok (.iload_n 1, 1) := by decide +kernel
theorem dX5_placeOf_19 : decode cX5_placeOf 19 = .ok (.if_icmp .ne 5, 3) := by decide +kernel
theorem dX5_placeOf_22 : decode cX5_placeOf 22 = .ok (.iload_n 2, 1) := by decide +kernel
theorem dX5_placeOf_23 : decode cX5_placeOf 23 = .ok (.ireturn, 1) := by decide +kernel
theorem dX5_placeOf_24 : decode cX5_placeOf 24 = .ok (.iinc 2 1, 3) := by decide +kernel
theorem dX5_placeOf_27 : decode cX5_placeOf 27 = .ok (.goto (-25), 3) := by decide +kernel
theorem dX5_placeOf_30 : decode cX5_placeOf 30 = .ok (.iconst (-1), 1) := by decide +kernel
theorem dX5_placeOf_31 : decode cX5_placeOf 31 = .ok (.ireturn, 1) := by decide +kernel
theorem dX5_isGone_0 : decode cX5_isGone 0 = .ok (.aload_n 0, 1) := by decide +kernel
theorem dX5_isGone_1 : decode cX5_isGone 1 = .ok (.aload_n 0, 1) := by decide +kernel
theorem dX5_isGone_2 : decode cX5_isGone 2 = .ok (.iload_n 1, 1) := by decide +kernel
theorem dX5_isGone_3 : decode cX5_isGone 3 = .ok (.invokevirtual 127, 3) := by decide +kernel
theorem dX5_isGone_6 : decode cX5_isGone 6 = .ok (.ifCond .ge 7, 3) := by decide +kernel
theorem dX5_isGone_9 : decode cX5_isGone 9 = .ok (.iconst 1, 1) := by decide +kernel
theorem dX5_isGone_10 : decode cX5_isGone 10 = .ok (.goto 4, 3) := by decide +kernel
theorem dX5_isGone_13 : decode cX5_isGone 13 = .ok (.iconst 0, 1) := by decide +kernel
theorem dX5_isGone_14 : decode cX5_isGone 14 = .ok (.invokevirtual 76, 3) := by decide +kernel
theorem dX5_isGone_17 : decode cX5_isGone 17 = .ok (.ireturn, 1) := by decide +kernel
theorem dX5_enter_0 : decode cX5_enter 0 = .ok (.aload_n 0, 1) := by decide +kernel
theorem dX5_enter_1 : decode cX5_enter 1 = .ok (.iload_n 1, 1) := by decide +kernel
theorem dX5_enter_2 : decode cX5_enter 2 = .ok (.iconst 1, 1) := by decide +kernel
theorem dX5_enter_3 : decode cX5_enter 3 = .ok (.bipush 99, 2) := by decide +kernel
theorem dX5_enter_5 : decode cX5_enter 5 = .ok (.invokestatic 68, 3) := by decide +kernel
theorem dX5_enter_8 : decode cX5_enter 8 = .ok (.ifCond .eq 7, 3) := by decide +kernel
theorem dX5_enter_11 : decode cX5_enter 11 = .ok (.iconst 0, 1) := by decide +kernel
theorem dX5_enter_12 : decode cX5_enter 12 = .ok (.goto 4, 3) := by decide +kernel
theorem dX5_enter_15 : decode cX5_enter 15 = .ok (.iconst 1, 1) := by decide +kernel
theorem dX5_enter_16 : decode cX5_enter 16 = .ok (.invokevirtual 76, 3) := by decide +kernel
theorem dX5_enter_19 : decode cX5_enter 19 = .ok (.ifCond .eq 5, 3) := by decide +kernel
theorem dX5_enter_22 : decode cX5_enter 22 = .ok (.iconst 0, 1) := by decide +kernel
theorem dX5_enter_23 : decode cX5_enter 23 = .ok (.ireturn, 1) := by decide +kernel
theorem dX5_enter_24 : decode cX5_enter 24 = .ok (.aload_n 0, 1) := by decide +kernel
theorem dX5_enter_25 : decode cX5_enter 25 = .ok (.getfield 7, 3) := by decide +kernel
theorem dX5_enter_28 : decode cX5_enter 28 = .ok (.iconst 0, 1) := by decide +kernel
theorem dX5_enter_29 : decode cX5_enter 29 = .ok (.iaload, 1) := by decide +kernel
theorem dX5_enter_30 : decode cX5_enter 30 = .ok (.ifCond .ne 16, 3) := by decide +kernel
theorem dX5_enter_33 : decode cX5_enter 33 = .ok (.aload_n 0, 1) := by decide +kernel
theorem dX5_enter_34 : decode cX5_enter 34 = .ok (.iconst 2, 1) := by decide +kernel
theorem dX5_enter_35 : decode cX5_enter 35 = .ok (.iconst 3, 1) := by decide +kernel
theorem dX5_enter_36 : decode cX5_enter 36 = .ok (.aload_n 0, 1) := by decide +kernel
theorem dX5_enter_37 : decode cX5_enter 37 = .ok (.getfield 7, 3) := by decide +kernel
theorem dX5_enter_40 : decode cX5_enter 40 = .ok (.iconst 3, 1) := by decide +kernel
theorem dX5_enter_41 : decode cX5_enter 41 = .ok (.iaload, 1) := by decide +kernel
theorem dX5_enter_42 : decode cX5_enter 42 = .ok (.invokevirtual 99, 3) := by decide +kernel
theorem dX5_enter_45 : decode cX5_enter 45 = .ok (.ireturn, 1) := by decide +kernel
theorem dX5_enter_46 : decode cX5_enter 46 = .ok (.aload_n 0, 1) := by decide +kernel
theorem dX5_enter_47 : decode cX5_enter 47 = .ok (.getfield 7, 3) := by decide +kernel
theorem dX5_enter_50 : decode cX5_enter 50 = .ok (.iconst 1, 1) := by decide +kernel
theorem dX5_enter_51 : decode cX5_enter 51 = .ok (.iaload, 1) := by decide +kernel
theorem dX5_enter_52 : decode cX5_enter 52 = .ok (.bipush 8, 2) := by decide +kernel
theorem dX5_enter_54 : decode cX5_enter 54 = .ok (.if_icmp .ne 12, 3) := by decide +kernel
theorem dX5_enter_57 : decode cX5_enter 57 = .ok (.aload_n 0, 1) := by decide +kernel
theorem dX5_enter_58 : decode cX5_enter 58 = .ok (.iconst 2, 1) := by decide +kernel
theorem dX5_enter_59 : decode cX5_enter 59 = .ok (.iconst 1, 1) := by decide +kernel
theorem dX5_enter_60 : decode cX5_enter 60 = .ok (.bipush 8, 2) := by decide +kernel
theorem dX5_enter_62 : decode cX5_enter 62 = .ok (.invokevirtual 99, 3) := by decide +kernel
theorem dX5_enter_65 : decode cX5_enter 65 = .ok (.ireturn, 1) := by decide +kernel
theorem dX5_enter_66 : decode cX5_enter 66 = .ok (.aload_n 0, 1) := by decide +kernel
theorem dX5_enter_67 : decode cX5_enter 67 = .ok (.iconst 0, 1) := by decide +kernel
theorem dX5_enter_68 : decode cX5_enter 68 = .ok (.invokevirtual 96, 3) := by decide +kernel
theorem dX5_enter_71 : decode cX5_enter 71 = .ok (.aload_n 0, 1) := by decide +kernel
theorem dX5_enter_72 : decode cX5_enter 72 = .ok (.iconst 0, 1) := by decide +kernel
theorem dX5_enter_73 : decode cX5_enter 73 = .ok (.invokevirtual 92, 3) := by decide +kernel
theorem dX5_enter_76 : decode cX5_enter 76 = .ok (.isub, 1) := by decide +kernel
theorem dX5_enter_77 : decode cX5_enter 77 = .ok (.istore_n 2, 1) := by decide +kernel
theorem dX5_enter_78 : decode cX5_enter 78 = .ok (.iload_n 1, 1) := by decide +kernel
theorem dX5_enter_79 : decode cX5_enter 79 = .ok (.iload_n 2, 1) := by decide +kernel
theorem dX5_enter_80 : decode cX5_enter 80 = .ok (.if_icmp .le 11, 3) := by decide +kernel
theorem dX5_enter_83 : decode cX5_enter 83 = .ok (.aload_n 0, 1) := by decide +kernel
theorem dX5_enter_84 : decode cX5_enter 84 = .ok (.iconst 2, 1) := by decide +kernel
theorem dX5_enter_85 : decode cX5_enter 85 = .ok (.iconst 2, 1) := by decide +kernel
theorem dX5_enter_86 : decode cX5_enter 86 = .ok (.iload_n 2, 1) := by decide +kernel
theorem dX5_enter_87 : decode cX5_enter 87 = .ok (.invokevirtual 99, 3) := by decide +kernel
theorem dX5_enter_90 : decode cX5_enter 90 = .ok (.ireturn, 1) := by decide +kernel
theorem dX5_enter_91 : decode cX5_enter 91 = .ok (.aload_n 0, 1) := by decide +kernel
theorem dX5_enter_92 : decode cX5_enter 92 = .ok (.aload_n 0, 1) := by decide +kernel
theorem dX5_enter_93 : decode cX5_enter 93 = .ok (.getfield 7, 3) := by decide +kernel
theorem dX5_enter_96 : decode cX5_enter 96 = .ok (.invokevirtual 103, 3) := by decide +kernel
theorem dX5_enter_99 : decode cX5_enter 99 = .ok (.bipush 59, 2) := by decide +kernel
theorem dX5_enter_101 : decode cX5_enter 101 = .ok (.iconst 3, 1) := by decide +kernel
theorem dX5_enter_102 : decode cX5_enter 102 = .ok (.aload_n 0, 1) := by decide +kernel
theorem dX5_enter_103 : decode cX5_enter 103 = .ok (.getfield 7, 3) := by decide +kernel
theorem dX5_enter_106 : decode cX5_enter 106 = .ok (.iconst 1, 1) := by decide +kernel
theorem dX5_enter_107 : decode cX5_enter 107 = .ok (.iaload, 1) := by decide +kernel
theorem dX5_enter_108 : decode cX5_enter 108 = .ok (.imul, 1) := by decide +kernel
theorem dX5_enter_109 : decode cX5_enter 109 = .ok (.iadd, 1) := by decide +kernel
theorem dX5_enter_110 : decode cX5_enter 110 = .ok (.istore_n 3, 1) := by decide +kernel
theorem dX5_enter_111 : decode cX5_enter 111 = .ok (.aload_n 0, 1) := by decide +kernel
theorem dX5_enter_112 : decode cX5_enter 112 = .ok (.getfield 7, 3) := by decide +kernel
theorem dX5_enter_115 : decode cX5_enter 115 = .ok (.iload_n 3, 1) := by decide +kernel
theorem dX5_enter_116 : decode cX5_enter 116 = .ok (.iconst 0, 1) := by decide +kernel
theorem dX5_enter_117 : decode cX5_enter 117 = .ok (.iadd, 1) := by decide +kernel
theorem dX5_enter_118 : decode cX5_enter 118 = .ok (.aload_n 0, 1) := by decide +kernel
theorem dX5_enter_119 : decode cX5_enter 119 = .ok (.getfield 7, 3) := by decide +kernel
theorem dX5_enter_122 : decode cX5_enter 122 = .ok (.iconst 2, 1) := by decide +kernel
theorem dX5_enter_123 : decode cX5_enter 123 = .ok (.iaload, 1) := by decide +kernel
theorem dX5_enter_124 : decode cX5_enter 124 = .ok (.iastore, 1) := by decide +kernel
theorem dX5_enter_125 : decode cX5_enter 125 = .ok (.aload_n 0, 1) := by decide +kernel
theorem dX5_enter_126 : decode cX5_enter 126 = .ok (.getfield 7, 3) := by decide +kernel
theorem dX5_enter_129 : decode cX5_enter 129 = .ok (.iload_n 3, 1) := by decide +kernel
theorem dX5_enter_130 : decode cX5_enter 130 = .ok (.iconst 1, 1) := by decide +kernel
theorem dX5_enter_131 : decode cX5_enter 131 = .ok (.iadd, 1) := by decide +kernel
theorem dX5_enter_132 : decode cX5_enter 132 = .ok (.iload_n 1, 1) := by decide +kernel
theorem dX5_enter_133 : decode cX5_enter 133 = .ok (.iastore, 1) := by decide +kernel
theorem dX5_enter_134 : decode cX5_enter 134 = .ok (.aload_n 0, 1) := by decide +kernel
theorem dX5_enter_135 : decode cX5_enter 135 = .ok (.getfield 7, 3) := by decide +kernel
theorem dX5_enter_138 : decode cX5_enter 138 = .ok (.iload_n 3, 1) := by decide +kernel
theorem dX5_enter_139 : decode cX5_enter 139 = .ok (.iconst 2, 1) := by decide +kernel
theorem dX5_enter_140 : decode cX5_enter 140 = .ok (.iadd, 1) := by decide +kernel
theorem dX5_enter_141 : decode cX5_enter 141 = .ok (.iconst 0, 1) := by decide +kernel
theorem dX5_enter_142 : decode cX5_enter 142 = .ok (.iastore, 1) := by decide +kernel
theorem dX5_enter_143 : decode cX5_enter 143 = .ok (.aload_n 0, 1) := by decide +kernel
theorem dX5_enter_144 : decode cX5_enter 144 = .ok (.getfield 7, 3) := by decide +kernel
theorem dX5_enter_147 : decode cX5_enter 147 = .ok (.iconst 1, 1) := by decide +kernel
theorem dX5_enter_148 : decode cX5_enter 148 = .ok (.dup2, 1) := by decide +kernel
theorem dX5_enter_149 : decode cX5_enter 149 = .ok (.iaload, 1) := by decide +kernel
theorem dX5_enter_150 : decode cX5_enter 150 = .ok (.iconst 1, 1) := by decide +kernel
theorem dX5_enter_151 : decode cX5_enter 151 = .ok (.iadd, 1) := by decide +kernel
theorem dX5_enter_152 : decode cX5_enter 152 = .ok (.iastore, 1) := by decide +kernel
theorem dX5_enter_153 : decode cX5_enter 153 = .ok (.aload_n 0, 1) := by decide +kernel
theorem dX5_enter_154 : decode cX5_enter 154 = .ok (.getfield 7, 3) := by decide +kernel
theorem dX5_enter_157 : decode cX5_enter 157 = .ok (.iconst 2, 1) := by decide +kernel
theorem dX5_enter_158 : decode cX5_enter 158 = .ok (.dup2, 1) := by decide +kernel
theorem dX5_enter_159 : decode cX5_enter 159 = .ok (.iaload, 1) := by decide +kernel
theorem dX5_enter_160 : decode cX5_enter 160 = .ok (.iconst 1, 1) := by decide +kernel
theorem dX5_enter_161 : decode cX5_enter 161 = .ok (.iadd, 1) := by decide +kernel
theorem dX5_enter_162 : decode cX5_enter 162 = .ok (.iastore, 1) := by decide +kernel
theorem dX5_enter_163 : decode cX5_enter 163 = .ok (.aload_n 0, 1) := by decide +kernel
theorem dX5_enter_164 : decode cX5_enter 164 = .ok (.getfield 7, 3) := by decide +kernel
theorem dX5_enter_167 : decode cX5_enter 167 = .ok (.iconst 2, 1) := by decide +kernel
theorem dX5_enter_168 : decode cX5_enter 168 = .ok (.iaload, 1) := by decide +kernel
theorem dX5_enter_169 : decode cX5_enter 169 = .ok (.iconst 1, 1) := by decide +kernel
theorem dX5_enter_170 : decode cX5_enter 170 = .ok (.isub, 1) := by decide +kernel
theorem dX5_enter_171 : decode cX5_enter 171 = .ok (.ireturn, 1) := by decide +kernel
theorem dX5_drops_0 : decode cX5_drops 0 = .ok (.aload_n 0, 1) := by decide +kernel
theorem dX5_drops_1 : decode cX5_drops 1 = .ok (.getfield 7, 3) := by decide +kernel
theorem dX5_drops_4 : decode cX5_drops 4 = .ok (.iconst 1, 1) := by decide +kernel
theorem dX5_drops_5 : decode cX5_drops 5 = .ok (.dup2, 1) := by decide +kernel
theorem dX5_drops_6 : decode cX5_drops 6 = .ok (.iaload, 1) := by decide +kernel
theorem dX5_drops_7 : decode cX5_drops 7 = .ok (.iconst 1, 1) := by decide +kernel
theorem dX5_drops_8 : decode cX5_drops 8 = .ok (.isub, 1) := by decide +kernel
theorem dX5_drops_9 : decode cX5_drops 9 = .ok (.iastore, 1) := by decide +kernel
theorem dX5_drops_10 : decode cX5_drops 10 = .ok (.bipush 59, 2) := by decide +kernel
theorem dX5_drops_12 : decode cX5_drops 12 = .ok (.iconst 3, 1) := by decide +kernel
theorem dX5_drops_13 : decode cX5_drops 13 = .ok (.iload_n 1, 1) := by decide +kernel
theorem dX5_drops_14 : decode cX5_drops 14 = .ok (.imul, 1) := by decide +kernel
theorem dX5_drops_15 : decode cX5_drops 15 = .ok (.iadd, 1) := by decide +kernel
theorem dX5_drops_16 : decode cX5_drops 16 = .ok (.istore_n 2, 1) := by decide +kernel
theorem dX5_drops_17 : decode cX5_drops 17 = .ok (.iload_n 2, 1) := by decide +kernel
theorem dX5_drops_18 : decode cX5_drops 18 = .ok (.bipush 59, 2) := by decide +kernel
theorem dX5_drops_20 : decode cX5_drops 20 = .ok (.iconst 3, 1) := by decide +kernel
theorem dX5_drops_21 : decode cX5_drops 21 = .ok (.aload_n 0, 1) := by decide +kernel
theorem dX5_drops_22 : decode cX5_drops 22 = .ok (.getfield 7, 3) := by decide +kernel
theorem dX5_drops_25 : decode cX5_drops 25 = .ok (.iconst 1, 1) := by decide +kernel
theorem dX5_drops_26 : decode cX5_drops 26 = .ok (.iaload, 1) := by decide +kernel
theorem dX5_drops_27 : decode cX5_drops 27 = .ok (.imul, 1) := by decide +kernel
theorem dX5_drops_28 : decode cX5_drops 28 = .ok (.iadd, 1) := by decide +kernel
theorem dX5_drops_29 : decode cX5_drops 29 = .ok (.if_icmp .ge 23, 3) := by decide +kernel
theorem dX5_drops_32 : decode cX5_drops 32 = .ok (.aload_n 0, 1) := by decide +kernel
theorem dX5_drops_33 : decode cX5_drops 33 = .ok (.getfield 7, 3) := by decide +kernel
theorem dX5_drops_36 : decode cX5_drops 36 = .ok (.iload_n 2, 1) := by decide +kernel
theorem dX5_drops_37 : decode cX5_drops 37 = .ok (.aload_n 0, 1) := by decide +kernel
theorem dX5_drops_38 : decode cX5_drops 38 = .ok (.getfield 7, 3) := by decide +kernel
theorem dX5_drops_41 : decode cX5_drops 41 = .ok (.iload_n 2, 1) := by decide +kernel
theorem dX5_drops_42 : decode cX5_drops 42 = .ok (.iconst 3, 1) := by decide +kernel
theorem dX5_drops_43 : decode cX5_drops 43 = .ok (.iadd, 1) := by decide +kernel
theorem dX5_drops_44 : decode cX5_drops 44 = .ok (.iaload, 1) := by decide +kernel
theorem dX5_drops_45 : decode cX5_drops 45 = .ok (.iastore, 1) := by decide +kernel
theorem dX5_drops_46 : decode cX5_drops 46 = .ok (.iinc 2 1, 3) := by decide +kernel
theorem dX5_drops_49 : decode cX5_drops 49 = .ok (.goto (-32), 3) := by decide +kernel
theorem dX5_drops_52 : decode cX5_drops 52 = .ok (.iconst 0, 1) := by decide +kernel
theorem dX5_drops_53 : decode cX5_drops 53 = .ok (.istore_n 2, 1) := by decide +kernel
theorem dX5_drops_54 : decode cX5_drops 54 = .ok (.iload_n 2, 1) := by decide +kernel
theorem dX5_drops_55 : decode cX5_drops 55 = .ok (.iconst 3, 1) := by decide +kernel
theorem dX5_drops_56 : decode cX5_drops 56 = .ok (.if_icmp .ge 28, 3) := by decide +kernel
theorem dX5_drops_59 : decode cX5_drops 59 = .ok (.aload_n 0, 1) := by decide +kernel
theorem dX5_drops_60 : decode cX5_drops 60 = .ok (.getfield 7, 3) := by decide +kernel
theorem dX5_drops_63 : decode cX5_drops 63 = .ok (.bipush 59, 2) := by decide +kernel
theorem dX5_drops_65 : decode cX5_drops 65 = .ok (.iconst 3, 1) := by decide +kernel
theorem dX5_drops_66 : decode cX5_drops 66 = .ok (.aload_n 0, 1) := by decide +kernel
theorem dX5_drops_67 : decode cX5_drops 67 = .ok (.getfield 7, 3) := by decide +kernel
theorem dX5_drops_70 : decode cX5_drops 70 = .ok (.iconst 1, 1) := by decide +kernel
theorem dX5_drops_71 : decode cX5_drops 71 = .ok (.iaload, 1) := by decide +kernel
theorem dX5_drops_72 : decode cX5_drops 72 = .ok (.imul, 1) := by decide +kernel
theorem dX5_drops_73 : decode cX5_drops 73 = .ok (.iadd, 1) := by decide +kernel
theorem dX5_drops_74 : decode cX5_drops 74 = .ok (.iload_n 2, 1) := by decide +kernel
theorem dX5_drops_75 : decode cX5_drops 75 = .ok (.iadd, 1) := by decide +kernel
theorem dX5_drops_76 : decode cX5_drops 76 = .ok (.iconst 0, 1) := by decide +kernel
theorem dX5_drops_77 : decode cX5_drops 77 = .ok (.iastore, 1) := by decide +kernel
theorem dX5_drops_78 : decode cX5_drops 78 = .ok (.iinc 2 1, 3) := by decide +kernel
theorem dX5_drops_81 : decode cX5_drops 81 = .ok (.goto (-27), 3) := by decide +kernel
theorem dX5_drops_84 : decode cX5_drops 84 = .ok (.return_, 1) := by decide +kernel
theorem dX5_toll_0 : decode cX5_toll 0 = .ok (.iload_n 1, 1) := by decide +kernel
theorem dX5_toll_1 : decode cX5_toll 1 = .ok (.aload_n 0, 1) := by decide +kernel
theorem dX5_toll_2 : decode cX5_toll 2 = .ok (.getfield 7, 3) := by decide +kernel
theorem dX5_toll_5 : decode cX5_toll 5 = .ok (.iconst 4, 1) := by decide +kernel
theorem dX5_toll_6 : decode cX5_toll 6 = .ok (.iaload, 1) := by decide +kernel
theorem dX5_toll_7 : decode cX5_toll 7 = .ok (.imul, 1) := by decide +kernel
theorem dX5_toll_8 : decode cX5_toll 8 = .ok (.bipush 9, 2) := by decide +kernel
theorem dX5_toll_10 : decode cX5_toll 10 = .ok (.iadd, 1) := by decide +kernel
theorem dX5_toll_11 : decode cX5_toll 11 = .ok (.bipush 10, 2) := by decide +kernel
theorem dX5_toll_13 : decode cX5_toll 13 = .ok (.idiv, 1) := by decide +kernel
theorem dX5_toll_14 : decode cX5_toll 14 = .ok (.ireturn, 1) := by decide +kernel
theorem dX5_isBehind_0 : decode cX5_isBehind 0 = .ok (.iconst 0, 1) := by decide +kernel
theorem dX5_isBehind_1 : decode cX5_isBehind 1 = .ok (.istore_n 2, 1) := by decide +kernel
theorem dX5_isBehind_2 : decode cX5_isBehind 2 = .ok (.iload_n 2, 1) := by decide +kernel
theorem dX5_isBehind_3 : decode cX5_isBehind 3 = .ok (.iload_n 1, 1) := by decide +kernel
theorem dX5_isBehind_4 : decode cX5_isBehind 4 = .ok (.if_icmp .ge 26, 3) := by decide +kernel
theorem dX5_isBehind_7 : decode cX5_isBehind 7 = .ok (.aload_n 0, 1) := by decide +kernel
theorem dX5_isBehind_8 : decode cX5_isBehind 8 = .ok (.iload_n 2, 1) := by decide +kernel
theorem dX5_isBehind_9 : decode cX5_isBehind 9 = .ok (.iconst 2, 1) := by decide +kernel
theorem dX5_isBehind_10 : decode cX5_isBehind 10 = .ok (.invokevirtual 89, 3) := by decide +kernel
theorem dX5_isBehind_13 : decode cX5_isBehind 13 = .ok (.aload_n 0, 1) := by decide +kernel
theorem dX5_isBehind_14 : decode cX5_isBehind 14 = .ok (.iload_n 1, 1) := by decide +kernel
theorem dX5_isBehind_15 : decode cX5_isBehind 15 = .ok (.iconst 2, 1) := by decide +kernel
theorem dX5_isBehind_16 : decode cX5_isBehind 16 = .ok (.invokevirtual 89, 3) := by decide +kernel
theorem dX5_isBehind_19 : decode cX5_isBehind 19 = .ok (.if_icmp .ne 5, 3) := by decide +kernel
theorem dX5_isBehind_22 : decode cX5_isBehind 22 = .ok (.iconst 1, 1) := by decide +kernel
theorem dX5_isBehind_23 : decode cX5_isBehind 23 = .ok (.ireturn, 1) := by decide +kernel
theorem dX5_isBehind_24 : decode cX5_isBehind 24 = .ok (.iinc 2 1, 3) := by decide +kernel
theorem dX5_isBehind_27 : decode cX5_isBehind 27 = .ok (.goto (-25), 3) := by decide +kernel
theorem dX5_isBehind_30 : decode cX5_isBehind 30 = .ok (.iconst 0, 1) := by decide +kernel
theorem dX5_isBehind_31 : decode cX5_isBehind 31 = .ok (.ireturn, 1) := by decide +kernel
theorem dX5_drives_0 : decode cX5_drives 0 = .ok (.iconst 0, 1) := by decide +kernel
theorem dX5_drives_1 : decode cX5_drives 1 = .ok (.istore_n 1, 1) := by decide +kernel
theorem dX5_drives_2 : decode cX5_drives 2 = .ok (.iconst 0, 1) := by decide +kernel
theorem dX5_drives_3 : decode cX5_drives 3 = .ok (.istore_n 2, 1) := by decide +kernel
theorem dX5_drives_4 : decode cX5_drives 4 = .ok (.iload_n 2, 1) := by decide +kernel
theorem dX5_drives_5 : decode cX5_drives 5 = .ok (.aload_n 0, 1) := by decide +kernel
theorem dX5_drives_6 : decode cX5_drives 6 = .ok (.getfield 7, 3) := by decide +kernel
theorem dX5_drives_9 : decode cX5_drives 9 = .ok (.iconst 1, 1) := by decide +kernel
theorem dX5_drives_10 : decode cX5_drives 10 = .ok (.iaload, 1) := by decide +kernel
theorem dX5_drives_11 : decode cX5_drives 11 = .ok (.if_icmp .ge 143, 3) := by decide +kernel
theorem dX5_drives_14 : decode cX5_drives 14 = .ok (.aload_n 0, 1) := by decide +kernel
theorem dX5_drives_15 : decode cX5_drives 15 = .ok (.iload_n 2, 1) := by decide +kernel
theorem dX5_drives_16 : decode cX5_drives 16 = .ok (.iconst 2, 1) := by decide +kernel
theorem dX5_drives_17 : decode cX5_drives 17 = .ok (.invokevirtual 89, 3) := by decide +kernel
theorem dX5_drives_20 : decode cX5_drives 20 = .ok (.istore_n 3, 1) := by decide +kernel
theorem dX5_drives_21 : decode cX5_drives 21 = .ok (.iload_n 3, 1) := by decide +kernel
theorem dX5_drives_22 : decode cX5_drives 22 = .ok (.aload_n 0, 1) := by decide +kernel
theorem dX5_drives_23 : decode cX5_drives 23 = .ok (.getfield 7, 3) := by decide +kernel
theorem dX5_drives_26 : decode cX5_drives 26 = .ok (.iconst 0, 1) := by decide +kernel
theorem dX5_drives_27 : decode cX5_drives 27 = .ok (.iaload, 1) := by decide +kernel
theorem dX5_drives_28 : decode cX5_drives 28 = .ok (.iconst 1, 1) := by decide +kernel
theorem dX5_drives_29 : decode cX5_drives 29 = .ok (.isub, 1) := by decide +kernel
theorem dX5_drives_30 : decode cX5_drives 30 = .ok (.if_icmp .ne 70, 3) := by decide +kernel
theorem dX5_drives_33 : decode cX5_drives 33 = .ok (.aload_n 0, 1) := by decide +kernel
theorem dX5_drives_34 : decode cX5_drives 34 = .ok (.aload_n 0, 1) := by decide +kernel
theorem dX5_drives_35 : decode cX5_drives 35 = .ok (.iload_n 2, 1) := by decide +kernel
theorem dX5_drives_36 : decode cX5_drives 36 = .ok (.iconst 1, 1) := by decide +kernel
theorem dX5_drives_37 : decode cX5_drives 37 = .ok (.invokevirtual 89, 3) := by decide +kernel
theorem dX5_drives_40 : decode cX5_drives 40 = .ok (.invokevirtual 130, 3) := by decide +kernel
theorem dX5_drives_43 : decode cX5_drives 43 = .ok (.istore 4, 2) := by decide +kernel
theorem dX5_drives_45 : decode cX5_drives 45 = .ok (.aload_n 0, 1) := by decide +kernel
theorem dX5_drives_46 : decode cX5_drives 46 = .ok (.getfield 7, 3) := by decide +kernel
theorem dX5_drives_49 : decode cX5_drives 49 = .ok (.iconst 5, 1) := by decide +kernel
theorem dX5_drives_50 : decode cX5_drives 50 = .ok (.dup2, 1) := by decide +kernel
theorem dX5_drives_51 : decode cX5_drives 51 = .ok (.iaload, 1) := by decide +kernel
theorem dX5_drives_52 : decode cX5_drives 52 = .ok (.iload 4, 2) := by decide +kernel
theorem dX5_drives_54 : decode cX5_drives 54 = .ok (.iadd, 1) := by decide +kernel
theorem dX5_drives_55 : decode cX5_drives 55 = .ok (.iastore, 1) := by decide +kernel
theorem dX5_drives_56 : decode cX5_drives 56 = .ok (.aload_n 0, 1) := by decide +kernel
theorem dX5_drives_57 : decode cX5_drives 57 = .ok (.getfield 7, 3) := by decide +kernel
theorem dX5_drives_60 : decode cX5_drives 60 = .ok (.bipush 6, 2) := by decide +kernel
theorem dX5_drives_62 : decode cX5_drives 62 = .ok (.dup2, 1) := by decide +kernel
theorem dX5_drives_63 : decode cX5_drives 63 = .ok (.iaload, 1) := by decide +kernel
theorem dX5_drives_64 : decode cX5_drives 64 = .ok (.iload 4, 2) := by decide +kernel
theorem dX5_drives_66 : decode cX5_drives 66 = .ok (.iadd, 1) := by decide +kernel
theorem dX5_drives_67 : decode cX5_drives 67 = .ok (.iastore, 1) := by decide +kernel
theorem dX5_drives_68 : decode cX5_drives 68 = .ok (.aload_n 0, 1) := by decide +kernel
theorem dX5_drives_69 : decode cX5_drives 69 = .ok (.getfield 7, 3) := by decide +kernel
theorem dX5_drives_72 : decode cX5_drives 72 = .ok (.bipush 7, 2) := by decide +kernel
theorem dX5_drives_74 : decode cX5_drives 74 = .ok (.dup2, 1) := by decide +kernel
theorem dX5_drives_75 : decode cX5_drives 75 = .ok (.iaload, 1) := by decide +kernel
theorem dX5_drives_76 : decode cX5_drives 76 = .ok (.iconst 1, 1) := by decide +kernel
theorem dX5_drives_77 : decode cX5_drives 77 = .ok (.iadd, 1) := by decide +kernel
theorem dX5_drives_78 : decode cX5_drives 78 = .ok (.iastore, 1) := by decide +kernel
theorem dX5_drives_79 : decode cX5_drives 79 = .ok (.aload_n 0, 1) := by decide +kernel
theorem dX5_drives_80 : decode cX5_drives 80 = .ok (.aload_n 0, 1) := by decide +kernel
theorem dX5_drives_81 : decode cX5_drives 81 = .ok (.iload_n 2, 1) := by decide +kernel
theorem dX5_drives_82 : decode cX5_drives 82 = .ok (.iconst 0, 1) := by decide +kernel
theorem dX5_drives_83 : decode cX5_drives 83 = .ok (.invokevirtual 89, 3) := by decide +kernel
theorem dX5_drives_86 : decode cX5_drives 86 = .ok (.putfield 133, 3) := by decide +kernel
theorem dX5_drives_89 : decode cX5_drives 89 = .ok (.aload_n 0, 1) := by decide +kernel
theorem dX5_drives_90 : decode cX5_drives 90 = .ok (.iload_n 2, 1) := by decide +kernel
theorem dX5_drives_91 : decode cX5_drives 91 = .ok (.invokevirtual 136, 3) := by decide +kernel
theorem dX5_drives_94 : decode cX5_drives 94 = .ok (.iinc 1 1, 3) := by decide +kernel
theorem dX5_drives_97 : decode cX5_drives 97 = .ok (.goto (-93), 3) := by decide +kernel
theorem dX5_drives_100 : decode cX5_drives 100 = .ok (.aload_n 0, 1) := by decide +kernel
theorem dX5_drives_101 : decode cX5_drives 101 = .ok (.iload_n 2, 1) := by decide +kernel
theorem dX5_drives_102 : decode cX5_drives 102 = .ok (.invokevirtual 140, 3) := by decide +kernel
theorem dX5_drives_105 : decode cX5_drives 105 = .ok (.ifCond .ne 43, 3) := by decide +kernel
theorem dX5_drives_108 : decode cX5_drives 108 = .ok (.aload_n 0, 1) := by decide +kernel
theorem dX5_drives_109 : decode cX5_drives 109 = .ok (.iload_n 3, 1) := by decide +kernel
theorem dX5_drives_110 : decode cX5_drives 110 = .ok (.iconst 1, 1) := by decide +kernel
theorem dX5_drives_111 : decode cX5_drives 111 = .ok (.iadd, 1) := by decide +kernel
theorem dX5_drives_112 : decode cX5_drives 112 = .ok (.invokevirtual 92, 3) := by decide +kernel
theorem dX5_drives_115 : decode cX5_drives 115 = .ok (.aload_n 0, 1) := by decide +kernel
theorem dX5_drives_116 : decode cX5_drives 116 = .ok (.iload_n 2, 1) := by decide +kernel
theorem dX5_drives_117 : decode cX5_drives 117 = .ok (.iconst 1, 1) := by decide +kernel
theorem dX5_drives_118 : decode cX5_drives 118 = .ok (.invokevirtual 89, 3) := by decide +kernel
theorem dX5_drives_121 : decode cX5_drives 121 = .ok (.iadd, 1) := by decide +kernel
theorem dX5_drives_122 : decode cX5_drives 122 = .ok (.aload_n 0, 1) := by decide +kernel
theorem dX5_drives_123 : decode cX5_drives 123 = .ok (.iload_n 3, 1) := by decide +kernel
theorem dX5_drives_124 : decode cX5_drives 124 = .ok (.iconst 1, 1) := by decide +kernel
theorem dX5_drives_125 : decode cX5_drives 125 = .ok (.iadd, 1) := by decide +kernel
theorem dX5_drives_126 : decode cX5_drives 126 = .ok (.invokevirtual 96, 3) := by decide +kernel
theorem dX5_drives_129 : decode cX5_drives 129 = .ok (.if_icmp .gt 19, 3) := by decide +kernel
theorem dX5_drives_132 : decode cX5_drives 132 = .ok (.aload_n 0, 1) := by decide +kernel
theorem dX5_drives_133 : decode cX5_drives 133 = .ok (.getfield 7, 3) := by decide +kernel
theorem dX5_drives_136 : decode cX5_drives 136 = .ok (.bipush 59, 2) := by decide +kernel
theorem dX5_drives_138 : decode cX5_drives 138 = .ok (.iconst 3, 1) := by decide +kernel
theorem dX5_drives_139 : decode cX5_drives 139 = .ok (.iload_n 2, 1) := by decide +kernel
theorem dX5_drives_140 : decode cX5_drives 140 = .ok (.imul, 1) := by decide +kernel
theorem dX5_drives_141 : decode cX5_drives 141 = .ok (.iadd, 1) := by decide +kernel
theorem dX5_drives_142 : decode cX5_drives 142 = .ok (.iconst 2, 1) := by decide +kernel
theorem dX5_drives_143 : decode cX5_drives 143 = .ok (.iadd, 1) := by decide +kernel
theorem dX5_drives_144 : decode cX5_drives 144 = .ok (.iload_n 3, 1) := by decide +kernel
theorem dX5_drives_145 : decode cX5_drives 145 = .ok (.iconst 1, 1) := by decide +kernel
theorem dX5_drives_146 : decode cX5_drives 146 = .ok (.iadd, 1) := by decide +kernel
theorem dX5_drives_147 : decode cX5_drives 147 = .ok (.iastore, 1) := by decide +kernel
theorem dX5_drives_148 : decode cX5_drives 148 = .ok (.iinc 2 1, 3) := by decide +kernel
theorem dX5_drives_151 : decode cX5_drives 151 = .ok (.goto (-147), 3) := by decide +kernel
theorem dX5_drives_154 : decode cX5_drives 154 = .ok (.iload_n 1, 1) := by decide +kernel
theorem dX5_drives_155 : decode cX5_drives 155 = .ok (.ireturn, 1) := by decide +kernel
theorem dX5_stresses_0 : decode cX5_stresses 0 = .ok (.aload_n 0, 1) := by decide +kernel
theorem dX5_stresses_1 : decode cX5_stresses 1 = .ok (.iload_n 1, 1) := by decide +kernel
theorem dX5_stresses_2 : decode cX5_stresses 2 = .ok (.invokevirtual 114, 3) := by decide +kernel
theorem dX5_stresses_5 : decode cX5_stresses 5 = .ok (.ifCond .eq 14, 3) := by decide +kernel
theorem dX5_stresses_8 : decode cX5_stresses 8 = .ok (.aload_n 0, 1) := by decide +kernel
theorem dX5_stresses_9 : decode cX5_stresses 9 = .ok (.iload_n 1, 1) := by decide +kernel
theorem dX5_stresses_10 : decode cX5_stresses 10 = .ok (.iconst 4, 1) := by decide +kernel
theorem dX5_stresses_11 : decode cX5_stresses 11 = .ok (.invokevirtual 79, 3) := by decide +kernel
theorem dX5_stresses_14 : decode cX5_stresses 14 = .ok (.iconst 1, 1) := by decide +kernel
theorem dX5_stresses_15 : decode cX5_stresses 15 = .ok (.iadd, 1) := by decide +kernel
theorem dX5_stresses_16 : decode cX5_stresses 16 = .ok (.goto 4, 3) := by decide +kernel
theorem dX5_stresses_19 : decode cX5_stresses 19 = .ok (.iconst 0, 1) := by decide +kernel
theorem dX5_stresses_20 : decode cX5_stresses 20 = .ok (.istore_n 2, 1) := by decide +kernel
theorem dX5_stresses_21 : decode cX5_stresses 21 = .ok (.iload_n 2, 1) := by decide +kernel
theorem dX5_stresses_22 : decode cX5_stresses 22 = .ok (.iconst 3, 1) := by decide +kernel
theorem dX5_stresses_23 : decode cX5_stresses 23 = .ok (.if_icmp .ne 30, 3) := by decide +kernel
theorem dX5_stresses_26 : decode cX5_stresses 26 = .ok (.iconst 0, 1) := by decide +kernel
theorem dX5_stresses_27 : decode cX5_stresses 27 = .ok (.istore_n 2, 1) := by decide +kernel
theorem dX5_stresses_28 : decode cX5_stresses 28 = .ok (.aload_n 0, 1) := by decide +kernel
theorem dX5_stresses_29 : decode cX5_stresses 29 = .ok (.iload_n 1, 1) := by decide +kernel
theorem dX5_stresses_30 : decode cX5_stresses 30 = .ok (.iconst 3, 1) := by decide +kernel
theorem dX5_stresses_31 : decode cX5_stresses 31 = .ok (.invokevirtual 79, 3) := by decide +kernel
theorem dX5_stresses_34 : decode cX5_stresses 34 = .ok (.bipush 9, 2) := by decide +kernel
theorem dX5_stresses_36 : decode cX5_stresses 36 = .ok (.if_icmp .ge 17, 3) := by decide +kernel
theorem dX5_stresses_39 : decode cX5_stresses 39 = .ok (.aload_n 0, 1) := by decide +kernel
theorem dX5_stresses_40 : decode cX5_stresses 40 = .ok (.iload_n 1, 1) := by decide +kernel
theorem dX5_stresses_41 : decode cX5_stresses 41 = .ok (.iconst 3, 1) := by decide +kernel
theorem dX5_stresses_42 : decode cX5_stresses 42 = .ok (.aload_n 0, 1) := by decide +kernel
theorem dX5_stresses_43 : decode cX5_stresses 43 = .ok (.iload_n 1, 1) := by decide +kernel
theorem dX5_stresses_44 : decode cX5_stresses 44 = .ok (.iconst 3, 1) := by decide +kernel
theorem dX5_stresses_45 : decode cX5_stresses 45 = .ok (.invokevirtual 79, 3) := by decide +kernel
theorem dX5_stresses_48 : decode cX5_stresses 48 = .ok (.iconst 1, 1) := by decide +kernel
theorem dX5_stresses_49 : decode cX5_stresses 49 = .ok (.iadd, 1) := by decide +kernel
theorem dX5_stresses_50 : decode cX5_stresses 50 = .ok (.invokevirtual 107, 3) := by decide +kernel
theorem dX5_stresses_53 : decode cX5_stresses 53 = .ok (.aload_n 0, 1) := by decide +kernel
theorem dX5_stresses_54 : decode cX5_stresses 54 = .ok (.iload_n 1, 1) := by decide +kernel
theorem dX5_stresses_55 : decode cX5_stresses 55 = .ok (.iconst 4, 1) := by decide +kernel
theorem dX5_stresses_56 : decode cX5_stresses 56 = .ok (.iload_n 2, 1) := by decide +kernel
theorem dX5_stresses_57 : decode cX5_stresses 57 = .ok (.invokevirtual 107, 3) := by decide +kernel
theorem dX5_stresses_60 : decode cX5_stresses 60 = .ok (.return_, 1) := by decide +kernel
theorem dX5_isInfected_0 : decode cX5_isInfected 0 = .ok (.aload_n 0, 1) := by decide +kernel
theorem dX5_isInfected_1 : decode cX5_isInfected 1 = .ok (.iload_n 2, 1) := by decide +kernel
theorem dX5_isInfected_2 : decode cX5_isInfected 2 = .ok (.invokevirtual 72, 3) := by decide +kernel
theorem dX5_isInfected_5 : decode cX5_isInfected 5 = .ok (.ifCond .eq 32, 3) := by decide +kernel
theorem dX5_isInfected_8 : decode cX5_isInfected 8 = .ok (.aload_n 0, 1) := by decide +kernel
theorem dX5_isInfected_9 : decode cX5_isInfected 9 = .ok (.getfield 25, 3) := by decide +kernel
theorem dX5_isInfected_12 : decode cX5_isInfected 12 = .ok (.iload_n 2, 1) := by decide +kernel
theorem dX5_isInfected_13 : decode cX5_isInfected 13 = .ok (.iaload, 1) := by decide +kernel
theorem dX5_isInfected_14 : decode cX5_isInfected 14 = .ok (.iconst 4, 1) := by decide +kernel
theorem dX5_isInfected_15 : decode cX5_isInfected 15 = .ok (.if_icmp .le 22, 3) := by decide +kernel
theorem dX5_isInfected_18 : decode cX5_isInfected 18 = .ok (.aload_n 0, 1) := by decide +kernel
theorem dX5_isInfected_19 : decode cX5_isInfected 19 = .ok (.getfield 25, 3) := by decide +kernel
theorem dX5_isInfected_22 : decode cX5_isInfected 22 = .ok (.iload_n 2, 1) := by decide +kernel
theorem dX5_isInfected_23 : decode cX5_isInfected 23 = .ok (.iaload, 1) := by decide +kernel
theorem dX5_isInfected_24 : decode cX5_isInfected 24 = .ok (.aload_n 0, 1) := by decide +kernel
theorem dX5_isInfected_25 : decode cX5_isInfected 25 = .ok (.getfield 25, 3) := by decide +kernel
theorem dX5_isInfected_28 : decode cX5_isInfected 28 = .ok (.iload_n 1, 1) := by decide +kernel
theorem dX5_isInfected_29 : decode cX5_isInfected 29 = .ok (.iaload, 1) := by decide +kernel
theorem dX5_isInfected_30 : decode cX5_isInfected 30 = .ok (.if_icmp .le 7, 3) := by decide +kernel
theorem dX5_isInfected_33 : decode cX5_isInfected 33 = .ok (.iconst 1, 1) := by decide +kernel
theorem dX5_isInfected_34 : decode cX5_isInfected 34 = .ok (.goto 4, 3) := by decide +kernel
theorem dX5_isInfected_37 : decode cX5_isInfected 37 = .ok (.iconst 0, 1) := by decide +kernel
theorem dX5_isInfected_38 : decode cX5_isInfected 38 = .ok (.ireturn, 1) := by decide +kernel
theorem dX5_spreads_0 : decode cX5_spreads 0 = .ok (.iconst 0, 1) := by decide +kernel
theorem dX5_spreads_1 : decode cX5_spreads 1 = .ok (.istore_n 1, 1) := by decide +kernel
theorem dX5_spreads_2 : decode cX5_spreads 2 = .ok (.iload_n 1, 1) := by decide +kernel
theorem dX5_spreads_3 : decode cX5_spreads 3 = .ok (.aload_n 0, 1) := by decide +kernel
theorem dX5_spreads_4 : decode cX5_spreads 4 = .ok (.getfield 7, 3) := by decide +kernel
theorem dX5_spreads_7 : decode cX5_spreads 7 = .ok (.iconst 0, 1) := by decide +kernel
theorem dX5_spreads_8 : decode cX5_spreads 8 = .ok (.iaload, 1) := by decide +kernel
theorem dX5_spreads_9 : decode cX5_spreads 9 = .ok (.if_icmp .ge 21, 3) := by decide +kernel
theorem dX5_spreads_12 : decode cX5_spreads 12 = .ok (.aload_n 0, 1) := by decide +kernel
theorem dX5_spreads_13 : decode cX5_spreads 13 = .ok (.getfield 25, 3) := by decide +kernel
theorem dX5_spreads_16 : decode cX5_spreads 16 = .ok (.iload_n 1, 1) := by decide +kernel
theorem dX5_spreads_17 : decode cX5_spreads 17 = .ok (.aload_n 0, 1) := by decide +kernel
theorem dX5_spreads_18 : decode cX5_spreads 18 = .ok (.iload_n 1, 1) := by decide +kernel
theorem dX5_spreads_19 : decode cX5_spreads 19 = .ok (.iconst 3, 1) := by decide +kernel
theorem dX5_spreads_20 : decode cX5_spreads 20 = .ok (.invokevirtual 79, 3) := by decide +kernel
theorem dX5_spreads_23 : decode cX5_spreads 23 = .ok (.iastore, 1) := by decide +kernel
theorem dX5_spreads_24 : decode cX5_spreads 24 = .ok (.iinc 1 1, 3) := by decide +kernel
theorem dX5_spreads_27 : decode cX5_spreads 27 = .ok (.goto (-25), 3) := by decide +kernel
theorem dX5_spreads_30 : decode cX5_spreads 30 = .ok (.iconst 0, 1) := by decide +kernel
theorem dX5_spreads_31 : decode cX5_spreads 31 = .ok (.istore_n 1, 1) := by decide +kernel
theorem dX5_spreads_32 : decode cX5_spreads 32 = .ok (.iload_n 1, 1) := by decide +kernel
theorem dX5_spreads_33 : decode cX5_spreads 33 = .ok (.aload_n 0, 1) := by decide +kernel
theorem dX5_spreads_34 : decode cX5_spreads 34 = .ok (.getfield 7, 3) := by decide +kernel
theorem dX5_spreads_37 : decode cX5_spreads 37 = .ok (.iconst 0, 1) := by decide +kernel
theorem dX5_spreads_38 : decode cX5_spreads 38 = .ok (.iaload, 1) := by decide +kernel
theorem dX5_spreads_39 : decode cX5_spreads 39 = .ok (.if_icmp .ge 56, 3) := by decide +kernel
theorem dX5_spreads_42 : decode cX5_spreads 42 = .ok (.aload_n 0, 1) := by decide +kernel
theorem dX5_spreads_43 : decode cX5_spreads 43 = .ok (.getfield 25, 3) := by decide +kernel
theorem dX5_spreads_46 : decode cX5_spreads 46 = .ok (.iload_n 1, 1) := by decide +kernel
theorem dX5_spreads_47 : decode cX5_spreads 47 = .ok (.iaload, 1) := by decide +kernel
theorem dX5_spreads_48 : decode cX5_spreads 48 = .ok (.bipush 9, 2) := by decide +kernel
theorem dX5_spreads_50 : decode cX5_spreads 50 = .ok (.if_icmp .ge 39, 3) := by decide +kernel
theorem dX5_spreads_53 : decode cX5_spreads 53 = .ok (.aload_n 0, 1) := by decide +kernel
theorem dX5_spreads_54 : decode cX5_spreads 54 = .ok (.iload_n 1, 1) := by decide +kernel
theorem dX5_spreads_55 : decode cX5_spreads 55 = .ok (.iload_n 1, 1) := by decide +kernel
theorem dX5_spreads_56 : decode cX5_spreads 56 = .ok (.iconst 1, 1) := by decide +kernel
theorem dX5_spreads_57 : decode cX5_spreads 57 = .ok (.isub, 1) := by decide +kernel
theorem dX5_spreads_58 : decode cX5_spreads 58 = .ok (.invokevirtual 143, 3) := by decide +kernel
theorem dX5_spreads_61 : decode cX5_spreads 61 = .ok (.ifCond .ne 14, 3) := by decide +kernel
theorem dX5_spreads_64 : decode cX5_spreads 64 = .ok (.aload_n 0, 1) := by decide +kernel
theorem dX5_spreads_65 : decode cX5_spreads 65 = .ok (.iload_n 1, 1) := by decide +kernel
theorem dX5_spreads_66 : decode cX5_spreads 66 = .ok (.iload_n 1, 1) := by decide +kernel
theorem dX5_spreads_67 : decode cX5_spreads 67 = .ok (.iconst 1, 1) := by decide +kernel
theorem dX5_spreads_68 : decode cX5_spreads 68 = .ok (.iadd, 1) := by decide +kernel
theorem dX5_spreads_69 : decode cX5_spreads 69 = .ok (.invokevirtual 143, 3) := by decide +kernel
theorem dX5_spreads_72 : decode cX5_spreads 72 = .ok (.ifCond .eq 17, 3) := by decide +kernel
theorem dX5_spreads_75 : decode cX5_spreads 75 = .ok (.aload_n 0, 1) := by decide +kernel
theorem dX5_spreads_76 : decode cX5_spreads 76 = .ok (.iload_n 1, 1) := by decide +kernel
theorem dX5_spreads_77 : decode cX5_spreads 77 = .ok (.iconst 3, 1) := by decide +kernel
theorem dX5_spreads_78 : decode cX5_spreads 78 = .ok (.aload_n 0, 1) := by decide +kernel
theorem dX5_spreads_79 : decode cX5_spreads 79 = .ok (.getfield 25, 3) := by decide +kernel
theorem dX5_spreads_82 : decode cX5_spreads 82 = .ok (.iload_n 1, 1) := by decide +kernel
theorem dX5_spreads_83 : decode cX5_spreads 83 = .ok (.iaload, 1) := by decide +kernel
theorem dX5_spreads_84 : decode cX5_spreads 84 = .ok (.iconst 1, 1) := by decide +kernel
theorem dX5_spreads_85 : decode cX5_spreads 85 = .ok (.iadd, 1) := by decide +kernel
theorem dX5_spreads_86 : decode cX5_spreads 86 = .ok (.invokevirtual 107, 3) := by decide +kernel
theorem dX5_spreads_89 : decode cX5_spreads 89 = .ok (.iinc 1 1, 3) := by decide +kernel
theorem dX5_spreads_92 : decode cX5_spreads 92 = .ok (.goto (-60), 3) := by decide +kernel
theorem dX5_spreads_95 : decode cX5_spreads 95 = .ok (.return_, 1) := by decide +kernel
theorem dX5_sinks_0 : decode cX5_sinks 0 = .ok (.aload_n 0, 1) := by decide +kernel
theorem dX5_sinks_1 : decode cX5_sinks 1 = .ok (.getfield 7, 3) := by decide +kernel
theorem dX5_sinks_4 : decode cX5_sinks 4 = .ok (.iconst 1, 1) := by decide +kernel
theorem dX5_sinks_5 : decode cX5_sinks 5 = .ok (.iaload, 1) := by decide +kernel
theorem dX5_sinks_6 : decode cX5_sinks 6 = .ok (.iconst 1, 1) := by decide +kernel
theorem dX5_sinks_7 : decode cX5_sinks 7 = .ok (.isub, 1) := by decide +kernel
theorem dX5_sinks_8 : decode cX5_sinks 8 = .ok (.istore_n 2, 1) := by decide +kernel
theorem dX5_sinks_9 : decode cX5_sinks 9 = .ok (.iload_n 2, 1) := by decide +kernel
theorem dX5_sinks_10 : decode cX5_sinks 10 = .ok (.ifCond .lt 51, 3) := by decide +kernel
theorem dX5_sinks_13 : decode cX5_sinks 13 = .ok (.aload_n 0, 1) := by decide +kernel
theorem dX5_sinks_14 : decode cX5_sinks 14 = .ok (.iload_n 1, 1) := by decide +kernel
theorem dX5_sinks_15 : decode cX5_sinks 15 = .ok (.invokevirtual 92, 3) := by decide +kernel
theorem dX5_sinks_18 : decode cX5_sinks 18 = .ok (.aload_n 0, 1) := by decide +kernel
theorem dX5_sinks_19 : decode cX5_sinks 19 = .ok (.iload_n 1, 1) := by decide +kernel
theorem dX5_sinks_20 : decode cX5_sinks 20 = .ok (.invokevirtual 96, 3) := by decide +kernel
theorem dX5_sinks_23 : decode cX5_sinks 23 = .ok (.if_icmp .le 38, 3) := by decide +kernel
theorem dX5_sinks_26 : decode cX5_sinks 26 = .ok (.aload_n 0, 1) := by decide +kernel
theorem dX5_sinks_27 : decode cX5_sinks 27 = .ok (.iload_n 2, 1) := by decide +kernel
theorem dX5_sinks_28 : decode cX5_sinks 28 = .ok (.iconst 2, 1) := by decide +kernel
theorem dX5_sinks_29 : decode cX5_sinks 29 = .ok (.invokevirtual 89, 3) := by decide +kernel
theorem dX5_sinks_32 : decode cX5_sinks 32 = .ok (.iload_n 1, 1) := by decide +kernel
theorem dX5_sinks_33 : decode cX5_sinks 33 = .ok (.if_icmp .eq 6, 3) := by decide +kernel
theorem dX5_sinks_36 : decode cX5_sinks 36 = .ok (.goto 19, 3) := by decide +kernel
theorem dX5_sinks_39 : decode cX5_sinks 39 = .ok (.aload_n 0, 1) := by decide +kernel
theorem dX5_sinks_40 : decode cX5_sinks 40 = .ok (.iload_n 2, 1) := by decide +kernel
theorem dX5_sinks_41 : decode cX5_sinks 41 = .ok (.invokevirtual 136, 3) := by decide +kernel
theorem dX5_sinks_44 : decode cX5_sinks 44 = .ok (.aload_n 0, 1) := by decide +kernel
theorem dX5_sinks_45 : decode cX5_sinks 45 = .ok (.getfield 7, 3) := by decide +kernel
theorem dX5_sinks_48 : decode cX5_sinks 48 = .ok (.bipush 8, 2) := by decide +kernel
theorem dX5_sinks_50 : decode cX5_sinks 50 = .ok (.dup2, 1) := by decide +kernel
theorem dX5_sinks_51 : decode cX5_sinks 51 = .ok (.iaload, 1) := by decide +kernel
theorem dX5_sinks_52 : decode cX5_sinks 52 = .ok (.iconst 1, 1) := by decide +kernel
theorem dX5_sinks_53 : decode cX5_sinks 53 = .ok (.iadd, 1) := by decide +kernel
theorem dX5_sinks_54 : decode cX5_sinks 54 = .ok (.iastore, 1) := by decide +kernel
theorem dX5_sinks_55 : decode cX5_sinks 55 = .ok (.iinc 2 (-1), 3) := by decide +kernel
theorem dX5_sinks_58 : decode cX5_sinks 58 = .ok (.goto (-49), 3) := by decide +kernel
theorem dX5_sinks_61 : decode cX5_sinks 61 = .ok (.return_, 1) := by decide +kernel
theorem dX5_goes_0 : decode cX5_goes 0 = .ok (.aload_n 0, 1) := by decide +kernel
theorem dX5_goes_1 : decode cX5_goes 1 = .ok (.getfield 7, 3) := by decide +kernel
theorem dX5_goes_4 : decode cX5_goes 4 = .ok (.iconst 3, 1) := by decide +kernel
theorem dX5_goes_5 : decode cX5_goes 5 = .ok (.dup2, 1) := by decide +kernel
theorem dX5_goes_6 : decode cX5_goes 6 = .ok (.iaload, 1) := by decide +kernel
theorem dX5_goes_7 : decode cX5_goes 7 = .ok (.iconst 1, 1) := by decide +kernel
theorem dX5_goes_8 : decode cX5_goes 8 = .ok (.iadd, 1) := by decide +kernel
theorem dX5_goes_9 : decode cX5_goes 9 = .ok (.iastore, 1) := by decide +kernel
theorem dX5_goes_10 : decode cX5_goes 10 = .ok (.iconst 0, 1) := by decide +kernel
theorem dX5_goes_11 : decode cX5_goes 11 = .ok (.istore_n 1, 1) := by decide +kernel
theorem dX5_goes_12 : decode cX5_goes 12 = .ok (.iload_n 1, 1) := by decide +kernel
theorem dX5_goes_13 : decode cX5_goes 13 = .ok (.aload_n 0, 1) := by decide +kernel
theorem dX5_goes_14 : decode cX5_goes 14 = .ok (.getfield 7, 3) := by decide +kernel
theorem dX5_goes_17 : decode cX5_goes 17 = .ok (.iconst 0, 1) := by decide +kernel
theorem dX5_goes_18 : decode cX5_goes 18 = .ok (.iaload, 1) := by decide +kernel
theorem dX5_goes_19 : decode cX5_goes 19 = .ok (.if_icmp .ge 32, 3) := by decide +kernel
theorem dX5_goes_22 : decode cX5_goes 22 = .ok (.aload_n 0, 1) := by decide +kernel
theorem dX5_goes_23 : decode cX5_goes 23 = .ok (.iload_n 1, 1) := by decide +kernel
theorem dX5_goes_24 : decode cX5_goes 24 = .ok (.iconst 1, 1) := by decide +kernel
theorem dX5_goes_25 : decode cX5_goes 25 = .ok (.invokevirtual 79, 3) := by decide +kernel
theorem dX5_goes_28 : decode cX5_goes 28 = .ok (.ifCond .le 17, 3) := by decide +kernel
theorem dX5_goes_31 : decode cX5_goes 31 = .ok (.aload_n 0, 1) := by decide +kernel
theorem dX5_goes_32 : decode cX5_goes 32 = .ok (.iload_n 1, 1) := by decide +kernel
theorem dX5_goes_33 : decode cX5_goes 33 = .ok (.iconst 2, 1) := by decide +kernel
theorem dX5_goes_34 : decode cX5_goes 34 = .ok (.aload_n 0, 1) := by decide +kernel
theorem dX5_goes_35 : decode cX5_goes 35 = .ok (.iload_n 1, 1) := by decide +kernel
theorem dX5_goes_36 : decode cX5_goes 36 = .ok (.iconst 2, 1) := by decide +kernel
theorem dX5_goes_37 : decode cX5_goes 37 = .ok (.invokevirtual 79, 3) := by decide +kernel
theorem dX5_goes_40 : decode cX5_goes 40 = .ok (.iconst 1, 1) := by decide +kernel
theorem dX5_goes_41 : decode cX5_goes 41 = .ok (.iadd, 1) := by decide +kernel
theorem dX5_goes_42 : decode cX5_goes 42 = .ok (.invokevirtual 107, 3) := by decide +kernel
theorem dX5_goes_45 : decode cX5_goes 45 = .ok (.iinc 1 1, 3) := by decide +kernel
theorem dX5_goes_48 : decode cX5_goes 48 = .ok (.goto (-36), 3) := by decide +kernel
theorem dX5_goes_51 : decode cX5_goes 51 = .ok (.aload_n 0, 1) := by decide +kernel
theorem dX5_goes_52 : decode cX5_goes 52 = .ok (.invokevirtual 146, 3) := by decide +kernel
theorem dX5_goes_55 : decode cX5_goes 55 = .ok (.istore_n 1, 1) := by decide +kernel
theorem dX5_goes_56 : decode cX5_goes 56 = .ok (.iconst 0, 1) := by decide +kernel
theorem dX5_goes_57 : decode cX5_goes 57 = .ok (.istore_n 2, 1) := by decide +kernel
theorem dX5_goes_58 : decode cX5_goes 58 = .ok (.iload_n 2, 1) := by decide +kernel
theorem dX5_goes_59 : decode cX5_goes 59 = .ok (.aload_n 0, 1) := by decide +kernel
theorem dX5_goes_60 : decode cX5_goes 60 = .ok (.getfield 7, 3) := by decide +kernel
theorem dX5_goes_63 : decode cX5_goes 63 = .ok (.iconst 0, 1) := by decide +kernel
theorem dX5_goes_64 : decode cX5_goes 64 = .ok (.iaload, 1) := by decide +kernel
theorem dX5_goes_65 : decode cX5_goes 65 = .ok (.if_icmp .ge 14, 3) := by decide +kernel
theorem dX5_goes_68 : decode cX5_goes 68 = .ok (.aload_n 0, 1) := by decide +kernel
theorem dX5_goes_69 : decode cX5_goes 69 = .ok (.iload_n 2, 1) := by decide +kernel
theorem dX5_goes_70 : decode cX5_goes 70 = .ok (.invokevirtual 150, 3) := by decide +kernel
theorem dX5_goes_73 : decode cX5_goes 73 = .ok (.iinc 2 1, 3) := by decide +kernel
theorem dX5_goes_76 : decode cX5_goes 76 = .ok (.goto (-18), 3) := by decide +kernel
theorem dX5_goes_79 : decode cX5_goes 79 = .ok (.aload_n 0, 1) := by decide +kernel
theorem dX5_goes_80 : decode cX5_goes 80 = .ok (.getfield 7, 3) := by decide +kernel
theorem dX5_goes_83 : decode cX5_goes 83 = .ok (.iconst 3, 1) := by decide +kernel
theorem dX5_goes_84 : decode cX5_goes 84 = .ok (.iaload, 1) := by decide +kernel
theorem dX5_goes_85 : decode cX5_goes 85 = .ok (.bipush 6, 2) := by decide +kernel
theorem dX5_goes_87 : decode cX5_goes 87 = .ok (.irem, 1) := by decide +kernel
theorem dX5_goes_88 : decode cX5_goes 88 = .ok (.ifCond .ne 7, 3) := by decide +kernel
theorem dX5_goes_91 : decode cX5_goes 91 = .ok (.aload_n 0, 1) := by decide +kernel
theorem dX5_goes_92 : decode cX5_goes 92 = .ok (.invokevirtual 153, 3) := by decide +kernel
theorem dX5_goes_95 : decode cX5_goes 95 = .ok (.iconst 0, 1) := by decide +kernel
theorem dX5_goes_96 : decode cX5_goes 96 = .ok (.istore_n 2, 1) := by decide +kernel
theorem dX5_goes_97 : decode cX5_goes 97 = .ok (.iload_n 2, 1) := by decide +kernel
theorem dX5_goes_98 : decode cX5_goes 98 = .ok (.aload_n 0, 1) := by decide +kernel
theorem dX5_goes_99 : decode cX5_goes 99 = .ok (.getfield 7, 3) := by decide +kernel
theorem dX5_goes_102 : decode cX5_goes 102 = .ok (.iconst 0, 1) := by decide +kernel
theorem dX5_goes_103 : decode cX5_goes 103 = .ok (.iaload, 1) := by decide +kernel
theorem dX5_goes_104 : decode cX5_goes 104 = .ok (.if_icmp .ge 14, 3) := by decide +kernel
theorem dX5_goes_107 : decode cX5_goes 107 = .ok (.aload_n 0, 1) := by decide +kernel
theorem dX5_goes_108 : decode cX5_goes 108 = .ok (.iload_n 2, 1) := by decide +kernel
theorem dX5_goes_109 : decode cX5_goes 109 = .ok (.invokevirtual 156, 3) := by decide +kernel
theorem dX5_goes_112 : decode cX5_goes 112 = .ok (.iinc 2 1, 3) := by decide +kernel
theorem dX5_goes_115 : decode cX5_goes 115 = .ok (.goto (-18), 3) := by decide +kernel
theorem dX5_goes_118 : decode cX5_goes 118 = .ok (.iload_n 1, 1) := by decide +kernel
theorem dX5_goes_119 : decode cX5_goes 119 = .ok (.ireturn, 1) := by decide +kernel
theorem dX5_pass_0 : decode cX5_pass 0 = .ok (.aload_n 0, 1) := by decide +kernel
theorem dX5_pass_1 : decode cX5_pass 1 = .ok (.iload_n 1, 1) := by decide +kernel
theorem dX5_pass_2 : decode cX5_pass 2 = .ok (.iconst 1, 1) := by decide +kernel
theorem dX5_pass_3 : decode cX5_pass 3 = .ok (.bipush 48, 2) := by decide +kernel
theorem dX5_pass_5 : decode cX5_pass 5 = .ok (.invokestatic 68, 3) := by decide +kernel
theorem dX5_pass_8 : decode cX5_pass 8 = .ok (.ifCond .eq 7, 3) := by decide +kernel
theorem dX5_pass_11 : decode cX5_pass 11 = .ok (.iconst 0, 1) := by decide +kernel
theorem dX5_pass_12 : decode cX5_pass 12 = .ok (.goto 4, 3) := by decide +kernel
theorem dX5_pass_15 : decode cX5_pass 15 = .ok (.iconst 1, 1) := by decide +kernel
theorem dX5_pass_16 : decode cX5_pass 16 = .ok (.invokevirtual 76, 3) := by decide +kernel
theorem dX5_pass_19 : decode cX5_pass 19 = .ok (.ifCond .eq 5, 3) := by decide +kernel
theorem dX5_pass_22 : decode cX5_pass 22 = .ok (.iconst 0, 1) := by decide +kernel
theorem dX5_pass_23 : decode cX5_pass 23 = .ok (.ireturn, 1) := by decide +kernel
theorem dX5_pass_24 : decode cX5_pass 24 = .ok (.aload_n 0, 1) := by decide +kernel
theorem dX5_pass_25 : decode cX5_pass 25 = .ok (.aload_n 0, 1) := by decide +kernel
theorem dX5_pass_26 : decode cX5_pass 26 = .ok (.getfield 7, 3) := by decide +kernel
theorem dX5_pass_29 : decode cX5_pass 29 = .ok (.invokevirtual 103, 3) := by decide +kernel
theorem dX5_pass_32 : decode cX5_pass 32 = .ok (.iconst 0, 1) := by decide +kernel
theorem dX5_pass_33 : decode cX5_pass 33 = .ok (.istore_n 2, 1) := by decide +kernel
theorem dX5_pass_34 : decode cX5_pass 34 = .ok (.iconst 0, 1) := by decide +kernel
theorem dX5_pass_35 : decode cX5_pass 35 = .ok (.istore_n 3, 1) := by decide +kernel
theorem dX5_pass_36 : decode cX5_pass 36 = .ok (.iload_n 3, 1) := by decide +kernel
theorem dX5_pass_37 : decode cX5_pass 37 = .ok (.iload_n 1, 1) := by decide +kernel
theorem dX5_pass_38 : decode cX5_pass 38 = .ok (.if_icmp .ge 16, 3) := by decide +kernel
theorem dX5_pass_41 : decode cX5_pass 41 = .ok (.iload_n 2, 1) := by decide +kernel
theorem dX5_pass_42 : decode cX5_pass 42 = .ok (.aload_n 0, 1) := by decide +kernel
theorem dX5_pass_43 : decode cX5_pass 43 = .ok (.invokevirtual 159, 3) := by decide +kernel
theorem dX5_pass_46 : decode cX5_pass 46 = .ok (.iadd, 1) := by decide +kernel
theorem dX5_pass_47 : decode cX5_pass 47 = .ok (.istore_n 2, 1) := by decide +kernel
theorem dX5_pass_48 : decode cX5_pass 48 = .ok (.iinc 3 1, 3) := by decide +kernel
theorem dX5_pass_51 : decode cX5_pass 51 = .ok (.goto (-15), 3) := by decide +kernel
theorem dX5_pass_54 : decode cX5_pass 54 = .ok (.iload_n 2, 1) := by decide +kernel
theorem dX5_pass_55 : decode cX5_pass 55 = .ok (.ireturn, 1) := by decide +kernel
theorem dX5_setRate_0 : decode cX5_setRate 0 = .ok (.aload_n 0, 1) := by decide +kernel
theorem dX5_setRate_1 : decode cX5_setRate 1 = .ok (.iload_n 1, 1) := by decide +kernel
theorem dX5_setRate_2 : decode cX5_setRate 2 = .ok (.iconst 0, 1) := by decide +kernel
theorem dX5_setRate_3 : decode cX5_setRate 3 = .ok (.bipush 20, 2) := by decide +kernel
theorem dX5_setRate_5 : decode cX5_setRate 5 = .ok (.invokestatic 68, 3) := by decide +kernel
theorem dX5_setRate_8 : decode cX5_setRate 8 = .ok (.ifCond .eq 7, 3) := by decide +kernel
theorem dX5_setRate_11 : decode cX5_setRate 11 = .ok (.iconst 0, 1) := by decide +kernel
theorem dX5_setRate_12 : decode cX5_setRate 12 = .ok (.goto 4, 3) := by decide +kernel
theorem dX5_setRate_15 : decode cX5_setRate 15 = .ok (.iconst 1, 1) := by decide +kernel
theorem dX5_setRate_16 : decode cX5_setRate 16 = .ok (.invokevirtual 76, 3) := by decide +kernel
theorem dX5_setRate_19 : decode cX5_setRate 19 = .ok (.ifCond .eq 5, 3) := by decide +kernel
theorem dX5_setRate_22 : decode cX5_setRate 22 = .ok (.iconst 0, 1) := by decide +kernel
theorem dX5_setRate_23 : decode cX5_setRate 23 = .ok (.ireturn, 1) := by decide +kernel
theorem dX5_setRate_24 : decode cX5_setRate 24 = .ok (.aload_n 0, 1) := by decide +kernel
theorem dX5_setRate_25 : decode cX5_setRate 25 = .ok (.getfield 7, 3) := by decide +kernel
theorem dX5_setRate_28 : decode cX5_setRate 28 = .ok (.iconst 4, 1) := by decide +kernel
theorem dX5_setRate_29 : decode cX5_setRate 29 = .ok (.iaload, 1) := by decide +kernel
theorem dX5_setRate_30 : decode cX5_setRate 30 = .ok (.istore_n 2, 1) := by decide +kernel
theorem dX5_setRate_31 : decode cX5_setRate 31 = .ok (.iload_n 1, 1) := by decide +kernel
theorem dX5_setRate_32 : decode cX5_setRate 32 = .ok (.iload_n 2, 1) := by decide +kernel
theorem dX5_setRate_33 : decode cX5_setRate 33 = .ok (.if_icmp .ne 12, 3) := by decide +kernel
theorem dX5_setRate_36 : decode cX5_setRate 36 = .ok (.aload_n 0, 1) := by decide +kernel
theorem dX5_setRate_37 : decode cX5_setRate 37 = .ok (.iconst 2, 1) := by decide +kernel
theorem dX5_setRate_38 : decode cX5_setRate 38 = .ok (.bipush 7, 2) := by decide +kernel
theorem dX5_setRate_40 : decode cX5_setRate 40 = .ok (.iload_n 1, 1) := by decide +kernel
theorem dX5_setRate_41 : decode cX5_setRate 41 = .ok (.invokevirtual 99, 3) := by decide +kernel
theorem dX5_setRate_44 : decode cX5_setRate 44 = .ok (.ireturn, 1) := by decide +kernel
theorem dX5_setRate_45 : decode cX5_setRate 45 = .ok (.aload_n 0, 1) := by decide +kernel
theorem dX5_setRate_46 : decode cX5_setRate 46 = .ok (.aload_n 0, 1) := by decide +kernel
theorem dX5_setRate_47 : decode cX5_setRate 47 = .ok (.getfield 7, 3) := by decide +kernel
theorem dX5_setRate_50 : decode cX5_setRate 50 = .ok (.invokevirtual 103, 3) := by decide +kernel
theorem dX5_setRate_53 : decode cX5_setRate 53 = .ok (.aload_n 0, 1) := by decide +kernel
theorem dX5_setRate_54 : decode cX5_setRate 54 = .ok (.getfield 7, 3) := by decide +kernel
theorem dX5_setRate_57 : decode cX5_setRate 57 = .ok (.iconst 4, 1) := by decide +kernel
theorem dX5_setRate_58 : decode cX5_setRate 58 = .ok (.iload_n 1, 1) := by decide +kernel
theorem dX5_setRate_59 : decode cX5_setRate 59 = .ok (.iastore, 1) := by decide +kernel
theorem dX5_setRate_60 : decode cX5_setRate 60 = .ok (.iload_n 2, 1) := by decide +kernel
theorem dX5_setRate_61 : decode cX5_setRate 61 = .ok (.ireturn, 1) := by decide +kernel
theorem dX5_vehicleCount_0 : decode cX5_vehicleCount 0 = .ok (.aload_n 0, 1) := by decide +kernel
theorem dX5_vehicleCount_1 : decode cX5_vehicleCount 1 = .ok (.iconst 0, 1) := by decide +kernel
theorem dX5_vehicleCount_2 : decode cX5_vehicleCount 2 = .ok (.putfield 42, 3) := by decide +kernel
theorem dX5_vehicleCount_5 : decode cX5_vehicleCount 5 = .ok (.aload_n 0, 1) := by decide +kernel
theorem dX5_vehicleCount_6 : decode cX5_vehicleCount 6 = .ok (.getfield 7, 3) := by decide +kernel
theorem dX5_vehicleCount_9 : decode cX5_vehicleCount 9 = .ok (.iconst 1, 1) := by decide +kernel
theorem dX5_vehicleCount_10 : decode cX5_vehicleCount 10 = .ok (.iaload, 1) := by decide +kernel
theorem dX5_vehicleCount_11 : decode cX5_vehicleCount 11 = .ok (.ireturn, 1) := by decide +kernel
theorem dX5_vehicleAt_0 : decode cX5_vehicleAt 0 = .ok (.aload_n 0, 1) := by decide +kernel
theorem dX5_vehicleAt_1 : decode cX5_vehicleAt 1 = .ok (.iload_n 1, 1) := by decide +kernel
theorem dX5_vehicleAt_2 : decode cX5_vehicleAt 2 = .ok (.iconst 0, 1) := by decide +kernel
theorem dX5_vehicleAt_3 : decode cX5_vehicleAt 3 = .ok (.aload_n 0, 1) := by decide +kernel
theorem dX5_vehicleAt_4 : decode cX5_vehicleAt 4 = .ok (.getfield 7, 3) := by decide +kernel
theorem dX5_vehicleAt_7 : decode cX5_vehicleAt 7 = .ok (.iconst 1, 1) := by decide +kernel
theorem dX5_vehicleAt_8 : decode cX5_vehicleAt 8 = .ok (.iaload, 1) := by decide +kernel
theorem dX5_vehicleAt_9 : decode cX5_vehicleAt 9 = .ok (.iconst 1, 1) := by decide +kernel
theorem dX5_vehicleAt_10 : decode cX5_vehicleAt 10 = .ok (.isub, 1) := by decide +kernel
theorem dX5_vehicleAt_11 : decode cX5_vehicleAt 11 = .ok (.invokestatic 68, 3) := by decide +kernel
theorem dX5_vehicleAt_14 : decode cX5_vehicleAt 14 = .ok (.ifCond .eq 7, 3) := by decide +kernel
theorem dX5_vehicleAt_17 : decode cX5_vehicleAt 17 = .ok (.iconst 0, 1) := by decide +kernel
theorem dX5_vehicleAt_18 : decode cX5_vehicleAt 18 = .ok (.goto 4, 3) := by decide +kernel
theorem dX5_vehicleAt_21 : decode cX5_vehicleAt 21 = .ok (.iconst 1, 1) := by decide +kernel
theorem dX5_vehicleAt_22 : decode cX5_vehicleAt 22 = .ok (.invokevirtual 76, 3) := by decide +kernel
theorem dX5_vehicleAt_25 : decode cX5_vehicleAt 25 = .ok (.ifCond .eq 7, 3) := by decide +kernel
theorem dX5_vehicleAt_28 : decode cX5_vehicleAt 28 = .ok (.iconst 0, 1) := by decide +kernel
theorem dX5_vehicleAt_29 : decode cX5_vehicleAt 29 = .ok (.goto 9, 3) := by decide +kernel
theorem dX5_vehicleAt_32 : decode cX5_vehicleAt 32 = .ok (.aload_n 0, 1) := by decide +kernel
theorem dX5_vehicleAt_33 : decode cX5_vehicleAt 33 = .ok (.iload_n 1, 1) := by decide +kernel
theorem dX5_vehicleAt_34 : decode cX5_vehicleAt 34 = .ok (.iconst 0, 1) := by decide +kernel
theorem dX5_vehicleAt_35 : decode cX5_vehicleAt 35 = .ok (.invokevirtual 89, 3) := by decide +kernel
theorem dX5_vehicleAt_38 : decode cX5_vehicleAt 38 = .ok (.ireturn, 1) := by decide +kernel
theorem dX5_weightOf_0 : decode cX5_weightOf 0 = .ok (.aload_n 0, 1) := by decide +kernel
theorem dX5_weightOf_1 : decode cX5_weightOf 1 = .ok (.iload_n 1, 1) := by decide +kernel
theorem dX5_weightOf_2 : decode cX5_weightOf 2 = .ok (.invokevirtual 162, 3) := by decide +kernel
theorem dX5_weightOf_5 : decode cX5_weightOf 5 = .ok (.ifCond .eq 7, 3) := by decide +kernel
theorem dX5_weightOf_8 : decode cX5_weightOf 8 = .ok (.iconst 0, 1) := by decide +kernel
theorem dX5_weightOf_9 : decode cX5_weightOf 9 = .ok (.goto 13, 3) := by decide +kernel
theorem dX5_weightOf_12 : decode cX5_weightOf 12 = .ok (.aload_n 0, 1) := by decide +kernel
theorem dX5_weightOf_13 : decode cX5_weightOf 13 = .ok (.aload_n 0, 1) := by decide +kernel
theorem dX5_weightOf_14 : decode cX5_weightOf 14 = .ok (.iload_n 1, 1) := by decide +kernel
theorem dX5_weightOf_15 : decode cX5_weightOf 15 = .ok (.invokevirtual 127, 3) := by decide +kernel
theorem dX5_weightOf_18 : decode cX5_weightOf 18 = .ok (.iconst 1, 1) := by decide +kernel
theorem dX5_weightOf_19 : decode cX5_weightOf 19 = .ok (.invokevirtual 89, 3) := by decide +kernel
theorem dX5_weightOf_22 : decode cX5_weightOf 22 = .ok (.ireturn, 1) := by decide +kernel
theorem dX5_spanOf_0 : decode cX5_spanOf 0 = .ok (.aload_n 0, 1) := by decide +kernel
theorem dX5_spanOf_1 : decode cX5_spanOf 1 = .ok (.iload_n 1, 1) := by decide +kernel
theorem dX5_spanOf_2 : decode cX5_spanOf 2 = .ok (.invokevirtual 162, 3) := by decide +kernel
theorem dX5_spanOf_5 : decode cX5_spanOf 5 = .ok (.ifCond .eq 7, 3) := by decide +kernel
theorem dX5_spanOf_8 : decode cX5_spanOf 8 = .ok (.iconst 0, 1) := by decide +kernel
theorem dX5_spanOf_9 : decode cX5_spanOf 9 = .ok (.goto 13, 3) := by decide +kernel
theorem dX5_spanOf_12 : decode cX5_spanOf 12 = .ok (.aload_n 0, 1) := by decide +kernel
theorem dX5_spanOf_13 : decode cX5_spanOf 13 = .ok (.aload_n 0, 1) := by decide +kernel
theorem dX5_spanOf_14 : decode cX5_spanOf 14 = .ok (.iload_n 1, 1) := by decide +kernel
theorem dX5_spanOf_15 : decode cX5_spanOf 15 = .ok (.invokevirtual 127, 3) := by decide +kernel
theorem dX5_spanOf_18 : decode cX5_spanOf 18 = .ok (.iconst 2, 1) := by decide +kernel
theorem dX5_spanOf_19 : decode cX5_spanOf 19 = .ok (.invokevirtual 89, 3) := by decide +kernel
theorem dX5_spanOf_22 : decode cX5_spanOf 22 = .ok (.ireturn, 1) := by decide +kernel
theorem dX5_tollOf_0 : decode cX5_tollOf 0 = .ok (.aload_n 0, 1) := by decide +kernel
theorem dX5_tollOf_1 : decode cX5_tollOf 1 = .ok (.iload_n 1, 1) := by decide +kernel
theorem dX5_tollOf_2 : decode cX5_tollOf 2 = .ok (.invokevirtual 162, 3) := by decide +kernel
theorem dX5_tollOf_5 : decode cX5_tollOf 5 = .ok (.ifCond .eq 7, 3) := by decide +kernel
theorem dX5_tollOf_8 : decode cX5_tollOf 8 = .ok (.iconst 0, 1) := by decide +kernel
theorem dX5_tollOf_9 : decode cX5_tollOf 9 = .ok (.goto 17, 3) := by decide +kernel
theorem dX5_tollOf_12 : decode cX5_tollOf 12 = .ok (.aload_n 0, 1) := by decide +kernel
theorem dX5_tollOf_13 : decode cX5_tollOf 13 = .ok (.aload_n 0, 1) := by decide +kernel
theorem dX5_tollOf_14 : decode cX5_tollOf 14 = .ok (.aload_n 0, 1) := by decide +kernel
theorem dX5_tollOf_15 : decode cX5_tollOf 15 = .ok (.iload_n 1, 1) := by decide +kernel
theorem dX5_tollOf_16 : decode cX5_tollOf 16 = .ok (.invokevirtual 127, 3) := by decide +kernel
theorem dX5_tollOf_19 : decode cX5_tollOf 19 = .ok (.iconst 1, 1) := by decide +kernel
theorem dX5_tollOf_20 : decode cX5_tollOf 20 = .ok (.invokevirtual 89, 3) := by decide +kernel
theorem dX5_tollOf_23 : decode cX5_tollOf 23 = .ok (.invokevirtual 130, 3) := by decide +kernel
theorem dX5_tollOf_26 : decode cX5_tollOf 26 = .ok (.ireturn, 1) := by decide +kernel
theorem dX5_hoursOver_0 : decode cX5_hoursOver 0 = .ok (.aload_n 0, 1) := by decide +kernel
theorem dX5_hoursOver_1 : decode cX5_hoursOver 1 = .ok (.getfield 7, 3) := by decide +kernel
theorem dX5_hoursOver_4 : decode cX5_hoursOver 4 = .ok (.iconst 0, 1) := by decide +kernel
theorem dX5_hoursOver_5 : decode cX5_hoursOver 5 = .ok (.aload_n 0, 1) := by decide +kernel
theorem dX5_hoursOver_6 : decode cX5_hoursOver 6 = .ok (.getfield 22, 3) := by decide +kernel
theorem dX5_hoursOver_9 : decode cX5_hoursOver 9 = .ok (.iconst 0, 1) := by decide +kernel
theorem dX5_hoursOver_10 : decode cX5_hoursOver 10 = .ok (.invokestatic 64, 3) := by decide +kernel
theorem dX5_hoursOver_13 : decode cX5_hoursOver 13 = .ok (.iconst 0, 1) := by decide +kernel
theorem dX5_hoursOver_14 : decode cX5_hoursOver 14 = .ok (.istore_n 2, 1) := by decide +kernel
theorem dX5_hoursOver_15 : decode cX5_hoursOver 15 = .ok (.aload_n 0, 1) := by decide +kernel
theorem dX5_hoursOver_16 : decode cX5_hoursOver 16 = .ok (.iconst (-1), 1) := by decide +kernel
theorem dX5_hoursOver_17 : decode cX5_hoursOver 17 = .ok (.putfield 133, 3) := by decide +kernel
theorem dX5_hoursOver_20 : decode cX5_hoursOver 20 = .ok (.iload_n 2, 1) := by decide +kernel
theorem dX5_hoursOver_21 : decode cX5_hoursOver 21 = .ok (.bipush 48, 2) := by decide +kernel
theorem dX5_hoursOver_23 : decode cX5_hoursOver 23 = .ok (.if_icmp .ge 22, 3) := by decide +kernel
theorem dX5_hoursOver_26 : decode cX5_hoursOver 26 = .ok (.aload_n 0, 1) := by decide +kernel
theorem dX5_hoursOver_27 : decode cX5_hoursOver 27 = .ok (.iload_n 1, 1) := by decide +kernel
theorem dX5_hoursOver_28 : decode cX5_hoursOver 28 = .ok (.invokevirtual 127, 3) := by decide +kernel
theorem dX5_hoursOver_31 : decode cX5_hoursOver 31 = .ok (.ifCond .lt 14, 3) := by decide +kernel
theorem dX5_hoursOver_34 : decode cX5_hoursOver 34 = .ok (.aload_n 0, 1) := by decide +kernel
theorem dX5_hoursOver_35 : decode cX5_hoursOver 35 = .ok (.invokevirtual 159, 3) := by decide +kernel
theorem dX5_hoursOver_38 : decode cX5_hoursOver 38 = .ok (.pop, 1) := by decide +kernel
theorem dX5_hoursOver_39 : decode cX5_hoursOver 39 = .ok (.iinc 2 1, 3) := by decide +kernel
theorem dX5_hoursOver_42 : decode cX5_hoursOver 42 = .ok (.goto (-22), 3) := by decide +kernel
theorem dX5_hoursOver_45 : decode cX5_hoursOver 45 = .ok (.aload_n 0, 1) := by decide +kernel
theorem dX5_hoursOver_46 : decode cX5_hoursOver 46 = .ok (.iload_n 1, 1) := by decide +kernel
theorem dX5_hoursOver_47 : decode cX5_hoursOver 47 = .ok (.invokevirtual 127, 3) := by decide +kernel
theorem dX5_hoursOver_50 : decode cX5_hoursOver 50 = .ok (.ifCond .ge 15, 3) := by decide +kernel
theorem dX5_hoursOver_53 : decode cX5_hoursOver 53 = .ok (.aload_n 0, 1) := by decide +kernel
theorem dX5_hoursOver_54 : decode cX5_hoursOver 54 = .ok (.getfield 133, 3) := by decide +kernel
theorem dX5_hoursOver_57 : decode cX5_hoursOver 57 = .ok (.iload_n 1, 1) := by decide +kernel
theorem dX5_hoursOver_58 : decode cX5_hoursOver 58 = .ok (.if_icmp .lt 7, 3) := by decide +kernel
theorem dX5_hoursOver_61 : decode cX5_hoursOver 61 = .ok (.iconst 1, 1) := by decide +kernel
theorem dX5_hoursOver_62 : decode cX5_hoursOver 62 = .ok (.goto 4, 3) := by decide +kernel
theorem dX5_hoursOver_65 : decode cX5_hoursOver 65 = .ok (.iconst 0, 1) := by decide +kernel
theorem dX5_hoursOver_66 : decode cX5_hoursOver 66 = .ok (.istore_n 3, 1) := by decide +kernel
theorem dX5_hoursOver_67 : decode cX5_hoursOver 67 = .ok (.aload_n 0, 1) := by decide +kernel
theorem dX5_hoursOver_68 : decode cX5_hoursOver 68 = .ok (.getfield 22, 3) := by decide +kernel
theorem dX5_hoursOver_71 : decode cX5_hoursOver 71 = .ok (.iconst 0, 1) := by decide +kernel
theorem dX5_hoursOver_72 : decode cX5_hoursOver 72 = .ok (.aload_n 0, 1) := by decide +kernel
theorem dX5_hoursOver_73 : decode cX5_hoursOver 73 = .ok (.getfield 7, 3) := by decide +kernel
theorem dX5_hoursOver_76 : decode cX5_hoursOver 76 = .ok (.iconst 0, 1) := by decide +kernel
theorem dX5_hoursOver_77 : decode cX5_hoursOver 77 = .ok (.invokestatic 64, 3) := by decide +kernel
theorem dX5_hoursOver_80 : decode cX5_hoursOver 80 = .ok (.iload_n 3, 1) := by decide +kernel
theorem dX5_hoursOver_81 : decode cX5_hoursOver 81 = .ok (.ifCond .eq 7, 3) := by decide +kernel
theorem dX5_hoursOver_84 : decode cX5_hoursOver 84 = .ok (.iload_n 2, 1) := by decide +kernel
theorem dX5_hoursOver_85 : decode cX5_hoursOver 85 = .ok (.goto 4, 3) := by decide +kernel
theorem dX5_hoursOver_88 : decode cX5_hoursOver 88 = .ok (.iconst (-1), 1) := by decide +kernel
theorem dX5_hoursOver_89 : decode cX5_hoursOver 89 = .ok (.ireturn, 1) := by decide +kernel
theorem dX5_hoursUntilOver_0 : decode cX5_hoursUntilOver 0 = .ok (.aload_n 0, 1) := by decide +kernel
theorem dX5_hoursUntilOver_1 : decode cX5_hoursUntilOver 1 = .ok (.iload_n 1, 1) := by decide +kernel
theorem dX5_hoursUntilOver_2 : decode cX5_hoursUntilOver 2 = .ok (.invokevirtual 162, 3) := by decide +kernel
theorem dX5_hoursUntilOver_5 : decode cX5_hoursUntilOver 5 = .ok (.ifCond .eq 5, 3) := by decide +kernel
theorem dX5_hoursUntilOver_8 : decode cX5_hoursUntilOver 8 = .ok (.iconst 0, 1) := by decide +kernel
theorem dX5_hoursUntilOver_9 : decode cX5_hoursUntilOver 9 = .ok (.ireturn, 1) := by decide +kernel
theorem dX5_hoursUntilOver_10 : decode cX5_hoursUntilOver 10 = .ok (.aload_n 0, 1) := by decide +kernel
theorem dX5_hoursUntilOver_11 : decode cX5_hoursUntilOver 11 = .ok (.iload_n 1, 1) := by decide +kernel
theorem dX5_hoursUntilOver_12 : decode cX5_hoursUntilOver 12 = .ok (.invokevirtual 165, 3) := by decide +kernel
theorem dX5_hoursUntilOver_15 : decode cX5_hoursUntilOver 15 = .ok (.istore_n 2, 1) := by decide +kernel
theorem dX5_hoursUntilOver_16 : decode cX5_hoursUntilOver 16 = .ok (.aload_n 0, 1) := by decide +kernel
theorem dX5_hoursUntilOver_17 : decode cX5_hoursUntilOver 17 = .ok (.iload_n 2, 1) := by decide +kernel
theorem dX5_hoursUntilOver_18 : decode cX5_hoursUntilOver 18 = .ok (.ifCond .ge 7, 3) := by decide +kernel
theorem dX5_hoursUntilOver_21 : decode cX5_hoursUntilOver 21 = .ok (.iconst 1, 1) := by decide +kernel
theorem dX5_hoursUntilOver_22 : decode cX5_hoursUntilOver 22 = .ok (.goto 4, 3) := by decide +kernel
theorem dX5_hoursUntilOver_25 : decode cX5_hoursUntilOver 25 = .ok (.iconst 0, 1) := by decide +kernel
theorem dX5_hoursUntilOver_26 : decode cX5_hoursUntilOver 26 = .ok (.invokevirtual 76, 3) := by decide +kernel
theorem dX5_hoursUntilOver_29 : decode cX5_hoursUntilOver 29 = .ok (.ifCond .eq 7, 3) := by decide +kernel
theorem dX5_hoursUntilOver_32 : decode cX5_hoursUntilOver 32 = .ok (.iconst 0, 1) := by decide +kernel
theorem dX5_hoursUntilOver_33 : decode cX5_hoursUntilOver 33 = .ok (.goto 4, 3) := by decide +kernel
theorem dX5_hoursUntilOver_36 : decode cX5_hoursUntilOver 36 = .ok (.iload_n 2, 1) := by decide +kernel
theorem dX5_hoursUntilOver_37 : decode cX5_hoursUntilOver 37 = .ok (.ireturn, 1) := by decide +kernel
theorem dX5_sum_0 : decode cX5_sum 0 = .ok (.aload_n 0, 1) := by decide +kernel
theorem dX5_sum_1 : decode cX5_sum 1 = .ok (.iconst 0, 1) := by decide +kernel
theorem dX5_sum_2 : decode cX5_sum 2 = .ok (.putfield 42, 3) := by decide +kernel
theorem dX5_sum_5 : decode cX5_sum 5 = .ok (.iconst 0, 1) := by decide +kernel
theorem dX5_sum_6 : decode cX5_sum 6 = .ok (.istore_n 1, 1) := by decide +kernel
theorem dX5_sum_7 : decode cX5_sum 7 = .ok (.iconst 0, 1) := by decide +kernel
theorem dX5_sum_8 : decode cX5_sum 8 = .ok (.istore_n 2, 1) := by decide +kernel
theorem dX5_sum_9 : decode cX5_sum 9 = .ok (.iload_n 2, 1) := by decide +kernel
theorem dX5_sum_10 : decode cX5_sum 10 = .ok (.aload_n 0, 1) := by decide +kernel
theorem dX5_sum_11 : decode cX5_sum 11 = .ok (.getfield 7, 3) := by decide +kernel
theorem dX5_sum_14 : decode cX5_sum 14 = .ok (.iconst 1, 1) := by decide +kernel
theorem dX5_sum_15 : decode cX5_sum 15 = .ok (.iaload, 1) := by decide +kernel
theorem dX5_sum_16 : decode cX5_sum 16 = .ok (.if_icmp .ge 18, 3) := by decide +kernel
theorem dX5_sum_19 : decode cX5_sum 19 = .ok (.iload_n 1, 1) := by decide +kernel
theorem dX5_sum_20 : decode cX5_sum 20 = .ok (.aload_n 0, 1) := by decide +kernel
theorem dX5_sum_21 : decode cX5_sum 21 = .ok (.iload_n 2, 1) := by decide +kernel
theorem dX5_sum_22 : decode cX5_sum 22 = .ok (.iconst 1, 1) := by decide +kernel
theorem dX5_sum_23 : decode cX5_sum 23 = .ok (.invokevirtual 89, 3) := by decide +kernel
theorem dX5_sum_26 : decode cX5_sum 26 = .ok (.iadd, 1) := by decide +kernel
theorem dX5_sum_27 : decode cX5_sum 27 = .ok (.istore_n 1, 1) := by decide +kernel
theorem dX5_sum_28 : decode cX5_sum 28 = .ok (.iinc 2 1, 3) := by decide +kernel
theorem dX5_sum_31 : decode cX5_sum 31 = .ok (.goto (-22), 3) := by decide +kernel
theorem dX5_sum_34 : decode cX5_sum 34 = .ok (.iload_n 1, 1) := by decide +kernel
theorem dX5_sum_35 : decode cX5_sum 35 = .ok (.ireturn, 1) := by decide +kernel
theorem dX5_totalLoad_0 : decode cX5_totalLoad 0 = .ok (.aload_n 0, 1) := by decide +kernel
theorem dX5_totalLoad_1 : decode cX5_totalLoad 1 = .ok (.invokevirtual 168, 3) := by decide +kernel
theorem dX5_totalLoad_4 : decode cX5_totalLoad 4 = .ok (.ireturn, 1) := by decide +kernel
theorem dX5_totalLoadByVehicles_0 : decode cX5_totalLoadByVehicles 0 = .ok (.aload_n 0, 1) := by decide +kernel
theorem dX5_totalLoadByVehicles_1 : decode cX5_totalLoadByVehicles 1 = .ok (.invokevirtual 168, 3) := by decide +kernel
theorem dX5_totalLoadByVehicles_4 : decode cX5_totalLoadByVehicles 4 = .ok (.ireturn, 1) := by decide +kernel
theorem dX5_greatestWeight_0 : decode cX5_greatestWeight 0 = .ok (.aload_n 0, 1) := by decide +kernel
theorem dX5_greatestWeight_1 : decode cX5_greatestWeight 1 = .ok (.iconst 0, 1) := by decide +kernel
theorem dX5_greatestWeight_2 : decode cX5_greatestWeight 2 = .ok (.putfield 42, 3) := by decide +kernel
theorem dX5_greatestWeight_5 : decode cX5_greatestWeight 5 = .ok (.aload_n 0, 1) := by decide +kernel
theorem dX5_greatestWeight_6 : decode cX5_greatestWeight 6 = .ok (.getfield 7, 3) := by decide +kernel
theorem dX5_greatestWeight_9 : decode cX5_greatestWeight 9 = .ok (.iconst 0, 1) := by decide +kernel
theorem dX5_greatestWeight_10 : decode cX5_greatestWeight 10 = .ok (.iaload, 1) := by decide +kernel
theorem dX5_greatestWeight_11 : decode cX5_greatestWeight 11 = .ok (.ifCond .eq 14, 3) := by decide +kernel
theorem dX5_greatestWeight_14 : decode cX5_greatestWeight 14 = .ok (.aload_n 0, 1) := by decide +kernel
theorem dX5_greatestWeight_15 : decode cX5_greatestWeight 15 = .ok (.getfield 7, 3) := by decide +kernel
theorem dX5_greatestWeight_18 : decode cX5_greatestWeight 18 = .ok (.iconst 1, 1) := by decide +kernel
theorem dX5_greatestWeight_19 : decode cX5_greatestWeight 19 = .ok (.iaload, 1) := by decide +kernel
theorem dX5_greatestWeight_20 : decode cX5_greatestWeight 20 = .ok (.bipush 8, 2) := by decide +kernel
theorem dX5_greatestWeight_22 : decode cX5_greatestWeight 22 = .ok (.if_icmp .ne 5, 3) := by decide +kernel
theorem dX5_greatestWeight_25 : decode cX5_greatestWeight 25 = .ok (.iconst 0, 1) := by decide +kernel
theorem dX5_greatestWeight_26 : decode cX5_greatestWeight 26 = .ok (.ireturn, 1) := by decide +kernel
theorem dX5_greatestWeight_27 : decode cX5_greatestWeight 27 = .ok (.bipush 99, 2) := by decide +kernel
theorem dX5_greatestWeight_29 : decode cX5_greatestWeight 29 = .ok (.aload_n 0, 1) := by decide +kernel
theorem dX5_greatestWeight_30 : decode cX5_greatestWeight 30 = .ok (.iconst 0, 1) := by decide +kernel
theorem dX5_greatestWeight_31 : decode cX5_greatestWeight 31 = .ok (.invokevirtual 96, 3) := by decide +kernel
theorem dX5_greatestWeight_34 : decode cX5_greatestWeight 34 = .ok (.aload_n 0, 1) := by decide +kernel
theorem dX5_greatestWeight_35 : decode cX5_greatestWeight 35 = .ok (.iconst 0, 1) := by decide +kernel
theorem dX5_greatestWeight_36 : decode cX5_greatestWeight 36 = .ok (.invokevirtual 92, 3) := by decide +kernel
theorem dX5_greatestWeight_39 : decode cX5_greatestWeight 39 = .ok (.isub, 1) := by decide +kernel
theorem dX5_greatestWeight_40 : decode cX5_greatestWeight 40 = .ok (.invokestatic 83, 3) := by decide +kernel
theorem dX5_greatestWeight_43 : decode cX5_greatestWeight 43 = .ok (.istore_n 1, 1) := by decide +kernel
theorem dX5_greatestWeight_44 : decode cX5_greatestWeight 44 = .ok (.iload_n 1, 1) := by decide +kernel
theorem dX5_greatestWeight_45 : decode cX5_greatestWeight 45 = .ok (.ifCond .le 7, 3) := by decide +kernel
theorem dX5_greatestWeight_48 : decode cX5_greatestWeight 48 = .ok (.iload_n 1, 1) := by decide +kernel
theorem dX5_greatestWeight_49 : decode cX5_greatestWeight 49 = .ok (.goto 4, 3) := by decide +kernel
theorem dX5_greatestWeight_52 : decode cX5_greatestWeight 52 = .ok (.iconst 0, 1) := by decide +kernel
theorem dX5_greatestWeight_53 : decode cX5_greatestWeight 53 = .ok (.ireturn, 1) := by decide +kernel
theorem dX5_hour_0 : decode cX5_hour 0 = .ok (.aload_n 0, 1) := by decide +kernel
theorem dX5_hour_1 : decode cX5_hour 1 = .ok (.iconst 0, 1) := by decide +kernel
theorem dX5_hour_2 : decode cX5_hour 2 = .ok (.putfield 42, 3) := by decide +kernel
theorem dX5_hour_5 : decode cX5_hour 5 = .ok (.aload_n 0, 1) := by decide +kernel
theorem dX5_hour_6 : decode cX5_hour 6 = .ok (.getfield 7, 3) := by decide +kernel
theorem dX5_hour_9 : decode cX5_hour 9 = .ok (.iconst 3, 1) := by decide +kernel
theorem dX5_hour_10 : decode cX5_hour 10 = .ok (.iaload, 1) := by decide +kernel
theorem dX5_hour_11 : decode cX5_hour 11 = .ok (.ireturn, 1) := by decide +kernel
theorem dX5_rate_0 : decode cX5_rate 0 = .ok (.aload_n 0, 1) := by decide +kernel
theorem dX5_rate_1 : decode cX5_rate 1 = .ok (.iconst 0, 1) := by decide +kernel
theorem dX5_rate_2 : decode cX5_rate 2 = .ok (.putfield 42, 3) := by decide +kernel
theorem dX5_rate_5 : decode cX5_rate 5 = .ok (.aload_n 0, 1) := by decide +kernel
theorem dX5_rate_6 : decode cX5_rate 6 = .ok (.getfield 7, 3) := by decide +kernel
theorem dX5_rate_9 : decode cX5_rate 9 = .ok (.iconst 4, 1) := by decide +kernel
theorem dX5_rate_10 : decode cX5_rate 10 = .ok (.iaload, 1) := by decide +kernel
theorem dX5_rate_11 : decode cX5_rate 11 = .ok (.ireturn, 1) := by decide +kernel
theorem dX5_till_0 : decode cX5_till 0 = .ok (.aload_n 0, 1) := by decide +kernel
theorem dX5_till_1 : decode cX5_till 1 = .ok (.iconst 0, 1) := by decide +kernel
theorem dX5_till_2 : decode cX5_till 2 = .ok (.putfield 42, 3) := by decide +kernel
theorem dX5_till_5 : decode cX5_till 5 = .ok (.aload_n 0, 1) := by decide +kernel
theorem dX5_till_6 : decode cX5_till 6 = .ok (.getfield 7, 3) := by decide +kernel
theorem dX5_till_9 : decode cX5_till 9 = .ok (.iconst 5, 1) := by decide +kernel
theorem dX5_till_10 : decode cX5_till 10 = .ok (.iaload, 1) := by decide +kernel
theorem dX5_till_11 : decode cX5_till 11 = .ok (.ireturn, 1) := by decide +kernel
theorem dX5_paidTolls_0 : decode cX5_paidTolls 0 = .ok (.aload_n 0, 1) := by decide +kernel
theorem dX5_paidTolls_1 : decode cX5_paidTolls 1 = .ok (.iconst 0, 1) := by decide +kernel
theorem dX5_paidTolls_2 : decode cX5_paidTolls 2 = .ok (.putfield 42, 3) := by decide +kernel
theorem dX5_paidTolls_5 : decode cX5_paidTolls 5 = .ok (.aload_n 0, 1) := by decide +kernel
theorem dX5_paidTolls_6 : decode cX5_paidTolls 6 = .ok (.getfield 7, 3) := by decide +kernel
theorem dX5_paidTolls_9 : decode cX5_paidTolls 9 = .ok (.bipush 6, 2) := by decide +kernel
theorem dX5_paidTolls_11 : decode cX5_paidTolls 11 = .ok (.iaload, 1) := by decide +kernel
theorem dX5_paidTolls_12 : decode cX5_paidTolls 12 = .ok (.ireturn, 1) := by decide +kernel
theorem dX5_crossed_0 : decode cX5_crossed 0 = .ok (.aload_n 0, 1) := by decide +kernel
theorem dX5_crossed_1 : decode cX5_crossed 1 = .ok (.iconst 0, 1) := by decide +kernel
theorem dX5_crossed_2 : decode cX5_crossed 2 = .ok (.putfield 42, 3) := by decide +kernel
theorem dX5_crossed_5 : decode cX5_crossed 5 = .ok (.aload_n 0, 1) := by decide +kernel
theorem dX5_crossed_6 : decode cX5_crossed 6 = .ok (.getfield 7, 3) := by decide +kernel
theorem dX5_crossed_9 : decode cX5_crossed 9 = .ok (.bipush 7, 2) := by decide +kernel
theorem dX5_crossed_11 : decode cX5_crossed 11 = .ok (.iaload, 1) := by decide +kernel
theorem dX5_crossed_12 : decode cX5_crossed 12 = .ok (.ireturn, 1) := by decide +kernel
theorem dX5_sunk_0 : decode cX5_sunk 0 = .ok (.aload_n 0, 1) := by decide +kernel
theorem dX5_sunk_1 : decode cX5_sunk 1 = .ok (.iconst 0, 1) := by decide +kernel
theorem dX5_sunk_2 : decode cX5_sunk 2 = .ok (.putfield 42, 3) := by decide +kernel
theorem dX5_sunk_5 : decode cX5_sunk 5 = .ok (.aload_n 0, 1) := by decide +kernel
theorem dX5_sunk_6 : decode cX5_sunk 6 = .ok (.getfield 7, 3) := by decide +kernel
theorem dX5_sunk_9 : decode cX5_sunk 9 = .ok (.bipush 8, 2) := by decide +kernel
theorem dX5_sunk_11 : decode cX5_sunk 11 = .ok (.iaload, 1) := by decide +kernel
theorem dX5_sunk_12 : decode cX5_sunk 12 = .ok (.ireturn, 1) := by decide +kernel
theorem dX5_meanStrength_0 : decode cX5_meanStrength 0 = .ok (.aload_n 0, 1) := by decide +kernel
theorem dX5_meanStrength_1 : decode cX5_meanStrength 1 = .ok (.aload_n 0, 1) := by decide +kernel
theorem dX5_meanStrength_2 : decode cX5_meanStrength 2 = .ok (.getfield 7, 3) := by decide +kernel
theorem dX5_meanStrength_5 : decode cX5_meanStrength 5 = .ok (.iconst 0, 1) := by decide +kernel
theorem dX5_meanStrength_6 : decode cX5_meanStrength 6 = .ok (.iaload, 1) := by decide +kernel
theorem dX5_meanStrength_7 : decode cX5_meanStrength 7 = .ok (.ifCond .ne 7, 3) := by decide +kernel
theorem dX5_meanStrength_10 : decode cX5_meanStrength 10 = .ok (.iconst 1, 1) := by decide +kernel
theorem dX5_meanStrength_11 : decode cX5_meanStrength 11 = .ok (.goto 4, 3) := by decide +kernel
theorem dX5_meanStrength_14 : decode cX5_meanStrength 14 = .ok (.iconst 0, 1) := by decide +kernel
theorem dX5_meanStrength_15 : decode cX5_meanStrength 15 = .ok (.invokevirtual 76, 3) := by decide +kernel
theorem dX5_meanStrength_18 : decode cX5_meanStrength 18 = .ok (.ifCond .eq 5, 3) := by decide +kernel
theorem dX5_meanStrength_21 : decode cX5_meanStrength 21 = .ok (.dconst 0, 1) := by decide +kernel
theorem dX5_meanStrength_22 : decode cX5_meanStrength 22 = .ok (.dreturn, 1) := by decide +kernel
theorem dX5_meanStrength_23 : decode cX5_meanStrength 23 = .ok (.iconst 0, 1) := by decide +kernel
theorem dX5_meanStrength_24 : decode cX5_meanStrength 24 = .ok (.istore_n 1, 1) := by decide +kernel
theorem dX5_meanStrength_25 : decode cX5_meanStrength 25 = .ok (.iconst 0, 1) := by decide +kernel
theorem dX5_meanStrength_26 : decode cX5_meanStrength 26 = .ok (.istore_n 2, 1) := by decide +kernel
theorem dX5_meanStrength_27 : decode cX5_meanStrength 27 = .ok (.iload_n 2, 1) := by decide +kernel
theorem dX5_meanStrength_28 : decode cX5_meanStrength 28 = .ok (.aload_n 0, 1) := by decide +kernel
theorem dX5_meanStrength_29 : decode cX5_meanStrength 29 = .ok (.getfield 7, 3) := by decide +kernel
theorem dX5_meanStrength_32 : decode cX5_meanStrength 32 = .ok (.iconst 0, 1) := by decide +kernel
theorem dX5_meanStrength_33 : decode cX5_meanStrength 33 = .ok (.iaload, 1) := by decide +kernel
theorem dX5_meanStrength_34 : decode cX5_meanStrength 34 = .ok (.if_icmp .ge 17, 3) := by decide +kernel
theorem dX5_meanStrength_37 : decode cX5_meanStrength 37 = .ok (.iload_n 1, 1) := by decide +kernel
theorem dX5_meanStrength_38 : decode cX5_meanStrength 38 = .ok (.aload_n 0, 1) := by decide +kernel
theorem dX5_meanStrength_39 : decode cX5_meanStrength 39 = .ok (.iload_n 2, 1) := by decide +kernel
theorem dX5_meanStrength_40 : decode cX5_meanStrength 40 = .ok (.invokevirtual 96, 3) := by decide +kernel
theorem dX5_meanStrength_43 : decode cX5_meanStrength 43 = .ok (.iadd, 1) := by decide +kernel
theorem dX5_meanStrength_44 : decode cX5_meanStrength 44 = .ok (.istore_n 1, 1) := by decide +kernel
theorem dX5_meanStrength_45 : decode cX5_meanStrength 45 = .ok (.iinc 2 1, 3) := by decide +kernel
theorem dX5_meanStrength_48 : decode cX5_meanStrength 48 = .ok (.goto (-21), 3) := by decide +kernel
theorem dX5_meanStrength_51 : decode cX5_meanStrength 51 = .ok (.iload_n 1, 1) := by decide +kernel
theorem dX5_meanStrength_52 : decode cX5_meanStrength 52 = .ok (.i2d, 1) := by decide +kernel
theorem dX5_meanStrength_53 : decode cX5_meanStrength 53 = .ok (.aload_n 0, 1) := by decide +kernel
theorem dX5_meanStrength_54 : decode cX5_meanStrength 54 = .ok (.getfield 7, 3) := by decide +kernel
theorem dX5_meanStrength_57 : decode cX5_meanStrength 57 = .ok (.iconst 0, 1) := by decide +kernel
theorem dX5_meanStrength_58 : decode cX5_meanStrength 58 = .ok (.iaload, 1) := by decide +kernel
theorem dX5_meanStrength_59 : decode cX5_meanStrength 59 = .ok (.i2d, 1) := by decide +kernel
theorem dX5_meanStrength_60 : decode cX5_meanStrength 60 = .ok (.ddiv, 1) := by decide +kernel
theorem dX5_meanStrength_61 : decode cX5_meanStrength 61 = .ok (.dreturn, 1) := by decide +kernel
theorem dX5_sunkShare_0 : decode cX5_sunkShare 0 = .ok (.aload_n 0, 1) := by decide +kernel
theorem dX5_sunkShare_1 : decode cX5_sunkShare 1 = .ok (.aload_n 0, 1) := by decide +kernel
theorem dX5_sunkShare_2 : decode cX5_sunkShare 2 = .ok (.getfield 7, 3) := by decide +kernel
theorem dX5_sunkShare_5 : decode cX5_sunkShare 5 = .ok (.bipush 8, 2) := by decide +kernel
theorem dX5_sunkShare_7 : decode cX5_sunkShare 7 = .ok (.iaload, 1) := by decide +kernel
theorem dX5_sunkShare_8 : decode cX5_sunkShare 8 = .ok (.aload_n 0, 1) := by decide +kernel
theorem dX5_sunkShare_9 : decode cX5_sunkShare 9 = .ok (.getfield 7, 3) := by decide +kernel
theorem dX5_sunkShare_12 : decode cX5_sunkShare 12 = .ok (.bipush 7, 2) := by decide +kernel
theorem dX5_sunkShare_14 : decode cX5_sunkShare 14 = .ok (.iaload, 1) := by decide +kernel
theorem dX5_sunkShare_15 : decode cX5_sunkShare 15 = .ok (.iadd, 1) := by decide +kernel
theorem dX5_sunkShare_16 : decode cX5_sunkShare 16 = .ok (.ifCond .ne 7, 3) := by decide +kernel
theorem dX5_sunkShare_19 : decode cX5_sunkShare 19 = .ok (.iconst 1, 1) := by decide +kernel
theorem dX5_sunkShare_20 : decode cX5_sunkShare 20 = .ok (.goto 4, 3) := by decide +kernel
theorem dX5_sunkShare_23 : decode cX5_sunkShare 23 = .ok (.iconst 0, 1) := by decide +kernel
theorem dX5_sunkShare_24 : decode cX5_sunkShare 24 = .ok (.invokevirtual 76, 3) := by decide +kernel
theorem dX5_sunkShare_27 : decode cX5_sunkShare 27 = .ok (.ifCond .eq 7, 3) := by decide +kernel
theorem dX5_sunkShare_30 : decode cX5_sunkShare 30 = .ok (.fconst 0, 1) := by decide +kernel
theorem dX5_sunkShare_31 : decode cX5_sunkShare 31 = .ok (.goto 28, 3) := by decide +kernel
theorem dX5_sunkShare_34 : decode cX5_sunkShare 34 = .ok (.aload_n 0, 1) := by decide +kernel
theorem dX5_sunkShare_35 : decode cX5_sunkShare 35 = .ok (.getfield 7, 3) := by decide +kernel
theorem dX5_sunkShare_38 : decode cX5_sunkShare 38 = .ok (.bipush 8, 2) := by decide +kernel
theorem dX5_sunkShare_40 : decode cX5_sunkShare 40 = .ok (.iaload, 1) := by decide +kernel
theorem dX5_sunkShare_41 : decode cX5_sunkShare 41 = .ok (.i2f, 1) := by decide +kernel
theorem dX5_sunkShare_42 : decode cX5_sunkShare 42 = .ok (.aload_n 0, 1) := by decide +kernel
theorem dX5_sunkShare_43 : decode cX5_sunkShare 43 = .ok (.getfield 7, 3) := by decide +kernel
theorem dX5_sunkShare_46 : decode cX5_sunkShare 46 = .ok (.bipush 8, 2) := by decide +kernel
theorem dX5_sunkShare_48 : decode cX5_sunkShare 48 = .ok (.iaload, 1) := by decide +kernel
theorem dX5_sunkShare_49 : decode cX5_sunkShare 49 = .ok (.aload_n 0, 1) := by decide +kernel
theorem dX5_sunkShare_50 : decode cX5_sunkShare 50 = .ok (.getfield 7, 3) := by decide +kernel
theorem dX5_sunkShare_53 : decode cX5_sunkShare 53 = .ok (.bipush 7, 2) := by decide +kernel
theorem dX5_sunkShare_55 : decode cX5_sunkShare 55 = .ok (.iaload, 1) := by decide +kernel
theorem dX5_sunkShare_56 : decode cX5_sunkShare 56 = .ok (.iadd, 1) := by decide +kernel
theorem dX5_sunkShare_57 : decode cX5_sunkShare 57 = .ok (.i2f, 1) := by decide +kernel
theorem dX5_sunkShare_58 : decode cX5_sunkShare 58 = .ok (.fdiv, 1) := by decide +kernel
theorem dX5_sunkShare_59 : decode cX5_sunkShare 59 = .ok (.freturn, 1) := by decide +kernel
theorem dX5_feed_0 : decode cX5_feed 0 = .ok (.aload_n 0, 1) := by decide +kernel
theorem dX5_feed_1 : decode cX5_feed 1 = .ok (.aload_n 0, 1) := by decide +kernel
theorem dX5_feed_2 : decode cX5_feed 2 = .ok (.getfield 171, 3) := by decide +kernel
theorem dX5_feed_5 : decode cX5_feed 5 = .ok (.bipush 60, 2) := by decide +kernel
theorem dX5_feed_7 : decode cX5_feed 7 = .ok (.if_icmp .ne 7, 3) := by decide +kernel
theorem dX5_feed_10 : decode cX5_feed 10 = .ok (.iconst 1, 1) := by decide +kernel
theorem dX5_feed_11 : decode cX5_feed 11 = .ok (.goto 4, 3) := by decide +kernel
theorem dX5_feed_14 : decode cX5_feed 14 = .ok (.iconst 0, 1) := by decide +kernel
theorem dX5_feed_15 : decode cX5_feed 15 = .ok (.invokevirtual 76, 3) := by decide +kernel
theorem dX5_feed_18 : decode cX5_feed 18 = .ok (.ifCond .eq 5, 3) := by decide +kernel
theorem dX5_feed_21 : decode cX5_feed 21 = .ok (.iconst 0, 1) := by decide +kernel
theorem dX5_feed_22 : decode cX5_feed 22 = .ok (.ireturn, 1) := by decide +kernel
theorem dX5_feed_23 : decode cX5_feed 23 = .ok (.aload_n 0, 1) := by decide +kernel
theorem dX5_feed_24 : decode cX5_feed 24 = .ok (.getfield 28, 3) := by decide +kernel
theorem dX5_feed_27 : decode cX5_feed 27 = .ok (.aload_n 0, 1) := by decide +kernel
theorem dX5_feed_28 : decode cX5_feed 28 = .ok (.getfield 171, 3) := by decide +kernel
theorem dX5_feed_31 : decode cX5_feed 31 = .ok (.iload_n 1, 1) := by decide +kernel
theorem dX5_feed_32 : decode cX5_feed 32 = .ok (.iastore, 1) := by decide +kernel
theorem dX5_feed_33 : decode cX5_feed 33 = .ok (.aload_n 0, 1) := by decide +kernel
theorem dX5_feed_34 : decode cX5_feed 34 = .ok (.dup, 1) := by decide +kernel
theorem dX5_feed_35 : decode cX5_feed 35 = .ok (.getfield 171, 3) := by decide +kernel
theorem dX5_feed_38 : decode cX5_feed 38 = .ok (.iconst 1, 1) := by decide +kernel
theorem dX5_feed_39 : decode cX5_feed 39 = .ok (.iadd, 1) := by decide +kernel
theorem dX5_feed_40 : decode cX5_feed 40 = .ok (.putfield 171, 3) := by decide +kernel
theorem dX5_feed_43 : decode cX5_feed 43 = .ok (.aload_n 0, 1) := by decide +kernel
theorem dX5_feed_44 : decode cX5_feed 44 = .ok (.getfield 171, 3) := by decide +kernel
theorem dX5_feed_47 : decode cX5_feed 47 = .ok (.ireturn, 1) := by decide +kernel
theorem dX5_here_0 : decode cX5_here 0 = .ok (.aload_n 0, 1) := by decide +kernel
theorem dX5_here_1 : decode cX5_here 1 = .ok (.getfield 174, 3) := by decide +kernel
theorem dX5_here_4 : decode cX5_here 4 = .ok (.aload_n 0, 1) := by decide +kernel
theorem dX5_here_5 : decode cX5_here 5 = .ok (.getfield 171, 3) := by decide +kernel
theorem dX5_here_8 : decode cX5_here 8 = .ok (.if_icmp .ge 15, 3) := by decide +kernel
theorem dX5_here_11 : decode cX5_here 11 = .ok (.aload_n 0, 1) := by decide +kernel
theorem dX5_here_12 : decode cX5_here 12 = .ok (.getfield 28, 3) := by decide +kernel
theorem dX5_here_15 : decode cX5_here 15 = .ok (.aload_n 0, 1) := by decide +kernel
theorem dX5_here_16 : decode cX5_here 16 = .ok (.getfield 174, 3) := by decide +kernel
theorem dX5_here_19 : decode cX5_here 19 = .ok (.iaload, 1) := by decide +kernel
theorem dX5_here_20 : decode cX5_here 20 = .ok (.goto 4, 3) := by decide +kernel
theorem dX5_here_23 : decode cX5_here 23 = .ok (.iconst (-1), 1) := by decide +kernel
theorem dX5_here_24 : decode cX5_here 24 = .ok (.ireturn, 1) := by decide +kernel
theorem dX5_skips_0 : decode cX5_skips 0 = .ok (.aload_n 0, 1) := by decide +kernel
theorem dX5_skips_1 : decode cX5_skips 1 = .ok (.invokevirtual 177, 3) := by decide +kernel
theorem dX5_skips_4 : decode cX5_skips 4 = .ok (.iload_n 1, 1) := by decide +kernel
theorem dX5_skips_5 : decode cX5_skips 5 = .ok (.if_icmp .eq 5, 3) := by decide +kernel
theorem dX5_skips_8 : decode cX5_skips 8 = .ok (.iconst 0, 1) := by decide +kernel
theorem dX5_skips_9 : decode cX5_skips 9 = .ok (.ireturn, 1) := by decide +kernel
theorem dX5_skips_10 : decode cX5_skips 10 = .ok (.aload_n 0, 1) := by decide +kernel
theorem dX5_skips_11 : decode cX5_skips 11 = .ok (.dup, 1) := by decide +kernel
theorem dX5_skips_12 : decode cX5_skips 12 = .ok (.getfield 174, 3) := by decide +kernel
theorem dX5_skips_15 : decode cX5_skips 15 = .ok (.iconst 1, 1) := by decide +kernel
theorem dX5_skips_16 : decode cX5_skips 16 = .ok (.iadd, 1) := by decide +kernel
theorem dX5_skips_17 : decode cX5_skips 17 = .ok (.putfield 174, 3) := by decide +kernel
theorem dX5_skips_20 : decode cX5_skips 20 = .ok (.iconst 1, 1) := by decide +kernel
theorem dX5_skips_21 : decode cX5_skips 21 = .ok (.ireturn, 1) := by decide +kernel
theorem dX5_isWord_0 : decode cX5_isWord 0 = .ok (.aload_n 0, 1) := by decide +kernel
theorem dX5_isWord_1 : decode cX5_isWord 1 = .ok (.getfield 39, 3) := by decide +kernel
theorem dX5_isWord_4 : decode cX5_isWord 4 = .ok (.iconst 3, 1) := by decide +kernel
theorem dX5_isWord_5 : decode cX5_isWord 5 = .ok (.aload_n 0, 1) := by decide +kernel
theorem dX5_isWord_6 : decode cX5_isWord 6 = .ok (.getfield 180, 3) := by decide +kernel
theorem dX5_isWord_9 : decode cX5_isWord 9 = .ok (.imul, 1) := by decide +kernel
theorem dX5_isWord_10 : decode cX5_isWord 10 = .ok (.aload_n 1, 1) := by decide +kernel
theorem dX5_isWord_11 : decode cX5_isWord 11 = .ok (.iconst 0, 1) := by decide +kernel
theorem dX5_isWord_12 : decode cX5_isWord 12 = .ok (.invokevirtual 183, 3) := by decide +kernel
theorem dX5_isWord_15 : decode cX5_isWord 15 = .ok (.iastore, 1) := by decide +kernel
theorem dX5_isWord_16 : decode cX5_isWord 16 = .ok (.iconst 0, 1) := by decide +kernel
theorem dX5_isWord_17 : decode cX5_isWord 17 = .ok (.istore_n 2, 1) := by decide +kernel
theorem dX5_isWord_18 : decode cX5_isWord 18 = .ok (.iload_n 2, 1) := by decide +kernel
theorem dX5_isWord_19 : decode cX5_isWord 19 = .ok (.aload_n 1, 1) := by decide +kernel
theorem dX5_isWord_20 : decode cX5_isWord 20 = .ok (.invokevirtual 189, 3) := by decide +kernel
theorem dX5_isWord_23 : decode cX5_isWord 23 = .ok (.if_icmp .ge 23, 3) := by decide +kernel
theorem dX5_isWord_26 : decode cX5_isWord 26 = .ok (.aload_n 0, 1) := by decide +kernel
theorem dX5_isWord_27 : decode cX5_isWord 27 = .ok (.aload_n 1, 1) := by decide +kernel
theorem dX5_isWord_28 : decode cX5_isWord 28 = .ok (.iload_n 2, 1) := by decide +kernel
theorem dX5_isWord_29 : decode cX5_isWord 29 = .ok (.invokevirtual 183, 3) := by decide +kernel
theorem dX5_isWord_32 : decode cX5_isWord 32 = .ok (.invokevirtual 191, 3) := by decide +kernel
theorem dX5_isWord_35 : decode cX5_isWord 35 = .ok (.ifCond .ne 5, 3) := by decide +kernel
theorem dX5_isWord_38 : decode cX5_isWord 38 = .ok (.iconst 0, 1) := by decide +kernel
theorem dX5_isWord_39 : decode cX5_isWord 39 = .ok (.ireturn, 1) := by decide +kernel
theorem dX5_isWord_40 : decode cX5_isWord 40 = .ok (.iinc 2 1, 3) := by decide +kernel
theorem dX5_isWord_43 : decode cX5_isWord 43 = .ok (.goto (-25), 3) := by decide +kernel
theorem dX5_isWord_46 : decode cX5_isWord 46 = .ok (.iconst 1, 1) := by decide +kernel
theorem dX5_isWord_47 : decode cX5_isWord 47 = .ok (.ireturn, 1) := by decide +kernel
theorem dX5_figures_0 : decode cX5_figures 0 = .ok (.aload_n 0, 1) := by decide +kernel
theorem dX5_figures_1 : decode cX5_figures 1 = .ok (.bipush 32, 2) := by decide +kernel
theorem dX5_figures_3 : decode cX5_figures 3 = .ok (.invokevirtual 191, 3) := by decide +kernel
theorem dX5_figures_6 : decode cX5_figures 6 = .ok (.ifCond .eq 17, 3) := by decide +kernel
theorem dX5_figures_9 : decode cX5_figures 9 = .ok (.aload_n 0, 1) := by decide +kernel
theorem dX5_figures_10 : decode cX5_figures 10 = .ok (.invokevirtual 177, 3) := by decide +kernel
theorem dX5_figures_13 : decode cX5_figures 13 = .ok (.bipush 48, 2) := by decide +kernel
theorem dX5_figures_15 : decode cX5_figures 15 = .ok (.bipush 57, 2) := by decide +kernel
theorem dX5_figures_17 : decode cX5_figures 17 = .ok (.invokestatic 68, 3) := by decide +kernel
theorem dX5_figures_20 : decode cX5_figures 20 = .ok (.ifCond .ne 5, 3) := by decide +kernel
theorem dX5_figures_23 : decode cX5_figures 23 = .ok (.iconst 0, 1) := by decide +kernel
theorem dX5_figures_24 : decode cX5_figures 24 = .ok (.ireturn, 1) := by decide +kernel
theorem dX5_figures_25 : decode cX5_figures 25 = .ok (.aload_n 0, 1) := by decide +kernel
theorem dX5_figures_26 : decode cX5_figures 26 = .ok (.getfield 39, 3) := by decide +kernel
theorem dX5_figures_29 : decode cX5_figures 29 = .ok (.iload_n 1, 1) := by decide +kernel
theorem dX5_figures_30 : decode cX5_figures 30 = .ok (.iconst 0, 1) := by decide +kernel
theorem dX5_figures_31 : decode cX5_figures 31 = .ok (.iastore, 1) := by decide +kernel
theorem dX5_figures_32 : decode cX5_figures 32 = .ok (.iconst 0, 1) := by decide +kernel
theorem dX5_figures_33 : decode cX5_figures 33 = .ok (.istore_n 3, 1) := by decide +kernel
theorem dX5_figures_34 : decode cX5_figures 34 = .ok (.iload_n 3, 1) := by decide +kernel
theorem dX5_figures_35 : decode cX5_figures 35 = .ok (.iload_n 2, 1) := by decide +kernel
theorem dX5_figures_36 : decode cX5_figures 36 = .ok (.if_icmp .ge 56, 3) := by decide +kernel
theorem dX5_figures_39 : decode cX5_figures 39 = .ok (.aload_n 0, 1) := by decide +kernel
theorem dX5_figures_40 : decode cX5_figures 40 = .ok (.invokevirtual 177, 3) := by decide +kernel
theorem dX5_figures_43 : decode cX5_figures 43 = .ok (.bipush 48, 2) := by decide +kernel
theorem dX5_figures_45 : decode cX5_figures 45 = .ok (.bipush 57, 2) := by decide +kernel
theorem dX5_figures_47 : decode cX5_figures 47 = .ok (.invokestatic 68, 3) := by decide +kernel
theorem dX5_figures_50 : decode cX5_figures 50 = .ok (.ifCond .eq 42, 3) := by decide +kernel
theorem dX5_figures_53 : decode cX5_figures 53 = .ok (.aload_n 0, 1) := by decide +kernel
theorem dX5_figures_54 : decode cX5_figures 54 = .ok (.getfield 39, 3) := by decide +kernel
theorem dX5_figures_57 : decode cX5_figures 57 = .ok (.iload_n 1, 1) := by decide +kernel
theorem dX5_figures_58 : decode cX5_figures 58 = .ok (.bipush 10, 2) := by decide +kernel
theorem dX5_figures_60 : decode cX5_figures 60 = .ok (.aload_n 0, 1) := by decide +kernel
theorem dX5_figures_61 : decode cX5_figures 61 = .ok (.getfield 39, 3) := by decide +kernel
theorem dX5_figures_64 : decode cX5_figures 64 = .ok (.iload_n 1, 1) := by decide +kernel
theorem dX5_figures_65 : decode cX5_figures 65 = .ok (.iaload, 1) := by decide +kernel
theorem dX5_figures_66 : decode cX5_figures 66 = .ok (.imul, 1) := by decide +kernel
theorem dX5_figures_67 : decode cX5_figures 67 = .ok (.aload_n 0, 1) := by decide +kernel
theorem dX5_figures_68 : decode cX5_figures 68 = .ok (.invokevirtual 177, 3) := by decide +kernel
theorem dX5_figures_71 : decode cX5_figures 71 = .ok (.iadd, 1) := by decide +kernel
theorem dX5_figures_72 : decode cX5_figures 72 = .ok (.bipush 48, 2) := by decide +kernel
theorem dX5_figures_74 : decode cX5_figures 74 = .ok (.isub, 1) := by decide +kernel
theorem dX5_figures_75 : decode cX5_figures 75 = .ok (.iastore, 1) := by decide +kernel
theorem dX5_figures_76 : decode cX5_figures 76 = .ok (.aload_n 0, 1) := by decide +kernel
theorem dX5_figures_77 : decode cX5_figures 77 = .ok (.dup, 1) := by decide +kernel
theorem dX5_figures_78 : decode cX5_figures 78 = .ok (.getfield 174, 3) := by decide +kernel
theorem dX5_figures_81 : decode cX5_figures 81 = .ok (.iconst 1, 1) := by decide +kernel
theorem dX5_figures_82 : decode cX5_figures 82 = .ok (.iadd, 1) := by decide +kernel
theorem dX5_figures_83 : decode cX5_figures 83 = .ok (.putfield 174, 3) := by decide +kernel
theorem dX5_figures_86 : decode cX5_figures 86 = .ok (.iinc 3 1, 3) := by decide +kernel
theorem dX5_figures_89 : decode cX5_figures 89 = .ok (.goto (-55), 3) := by decide +kernel
theorem dX5_figures_92 : decode cX5_figures 92 = .ok (.iconst 1, 1) := by decide +kernel
theorem dX5_figures_93 : decode cX5_figures 93 = .ok (.ireturn, 1) := by decide +kernel
theorem dX5_commandHere_0 : decode cX5_commandHere 0 = .ok (.iconst 3, 1) := by decide +kernel
theorem dX5_commandHere_1 : decode cX5_commandHere 1 = .ok (.aload_n 0, 1) := by decide +kernel
theorem dX5_commandHere_2 : decode cX5_commandHere 2 = .ok (.getfield 180, 3) := by decide +kernel
theorem dX5_commandHere_5 : decode cX5_commandHere 5 = .ok (.imul, 1) := by decide +kernel
theorem dX5_commandHere_6 : decode cX5_commandHere 6 = .ok (.iconst 1, 1) := by decide +kernel
theorem dX5_commandHere_7 : decode cX5_commandHere 7 = .ok (.iadd, 1) := by decide +kernel
theorem dX5_commandHere_8 : decode cX5_commandHere 8 = .ok (.istore_n 1, 1) := by decide +kernel
theorem dX5_commandHere_9 : decode cX5_commandHere 9 = .ok (.aload_n 0, 1) := by decide +kernel
theorem dX5_commandHere_10 : decode cX5_commandHere 10 = .ok (.invokevirtual 177, 3) := by decide +kernel
theorem dX5_commandHere_13 : decode cX5_commandHere 13 = .ok (.tableswitch 272 99 119 #[265, 272, 158, 272, 272, 272, 272, 272, 272, 272, 182, 272, 272, 123, 272, 217, 99, 272, 272, 272, 241], 99) := by decide +kernel
theorem dX5_commandHere_112 : decode cX5_commandHere 112 = .ok (.aload_n 0, 1) := by decide +kernel
theorem dX5_commandHere_113 : decode cX5_commandHere 113 = .ok (.ldc 194, 2) := by decide +kernel
theorem dX5_commandHere_115 : decode cX5_commandHere 115 = .ok (.invokevirtual 196, 3) := by decide +kernel
theorem dX5_commandHere_118 : decode cX5_commandHere 118 = .ok (.ifCond .eq 16, 3) := by decide +kernel
theorem dX5_commandHere_121 : decode cX5_commandHere 121 = .ok (.aload_n 0, 1) := by decide +kernel
theorem dX5_commandHere_122 : decode cX5_commandHere 122 = .ok (.iload_n 1, 1) := by decide +kernel
theorem dX5_commandHere_123 : decode cX5_commandHere 123 = .ok (.iconst 2, 1) := by decide +kernel
theorem dX5_commandHere_124 : decode cX5_commandHere 124 = .ok (.invokevirtual 200, 3) := by decide +kernel
theorem dX5_commandHere_127 : decode cX5_commandHere 127 = .ok (.ifCond .eq 7, 3) := by decide +kernel
theorem dX5_commandHere_130 : decode cX5_commandHere 130 = .ok (.iconst 1, 1) := by decide +kernel
theorem dX5_commandHere_131 : decode cX5_commandHere 131 = .ok (.goto 4, 3) := by decide +kernel
theorem dX5_commandHere_134 : decode cX5_commandHere 134 = .ok (.iconst 0, 1) := by decide +kernel
theorem dX5_commandHere_135 : decode cX5_commandHere 135 = .ok (.ireturn, 1) := by decide +kernel
theorem dX5_commandHere_136 : decode cX5_commandHere 136 = .ok (.aload_n 0, 1) := by decide +kernel
theorem dX5_commandHere_137 : decode cX5_commandHere 137 = .ok (.ldc 203, 2) := by decide +kernel
theorem dX5_commandHere_139 : decode cX5_commandHere 139 = .ok (.invokevirtual 196, 3) := by decide +kernel
theorem dX5_commandHere_142 : decode cX5_commandHere 142 = .ok (.ifCond .eq 27, 3) := by decide +kernel
theorem dX5_commandHere_145 : decode cX5_commandHere 145 = .ok (.aload_n 0, 1) := by decide +kernel
theorem dX5_commandHere_146 : decode cX5_commandHere 146 = .ok (.iload_n 1, 1) := by decide +kernel
theorem dX5_commandHere_147 : decode cX5_commandHere 147 = .ok (.iconst 1, 1) := by decide +kernel
theorem dX5_commandHere_148 : decode cX5_commandHere 148 = .ok (.invokevirtual 200, 3) := by decide +kernel
theorem dX5_commandHere_151 : decode cX5_commandHere 151 = .ok (.ifCond .eq 18, 3) := by decide +kernel
theorem dX5_commandHere_154 : decode cX5_commandHere 154 = .ok (.aload_n 0, 1) := by decide +kernel
theorem dX5_commandHere_155 : decode cX5_commandHere 155 = .ok (.iload_n 1, 1) := by decide +kernel
theorem dX5_commandHere_156 : decode cX5_commandHere 156 = .ok (.iconst 1, 1) := by decide +kernel
theorem dX5_commandHere_157 : decode cX5_commandHere 157 = .ok (.iadd, 1) := by decide +kernel
theorem dX5_commandHere_158 : decode cX5_commandHere 158 = .ok (.iconst 2, 1) := by decide +kernel
theorem dX5_commandHere_159 : decode cX5_commandHere 159 = .ok (.invokevirtual 200, 3) := by decide +kernel
theorem dX5_commandHere_162 : decode cX5_commandHere 162 = .ok (.ifCond .eq 7, 3) := by decide +kernel
theorem dX5_commandHere_165 : decode cX5_commandHere 165 = .ok (.iconst 1, 1) := by decide +kernel
theorem dX5_commandHere_166 : decode cX5_commandHere 166 = .ok (.goto 4, 3) := by decide +kernel
theorem dX5_commandHere_169 : decode cX5_commandHere 169 = .ok (.iconst 0, 1) := by decide +kernel
theorem dX5_commandHere_170 : decode cX5_commandHere 170 = .ok (.ireturn, 1) := by decide +kernel
theorem dX5_commandHere_171 : decode cX5_commandHere 171 = .ok (.aload_n 0, 1) := by decide +kernel
theorem dX5_commandHere_172 : decode cX5_commandHere 172 = .ok (.ldc 205, 2) := by decide +kernel
theorem dX5_commandHere_174 : decode cX5_commandHere 174 = .ok (.invokevirtual 196, 3) := by decide +kernel
theorem dX5_commandHere_177 : decode cX5_commandHere 177 = .ok (.ifCond .eq 16, 3) := by decide +kernel
theorem dX5_commandHere_180 : decode cX5_commandHere 180 = .ok (.aload_n 0, 1) := by decide +kernel
theorem dX5_commandHere_181 : decode cX5_commandHere 181 = .ok (.iload_n 1, 1) := by decide +kernel
theorem dX5_commandHere_182 : decode cX5_commandHere 182 = .ok (.iconst 2, 1) := by decide +kernel
theorem dX5_commandHere_183 : decode cX5_commandHere 183 = .ok (.invokevirtual 200, 3) := by decide +kernel
theorem dX5_commandHere_186 : decode cX5_commandHere 186 = .ok (.ifCond .eq 7, 3) := by decide +kernel
theorem dX5_commandHere_189 : decode cX5_commandHere 189 = .ok (.iconst 1, 1) := by decide +kernel
theorem dX5_commandHere_190 : decode cX5_commandHere 190 = .ok (.goto 4, 3) := by decide +kernel
theorem dX5_commandHere_193 : decode cX5_commandHere 193 = .ok (.iconst 0, 1) := by decide +kernel
theorem dX5_commandHere_194 : decode cX5_commandHere 194 = .ok (.ireturn, 1) := by decide +kernel
theorem dX5_commandHere_195 : decode cX5_commandHere 195 = .ok (.aload_n 0, 1) := by decide +kernel
theorem dX5_commandHere_196 : decode cX5_commandHere 196 = .ok (.ldc 207, 2) := by decide +kernel
theorem dX5_commandHere_198 : decode cX5_commandHere 198 = .ok (.invokevirtual 196, 3) := by decide +kernel
theorem dX5_commandHere_201 : decode cX5_commandHere 201 = .ok (.ifCond .eq 27, 3) := by decide +kernel
theorem dX5_commandHere_204 : decode cX5_commandHere 204 = .ok (.aload_n 0, 1) := by decide +kernel
theorem dX5_commandHere_205 : decode cX5_commandHere 205 = .ok (.iload_n 1, 1) := by decide +kernel
theorem dX5_commandHere_206 : decode cX5_commandHere 206 = .ok (.iconst 1, 1) := by decide +kernel
theorem dX5_commandHere_207 : decode cX5_commandHere 207 = .ok (.invokevirtual 200, 3) := by decide +kernel
theorem dX5_commandHere_210 : decode cX5_commandHere 210 = .ok (.ifCond .eq 18, 3) := by decide +kernel
theorem dX5_commandHere_213 : decode cX5_commandHere 213 = .ok (.aload_n 0, 1) := by decide +kernel
theorem dX5_commandHere_214 : decode cX5_commandHere 214 = .ok (.iload_n 1, 1) := by decide +kernel
theorem dX5_commandHere_215 : decode cX5_commandHere 215 = .ok (.iconst 1, 1) := by decide +kernel
theorem dX5_commandHere_216 : decode cX5_commandHere 216 = .ok (.iadd, 1) := by decide +kernel
theorem dX5_commandHere_217 : decode cX5_commandHere 217 = .ok (.iconst 1, 1) := by decide +kernel
theorem dX5_commandHere_218 : decode cX5_commandHere 218 = .ok (.invokevirtual 200, 3) := by decide +kernel
theorem dX5_commandHere_221 : decode cX5_commandHere 221 = .ok (.ifCond .eq 7, 3) := by decide +kernel
theorem dX5_commandHere_224 : decode cX5_commandHere 224 = .ok (.iconst 1, 1) := by decide +kernel
theorem dX5_commandHere_225 : decode cX5_commandHere 225 = .ok (.goto 4, 3) := by decide +kernel
theorem dX5_commandHere_228 : decode cX5_commandHere 228 = .ok (.iconst 0, 1) := by decide +kernel
theorem dX5_commandHere_229 : decode cX5_commandHere 229 = .ok (.ireturn, 1) := by decide +kernel
theorem dX5_commandHere_230 : decode cX5_commandHere 230 = .ok (.aload_n 0, 1) := by decide +kernel
theorem dX5_commandHere_231 : decode cX5_commandHere 231 = .ok (.ldc 209, 2) := by decide +kernel
theorem dX5_commandHere_233 : decode cX5_commandHere 233 = .ok (.invokevirtual 196, 3) := by decide +kernel
theorem dX5_commandHere_236 : decode cX5_commandHere 236 = .ok (.ifCond .eq 16, 3) := by decide +kernel
theorem dX5_commandHere_239 : decode cX5_commandHere 239 = .ok (.aload_n 0, 1) := by decide +kernel
theorem dX5_commandHere_240 : decode cX5_commandHere 240 = .ok (.iload_n 1, 1) := by decide +kernel
theorem dX5_commandHere_241 : decode cX5_commandHere 241 = .ok (.iconst 2, 1) := by decide +kernel
theorem dX5_commandHere_242 : decode cX5_commandHere 242 = .ok (.invokevirtual 200, 3) := by decide +kernel
theorem dX5_commandHere_245 : decode cX5_commandHere 245 = .ok (.ifCond .eq 7, 3) := by decide +kernel
theorem dX5_commandHere_248 : decode cX5_commandHere 248 = .ok (.iconst 1, 1) := by decide +kernel
theorem dX5_commandHere_249 : decode cX5_commandHere 249 = .ok (.goto 4, 3) := by decide +kernel
theorem dX5_commandHere_252 : decode cX5_commandHere 252 = .ok (.iconst 0, 1) := by decide +kernel
theorem dX5_commandHere_253 : decode cX5_commandHere 253 = .ok (.ireturn, 1) := by decide +kernel
theorem dX5_commandHere_254 : decode cX5_commandHere 254 = .ok (.aload_n 0, 1) := by decide +kernel
theorem dX5_commandHere_255 : decode cX5_commandHere 255 = .ok (.ldc 211, 2) := by decide +kernel
theorem dX5_commandHere_257 : decode cX5_commandHere 257 = .ok (.invokevirtual 196, 3) := by decide +kernel
theorem dX5_commandHere_260 : decode cX5_commandHere 260 = .ok (.ifCond .eq 16, 3) := by decide +kernel
theorem dX5_commandHere_263 : decode cX5_commandHere 263 = .ok (.aload_n 0, 1) := by decide +kernel
theorem dX5_commandHere_264 : decode cX5_commandHere 264 = .ok (.iload_n 1, 1) := by decide +kernel
theorem dX5_commandHere_265 : decode cX5_commandHere 265 = .ok (.iconst 2, 1) := by decide +kernel
theorem dX5_commandHere_266 : decode cX5_commandHere 266 = .ok (.invokevirtual 200, 3) := by decide +kernel
theorem dX5_commandHere_269 : decode cX5_commandHere 269 = .ok (.ifCond .eq 7, 3) := by decide +kernel
theorem dX5_commandHere_272 : decode cX5_commandHere 272 = .ok (.iconst 1, 1) := by decide +kernel
theorem dX5_commandHere_273 : decode cX5_commandHere 273 = .ok (.goto 4, 3) := by decide +kernel
theorem dX5_commandHere_276 : decode cX5_commandHere 276 = .ok (.iconst 0, 1) := by decide +kernel
theorem dX5_commandHere_277 : decode cX5_commandHere 277 = .ok (.ireturn, 1) := by decide +kernel
theorem dX5_commandHere_278 : decode cX5_commandHere 278 = .ok (.aload_n 0, 1) := by decide +kernel
theorem dX5_commandHere_279 : decode cX5_commandHere 279 = .ok (.ldc 213, 2) := by decide +kernel
theorem dX5_commandHere_281 : decode cX5_commandHere 281 = .ok (.invokevirtual 196, 3) := by decide +kernel
theorem dX5_commandHere_284 : decode cX5_commandHere 284 = .ok (.ireturn, 1) := by decide +kernel
theorem dX5_commandHere_285 : decode cX5_commandHere 285 = .ok (.iconst 0, 1) := by decide +kernel
theorem dX5_commandHere_286 : decode cX5_commandHere 286 = .ok (.ireturn, 1) := by decide +kernel
theorem dX5_isText_0 : decode cX5_isText 0 = .ok (.aload_n 0, 1) := by decide +kernel
theorem dX5_isText_1 : decode cX5_isText 1 = .ok (.iconst 0, 1) := by decide +kernel
theorem dX5_isText_2 : decode cX5_isText 2 = .ok (.putfield 174, 3) := by decide +kernel
theorem dX5_isText_5 : decode cX5_isText 5 = .ok (.aload_n 0, 1) := by decide +kernel
theorem dX5_isText_6 : decode cX5_isText 6 = .ok (.iconst 0, 1) := by decide +kernel
theorem dX5_isText_7 : decode cX5_isText 7 = .ok (.putfield 180, 3) := by decide +kernel
theorem dX5_isText_10 : decode cX5_isText 10 = .ok (.aload_n 0, 1) := by decide +kernel
theorem dX5_isText_11 : decode cX5_isText 11 = .ok (.invokevirtual 215, 3) := by decide +kernel
theorem dX5_isText_14 : decode cX5_isText 14 = .ok (.ifCond .ne 5, 3) := by decide +kernel
theorem dX5_isText_17 : decode cX5_isText 17 = .ok (.iconst 0, 1) := by decide +kernel
theorem dX5_isText_18 : decode cX5_isText 18 = .ok (.ireturn, 1) := by decide +kernel
theorem dX5_isText_19 : decode cX5_isText 19 = .ok (.aload_n 0, 1) := by decide +kernel
theorem dX5_isText_20 : decode cX5_isText 20 = .ok (.dup, 1) := by decide +kernel
theorem dX5_isText_21 : decode cX5_isText 21 = .ok (.getfield 180, 3) := by decide +kernel
theorem dX5_isText_24 : decode cX5_isText 24 = .ok (.iconst 1, 1) := by decide +kernel
theorem dX5_isText_25 : decode cX5_isText 25 = .ok (.iadd, 1) := by decide +kernel
theorem dX5_isText_26 : decode cX5_isText 26 = .ok (.putfield 180, 3) := by decide +kernel
theorem dX5_isText_29 : decode cX5_isText 29 = .ok (.aload_n 0, 1) := by decide +kernel
theorem dX5_isText_30 : decode cX5_isText 30 = .ok (.bipush 59, 2) := by decide +kernel
theorem dX5_isText_32 : decode cX5_isText 32 = .ok (.invokevirtual 191, 3) := by decide +kernel
theorem dX5_isText_35 : decode cX5_isText 35 = .ok (.ifCond .ne (-25), 3) := by decide +kernel
theorem dX5_isText_38 : decode cX5_isText 38 = .ok (.aload_n 0, 1) := by decide +kernel
theorem dX5_isText_39 : decode cX5_isText 39 = .ok (.getfield 174, 3) := by decide +kernel
theorem dX5_isText_42 : decode cX5_isText 42 = .ok (.aload_n 0, 1) := by decide +kernel
theorem dX5_isText_43 : decode cX5_isText 43 = .ok (.getfield 171, 3) := by decide +kernel
theorem dX5_isText_46 : decode cX5_isText 46 = .ok (.if_icmp .ne 7, 3) := by decide +kernel
theorem dX5_isText_49 : decode cX5_isText 49 = .ok (.iconst 1, 1) := by decide +kernel
theorem dX5_isText_50 : decode cX5_isText 50 = .ok (.goto 4, 3) := by decide +kernel
theorem dX5_isText_53 : decode cX5_isText 53 = .ok (.iconst 0, 1) := by decide +kernel
theorem dX5_isText_54 : decode cX5_isText 54 = .ok (.ireturn, 1) := by decide +kernel
theorem dX5_carries_0 : decode cX5_carries 0 = .ok (.aload_n 0, 1) := by decide +kernel
theorem dX5_carries_1 : decode cX5_carries 1 = .ok (.getfield 39, 3) := by decide +kernel
theorem dX5_carries_4 : decode cX5_carries 4 = .ok (.iload_n 1, 1) := by decide +kernel
theorem dX5_carries_5 : decode cX5_carries 5 = .ok (.iconst 1, 1) := by decide +kernel
theorem dX5_carries_6 : decode cX5_carries 6 = .ok (.iadd, 1) := by decide +kernel
theorem dX5_carries_7 : decode cX5_carries 7 = .ok (.iaload, 1) := by decide +kernel
theorem dX5_carries_8 : decode cX5_carries 8 = .ok (.istore_n 2, 1) := by decide +kernel
theorem dX5_carries_9 : decode cX5_carries 9 = .ok (.aload_n 0, 1) := by decide +kernel
theorem dX5_carries_10 : decode cX5_carries 10 = .ok (.getfield 39, 3) := by decide +kernel
theorem dX5_carries_13 : decode cX5_carries 13 = .ok (.iload_n 1, 1) := by decide +kernel
theorem dX5_carries_14 : decode cX5_carries 14 = .ok (.iconst 2, 1) := by decide +kernel
theorem dX5_carries_15 : decode cX5_carries 15 = .ok (.iadd, 1) := by decide +kernel
theorem dX5_carries_16 : decode cX5_carries 16 = .ok (.iaload, 1) := by decide +kernel
theorem dX5_carries_17 : decode cX5_carries 17 = .ok (.istore_n 3, 1) := by decide +kernel
theorem dX5_carries_18 : decode cX5_carries 18 = .ok (.aload_n 0, 1) := by decide +kernel
theorem dX5_carries_19 : decode cX5_carries 19 = .ok (.getfield 39, 3) := by decide +kernel
theorem dX5_carries_22 : decode cX5_carries 22 = .ok (.iload_n 1, 1) := by decide +kernel
theorem dX5_carries_23 : decode cX5_carries 23 = .ok (.iaload, 1) := by decide +kernel
theorem dX5_carries_24 : decode cX5_carries 24 = .ok (.tableswitch 130 101 119 #[105, 130, 130, 130, 130, 130, 130, 130, 111, 130, 130, 98, 130, 118, 92, 130, 130, 130, 124], 92) := by decide +kernel
theorem dX5_carries_116 : decode cX5_carries 116 = .ok (.aload_n 0, 1) := by decide +kernel
theorem dX5_carries_117 : decode cX5_carries 117 = .ok (.iload_n 2, 1) := by decide +kernel
theorem dX5_carries_118 : decode cX5_carries 118 = .ok (.invokevirtual 219, 3) := by decide +kernel
theorem dX5_carries_121 : decode cX5_carries 121 = .ok (.ireturn, 1) := by decide +kernel
theorem dX5_carries_122 : decode cX5_carries 122 = .ok (.aload_n 0, 1) := by decide +kernel
theorem dX5_carries_123 : decode cX5_carries 123 = .ok (.iload_n 2, 1) := by decide +kernel
theorem dX5_carries_124 : decode cX5_carries 124 = .ok (.iload_n 3, 1) := by decide +kernel
theorem dX5_carries_125 : decode cX5_carries 125 = .ok (.invokevirtual 222, 3) := by decide +kernel
theorem dX5_carries_128 : decode cX5_carries 128 = .ok (.ireturn, 1) := by decide +kernel
theorem dX5_carries_129 : decode cX5_carries 129 = .ok (.aload_n 0, 1) := by decide +kernel
theorem dX5_carries_130 : decode cX5_carries 130 = .ok (.iload_n 2, 1) := by decide +kernel
theorem dX5_carries_131 : decode cX5_carries 131 = .ok (.invokevirtual 224, 3) := by decide +kernel
theorem dX5_carries_134 : decode cX5_carries 134 = .ok (.ireturn, 1) := by decide +kernel
theorem dX5_carries_135 : decode cX5_carries 135 = .ok (.aload_n 0, 1) := by decide +kernel
theorem dX5_carries_136 : decode cX5_carries 136 = .ok (.iload_n 2, 1) := by decide +kernel
theorem dX5_carries_137 : decode cX5_carries 137 = .ok (.iload_n 3, 1) := by decide +kernel
theorem dX5_carries_138 : decode cX5_carries 138 = .ok (.invokevirtual 226, 3) := by decide +kernel
theorem dX5_carries_141 : decode cX5_carries 141 = .ok (.ireturn, 1) := by decide +kernel
theorem dX5_carries_142 : decode cX5_carries 142 = .ok (.aload_n 0, 1) := by decide +kernel
theorem dX5_carries_143 : decode cX5_carries 143 = .ok (.iload_n 2, 1) := by decide +kernel
theorem dX5_carries_144 : decode cX5_carries 144 = .ok (.invokevirtual 228, 3) := by decide +kernel
theorem dX5_carries_147 : decode cX5_carries 147 = .ok (.ireturn, 1) := by decide +kernel
theorem dX5_carries_148 : decode cX5_carries 148 = .ok (.aload_n 0, 1) := by decide +kernel
theorem dX5_carries_149 : decode cX5_carries 149 = .ok (.iload_n 2, 1) := by decide +kernel
theorem dX5_carries_150 : decode cX5_carries 150 = .ok (.invokevirtual 231, 3) := by decide +kernel
theorem dX5_carries_153 : decode cX5_carries 153 = .ok (.ireturn, 1) := by decide +kernel
theorem dX5_carries_154 : decode cX5_carries 154 = .ok (.aload_n 0, 1) := by decide +kernel
theorem dX5_carries_155 : decode cX5_carries 155 = .ok (.invokevirtual 234, 3) := by decide +kernel
theorem dX5_carries_158 : decode cX5_carries 158 = .ok (.ireturn, 1) := by decide +kernel
theorem dX5_deniesText_0 : decode cX5_deniesText 0 = .ok (.aload_n 0, 1) := by decide +kernel
theorem dX5_deniesText_1 : decode cX5_deniesText 1 = .ok (.getfield 45, 3) := by decide +kernel
theorem dX5_deniesText_4 : decode cX5_deniesText 4 = .ok (.ifCond .eq 10, 3) := by decide +kernel
theorem dX5_deniesText_7 : decode cX5_deniesText 7 = .ok (.aload_n 0, 1) := by decide +kernel
theorem dX5_deniesText_8 : decode cX5_deniesText 8 = .ok (.getfield 49, 3) := by decide +kernel
theorem dX5_deniesText_11 : decode cX5_deniesText 11 = .ok (.goto 5, 3) := by decide +kernel
theorem dX5_deniesText_14 : decode cX5_deniesText 14 = .ok (.bipush 9, 2) := by decide +kernel
theorem dX5_deniesText_16 : decode cX5_deniesText 16 = .ok (.istore_n 2, 1) := by decide +kernel
theorem dX5_deniesText_17 : decode cX5_deniesText 17 = .ok (.aload_n 0, 1) := by decide +kernel
theorem dX5_deniesText_18 : decode cX5_deniesText 18 = .ok (.iconst 2, 1) := by decide +kernel
theorem dX5_deniesText_19 : decode cX5_deniesText 19 = .ok (.bipush 8, 2) := by decide +kernel
theorem dX5_deniesText_21 : decode cX5_deniesText 21 = .ok (.iload_n 1, 1) := by decide +kernel
theorem dX5_deniesText_22 : decode cX5_deniesText 22 = .ok (.invokevirtual 99, 3) := by decide +kernel
theorem dX5_deniesText_25 : decode cX5_deniesText 25 = .ok (.pop, 1) := by decide +kernel
theorem dX5_deniesText_26 : decode cX5_deniesText 26 = .ok (.aload_n 0, 1) := by decide +kernel
theorem dX5_deniesText_27 : decode cX5_deniesText 27 = .ok (.iload_n 2, 1) := by decide +kernel
theorem dX5_deniesText_28 : decode cX5_deniesText 28 = .ok (.putfield 55, 3) := by decide +kernel
theorem dX5_deniesText_31 : decode cX5_deniesText 31 = .ok (.iconst 0, 1) := by decide +kernel
theorem dX5_deniesText_32 : decode cX5_deniesText 32 = .ok (.ireturn, 1) := by decide +kernel
theorem dX5_execute_0 : decode cX5_execute 0 = .ok (.aload_n 0, 1) := by decide +kernel
theorem dX5_execute_1 : decode cX5_execute 1 = .ok (.invokevirtual 237, 3) := by decide +kernel
theorem dX5_execute_4 : decode cX5_execute 4 = .ok (.istore_n 1, 1) := by decide +kernel
theorem dX5_execute_5 : decode cX5_execute 5 = .ok (.iload_n 1, 1) := by decide +kernel
theorem dX5_execute_6 : decode cX5_execute 6 = .ok (.ifCond .ne 11, 3) := by decide +kernel
theorem dX5_execute_9 : decode cX5_execute 9 = .ok (.aload_n 0, 1) := by decide +kernel
theorem dX5_execute_10 : decode cX5_execute 10 = .ok (.aload_n 0, 1) := by decide +kernel
theorem dX5_execute_11 : decode cX5_execute 11 = .ok (.getfield 174, 3) := by decide +kernel
theorem dX5_execute_14 : decode cX5_execute 14 = .ok (.putfield 31, 3) := by decide +kernel
theorem dX5_execute_17 : decode cX5_execute 17 = .ok (.aload_n 0, 1) := by decide +kernel
theorem dX5_execute_18 : decode cX5_execute 18 = .ok (.iconst 0, 1) := by decide +kernel
theorem dX5_execute_19 : decode cX5_execute 19 = .ok (.putfield 171, 3) := by decide +kernel
theorem dX5_execute_22 : decode cX5_execute 22 = .ok (.aload_n 0, 1) := by decide +kernel
theorem dX5_execute_23 : decode cX5_execute 23 = .ok (.iload_n 1, 1) := by decide +kernel
theorem dX5_execute_24 : decode cX5_execute 24 = .ok (.ifCond .eq 7, 3) := by decide +kernel
theorem dX5_execute_27 : decode cX5_execute 27 = .ok (.iconst 0, 1) := by decide +kernel
theorem dX5_execute_28 : decode cX5_execute 28 = .ok (.goto 4, 3) := by decide +kernel
theorem dX5_execute_31 : decode cX5_execute 31 = .ok (.iconst 1, 1) := by decide +kernel
theorem dX5_execute_32 : decode cX5_execute 32 = .ok (.invokevirtual 76, 3) := by decide +kernel
theorem dX5_execute_35 : decode cX5_execute 35 = .ok (.ifCond .eq 5, 3) := by decide +kernel
theorem dX5_execute_38 : decode cX5_execute 38 = .ok (.iconst 0, 1) := by decide +kernel
theorem dX5_execute_39 : decode cX5_execute 39 = .ok (.ireturn, 1) := by decide +kernel
theorem dX5_execute_40 : decode cX5_execute 40 = .ok (.aload_n 0, 1) := by decide +kernel
theorem dX5_execute_41 : decode cX5_execute 41 = .ok (.getfield 7, 3) := by decide +kernel
theorem dX5_execute_44 : decode cX5_execute 44 = .ok (.iconst 0, 1) := by decide +kernel
theorem dX5_execute_45 : decode cX5_execute 45 = .ok (.aload_n 0, 1) := by decide +kernel
theorem dX5_execute_46 : decode cX5_execute 46 = .ok (.getfield 19, 3) := by decide +kernel
theorem dX5_execute_49 : decode cX5_execute 49 = .ok (.iconst 0, 1) := by decide +kernel
theorem dX5_execute_50 : decode cX5_execute 50 = .ok (.invokestatic 64, 3) := by decide +kernel
theorem dX5_execute_53 : decode cX5_execute 53 = .ok (.aload_n 0, 1) := by decide +kernel
theorem dX5_execute_54 : decode cX5_execute 54 = .ok (.iconst 1, 1) := by decide +kernel
theorem dX5_execute_55 : decode cX5_execute 55 = .ok (.putfield 58, 3) := by decide +kernel
theorem dX5_execute_58 : decode cX5_execute 58 = .ok (.iconst 0, 1) := by decide +kernel
theorem dX5_execute_59 : decode cX5_execute 59 = .ok (.istore_n 2, 1) := by decide +kernel
theorem dX5_execute_60 : decode cX5_execute 60 = .ok (.iconst 0, 1) := by decide +kernel
theorem dX5_execute_61 : decode cX5_execute 61 = .ok (.istore_n 3, 1) := by decide +kernel
theorem dX5_execute_62 : decode cX5_execute 62 = .ok (.iload_n 2, 1) := by decide +kernel
theorem dX5_execute_63 : decode cX5_execute 63 = .ok (.aload_n 0, 1) := by decide +kernel
theorem dX5_execute_64 : decode cX5_execute 64 = .ok (.getfield 180, 3) := by decide +kernel
theorem dX5_execute_67 : decode cX5_execute 67 = .ok (.if_icmp .ge 31, 3) := by decide +kernel
theorem dX5_execute_70 : decode cX5_execute 70 = .ok (.aload_n 0, 1) := by decide +kernel
theorem dX5_execute_71 : decode cX5_execute 71 = .ok (.getfield 42, 3) := by decide +kernel
theorem dX5_execute_74 : decode cX5_execute 74 = .ok (.ifCond .ne 24, 3) := by decide +kernel
theorem dX5_execute_77 : decode cX5_execute 77 = .ok (.aload_n 0, 1) := by decide +kernel
theorem dX5_execute_78 : decode cX5_execute 78 = .ok (.iconst 3, 1) := by decide +kernel
theorem dX5_execute_79 : decode cX5_execute 79 = .ok (.iload_n 2, 1) := by decide +kernel
theorem dX5_execute_80 : decode cX5_execute 80 = .ok (.imul, 1) := by decide +kernel
theorem dX5_execute_81 : decode cX5_execute 81 = .ok (.invokevirtual 240, 3) := by decide +kernel
theorem dX5_execute_84 : decode cX5_execute 84 = .ok (.istore_n 3, 1) := by decide +kernel
theorem dX5_execute_85 : decode cX5_execute 85 = .ok (.aload_n 0, 1) := by decide +kernel
theorem dX5_execute_86 : decode cX5_execute 86 = .ok (.getfield 42, 3) := by decide +kernel
theorem dX5_execute_89 : decode cX5_execute 89 = .ok (.ifCond .ne (-27), 3) := by decide +kernel
theorem dX5_execute_92 : decode cX5_execute 92 = .ok (.iinc 2 1, 3) := by decide +kernel
theorem dX5_execute_95 : decode cX5_execute 95 = .ok (.goto (-33), 3) := by decide +kernel
theorem dX5_execute_98 : decode cX5_execute 98 = .ok (.aload_n 0, 1) := by decide +kernel
theorem dX5_execute_99 : decode cX5_execute 99 = .ok (.iconst 0, 1) := by decide +kernel
theorem dX5_execute_100 : decode cX5_execute 100 = .ok (.putfield 58, 3) := by decide +kernel
theorem dX5_execute_103 : decode cX5_execute 103 = .ok (.aload_n 0, 1) := by decide +kernel
theorem dX5_execute_104 : decode cX5_execute 104 = .ok (.getfield 42, 3) := by decide +kernel
theorem dX5_execute_107 : decode cX5_execute 107 = .ok (.ifCond .le 32, 3) := by decide +kernel
theorem dX5_execute_110 : decode cX5_execute 110 = .ok (.aload_n 0, 1) := by decide +kernel
theorem dX5_execute_111 : decode cX5_execute 111 = .ok (.getfield 19, 3) := by decide +kernel
theorem dX5_execute_114 : decode cX5_execute 114 = .ok (.iconst 0, 1) := by decide +kernel
theorem dX5_execute_115 : decode cX5_execute 115 = .ok (.aload_n 0, 1) := by decide +kernel
theorem dX5_execute_116 : decode cX5_execute 116 = .ok (.getfield 7, 3) := by decide +kernel
theorem dX5_execute_119 : decode cX5_execute 119 = .ok (.iconst 0, 1) := by decide +kernel
theorem dX5_execute_120 : decode cX5_execute 120 = .ok (.invokestatic 64, 3) := by decide +kernel
theorem dX5_execute_123 : decode cX5_execute 123 = .ok (.aload_n 0, 1) := by decide +kernel
theorem dX5_execute_124 : decode cX5_execute 124 = .ok (.iload_n 2, 1) := by decide +kernel
theorem dX5_execute_125 : decode cX5_execute 125 = .ok (.invokevirtual 243, 3) := by decide +kernel
theorem dX5_execute_128 : decode cX5_execute 128 = .ok (.iload_n 3, 1) := by decide +kernel
theorem dX5_execute_129 : decode cX5_execute 129 = .ok (.ifCond .le 7, 3) := by decide +kernel
theorem dX5_execute_132 : decode cX5_execute 132 = .ok (.iconst 0, 1) := by decide +kernel
theorem dX5_execute_133 : decode cX5_execute 133 = .ok (.goto 4, 3) := by decide +kernel
theorem dX5_execute_136 : decode cX5_execute 136 = .ok (.iload_n 3, 1) := by decide +kernel
theorem dX5_execute_137 : decode cX5_execute 137 = .ok (.iadd, 1) := by decide +kernel
theorem dX5_execute_138 : decode cX5_execute 138 = .ok (.ireturn, 1) := by decide +kernel
theorem dX5_execute_139 : decode cX5_execute 139 = .ok (.aload_n 0, 1) := by decide +kernel
theorem dX5_execute_140 : decode cX5_execute 140 = .ok (.aload_n 0, 1) := by decide +kernel
theorem dX5_execute_141 : decode cX5_execute 141 = .ok (.getfield 19, 3) := by decide +kernel
theorem dX5_execute_144 : decode cX5_execute 144 = .ok (.invokevirtual 103, 3) := by decide +kernel
theorem dX5_execute_147 : decode cX5_execute 147 = .ok (.aload_n 0, 1) := by decide +kernel
theorem dX5_execute_148 : decode cX5_execute 148 = .ok (.getfield 180, 3) := by decide +kernel
theorem dX5_execute_151 : decode cX5_execute 151 = .ok (.ireturn, 1) := by decide +kernel
theorem dX5_faultPosition_0 : decode cX5_faultPosition 0 = .ok (.aload_n 0, 1) := by decide +kernel
theorem dX5_faultPosition_1 : decode cX5_faultPosition 1 = .ok (.aload_n 0, 1) := by decide +kernel
theorem dX5_faultPosition_2 : decode cX5_faultPosition 2 = .ok (.getfield 31, 3) := by decide +kernel
theorem dX5_faultPosition_5 : decode cX5_faultPosition 5 = .ok (.ifCond .ge 7, 3) := by decide +kernel
theorem dX5_faultPosition_8 : decode cX5_faultPosition 8 = .ok (.iconst 1, 1) := by decide +kernel
theorem dX5_faultPosition_9 : decode cX5_faultPosition 9 = .ok (.goto 4, 3) := by decide +kernel
theorem dX5_faultPosition_12 : decode cX5_faultPosition 12 = .ok (.iconst 0, 1) := by decide +kernel
theorem dX5_faultPosition_13 : decode cX5_faultPosition 13 = .ok (.invokevirtual 76, 3) := by decide +kernel
theorem dX5_faultPosition_16 : decode cX5_faultPosition 16 = .ok (.ifCond .eq 7, 3) := by decide +kernel
theorem dX5_faultPosition_19 : decode cX5_faultPosition 19 = .ok (.iconst 0, 1) := by decide +kernel
theorem dX5_faultPosition_20 : decode cX5_faultPosition 20 = .ok (.goto 7, 3) := by decide +kernel
theorem dX5_faultPosition_23 : decode cX5_faultPosition 23 = .ok (.aload_n 0, 1) := by decide +kernel
theorem dX5_faultPosition_24 : decode cX5_faultPosition 24 = .ok (.getfield 31, 3) := by decide +kernel
theorem dX5_faultPosition_27 : decode cX5_faultPosition 27 = .ok (.ireturn, 1) := by decide +kernel
theorem dX5_writes_0 : decode cX5_writes 0 = .ok (.aload_n 0, 1) := by decide +kernel
theorem dX5_writes_1 : decode cX5_writes 1 = .ok (.getfield 35, 3) := by decide +kernel
theorem dX5_writes_4 : decode cX5_writes 4 = .ok (.aload_n 0, 1) := by decide +kernel
theorem dX5_writes_5 : decode cX5_writes 5 = .ok (.getfield 246, 3) := by decide +kernel
theorem dX5_writes_8 : decode cX5_writes 8 = .ok (.iload_n 1, 1) := by decide +kernel
theorem dX5_writes_9 : decode cX5_writes 9 = .ok (.i2c, 1) := by decide +kernel
theorem dX5_writes_10 : decode cX5_writes 10 = .ok (.castore, 1) := by decide +kernel
theorem dX5_writes_11 : decode cX5_writes 11 = .ok (.aload_n 0, 1) := by decide +kernel
theorem dX5_writes_12 : decode cX5_writes 12 = .ok (.dup, 1) := by decide +kernel
theorem dX5_writes_13 : decode cX5_writes 13 = .ok (.getfield 246, 3) := by decide +kernel
theorem dX5_writes_16 : decode cX5_writes 16 = .ok (.iconst 1, 1) := by decide +kernel
theorem dX5_writes_17 : decode cX5_writes 17 = .ok (.iadd, 1) := by decide +kernel
theorem dX5_writes_18 : decode cX5_writes 18 = .ok (.putfield 246, 3) := by decide +kernel
theorem dX5_writes_21 : decode cX5_writes 21 = .ok (.return_, 1) := by decide +kernel
theorem dX5_writesNumber_0 : decode cX5_writesNumber 0 = .ok (.iload_n 1, 1) := by decide +kernel
theorem dX5_writesNumber_1 : decode cX5_writesNumber 1 = .ok (.bipush 9, 2) := by decide +kernel
theorem dX5_writesNumber_3 : decode cX5_writesNumber 3 = .ok (.if_icmp .le 11, 3) := by decide +kernel
theorem dX5_writesNumber_6 : decode cX5_writesNumber 6 = .ok (.aload_n 0, 1) := by decide +kernel
theorem dX5_writesNumber_7 : decode cX5_writesNumber 7 = .ok (.iload_n 1, 1) := by decide +kernel
theorem dX5_writesNumber_8 : decode cX5_writesNumber 8 = .ok (.bipush 10, 2) := by decide +kernel
theorem dX5_writesNumber_10 : decode cX5_writesNumber 10 = .ok (.idiv, 1) := by decide +kernel
theorem dX5_writesNumber_11 : decode cX5_writesNumber 11 = .ok (.invokevirtual 249, 3) := by decide +kernel
theorem dX5_writesNumber_14 : decode cX5_writesNumber 14 = .ok (.aload_n 0, 1) := by decide +kernel
theorem dX5_writesNumber_15 : decode cX5_writesNumber 15 = .ok (.bipush 48, 2) := by decide +kernel
theorem dX5_writesNumber_17 : decode cX5_writesNumber 17 = .ok (.iload_n 1, 1) := by decide +kernel
theorem dX5_writesNumber_18 : decode cX5_writesNumber 18 = .ok (.bipush 10, 2) := by decide +kernel
theorem dX5_writesNumber_20 : decode cX5_writesNumber 20 = .ok (.irem, 1) := by decide +kernel
theorem dX5_writesNumber_21 : decode cX5_writesNumber 21 = .ok (.iadd, 1) := by decide +kernel
theorem dX5_writesNumber_22 : decode cX5_writesNumber 22 = .ok (.invokevirtual 252, 3) := by decide +kernel
theorem dX5_writesNumber_25 : decode cX5_writesNumber 25 = .ok (.return_, 1) := by decide +kernel
theorem dX5_writesBehind_0 : decode cX5_writesBehind 0 = .ok (.aload_n 0, 1) := by decide +kernel
theorem dX5_writesBehind_1 : decode cX5_writesBehind 1 = .ok (.iload_n 1, 1) := by decide +kernel
theorem dX5_writesBehind_2 : decode cX5_writesBehind 2 = .ok (.invokevirtual 252, 3) := by decide +kernel
theorem dX5_writesBehind_5 : decode cX5_writesBehind 5 = .ok (.aload_n 0, 1) := by decide +kernel
theorem dX5_writesBehind_6 : decode cX5_writesBehind 6 = .ok (.iload_n 2, 1) := by decide +kernel
theorem dX5_writesBehind_7 : decode cX5_writesBehind 7 = .ok (.invokevirtual 249, 3) := by decide +kernel
theorem dX5_writesBehind_10 : decode cX5_writesBehind 10 = .ok (.return_, 1) := by decide +kernel
theorem dX5_writeSpan_0 : decode cX5_writeSpan 0 = .ok (.aload_n 0, 1) := by decide +kernel
theorem dX5_writeSpan_1 : decode cX5_writeSpan 1 = .ok (.iload_n 1, 1) := by decide +kernel
theorem dX5_writeSpan_2 : decode cX5_writeSpan 2 = .ok (.invokevirtual 111, 3) := by decide +kernel
theorem dX5_writeSpan_5 : decode cX5_writeSpan 5 = .ok (.ifCond .eq 5, 3) := by decide +kernel
theorem dX5_writeSpan_8 : decode cX5_writeSpan 8 = .ok (.iconst 0, 1) := by decide +kernel
theorem dX5_writeSpan_9 : decode cX5_writeSpan 9 = .ok (.ireturn, 1) := by decide +kernel
theorem dX5_writeSpan_10 : decode cX5_writeSpan 10 = .ok (.aload_n 0, 1) := by decide +kernel
theorem dX5_writeSpan_11 : decode cX5_writeSpan 11 = .ok (.iconst 0, 1) := by decide +kernel
theorem dX5_writeSpan_12 : decode cX5_writeSpan 12 = .ok (.putfield 246, 3) := by decide +kernel
theorem dX5_writeSpan_15 : decode cX5_writeSpan 15 = .ok (.aload_n 0, 1) := by decide +kernel
theorem dX5_writeSpan_16 : decode cX5_writeSpan 16 = .ok (.iload_n 1, 1) := by decide +kernel
theorem dX5_writeSpan_17 : decode cX5_writeSpan 17 = .ok (.invokevirtual 249, 3) := by decide +kernel
theorem dX5_writeSpan_20 : decode cX5_writeSpan 20 = .ok (.aload_n 0, 1) := by decide +kernel
theorem dX5_writeSpan_21 : decode cX5_writeSpan 21 = .ok (.bipush 58, 2) := by decide +kernel
theorem dX5_writeSpan_23 : decode cX5_writeSpan 23 = .ok (.aload_n 0, 1) := by decide +kernel
theorem dX5_writeSpan_24 : decode cX5_writeSpan 24 = .ok (.iload_n 1, 1) := by decide +kernel
theorem dX5_writeSpan_25 : decode cX5_writeSpan 25 = .ok (.iconst 0, 1) := by decide +kernel
theorem dX5_writeSpan_26 : decode cX5_writeSpan 26 = .ok (.invokevirtual 79, 3) := by decide +kernel
theorem dX5_writeSpan_29 : decode cX5_writeSpan 29 = .ok (.invokevirtual 255, 3) := by decide +kernel
theorem dX5_writeSpan_32 : decode cX5_writeSpan 32 = .ok (.aload_n 0, 1) := by decide +kernel
theorem dX5_writeSpan_33 : decode cX5_writeSpan 33 = .ok (.bipush 106, 2) := by decide +kernel
theorem dX5_writeSpan_35 : decode cX5_writeSpan 35 = .ok (.aload_n 0, 1) := by decide +kernel
theorem dX5_writeSpan_36 : decode cX5_writeSpan 36 = .ok (.iload_n 1, 1) := by decide +kernel
theorem dX5_writeSpan_37 : decode cX5_writeSpan 37 = .ok (.iconst 1, 1) := by decide +kernel
theorem dX5_writeSpan_38 : decode cX5_writeSpan 38 = .ok (.invokevirtual 79, 3) := by decide +kernel
theorem dX5_writeSpan_41 : decode cX5_writeSpan 41 = .ok (.invokevirtual 255, 3) := by decide +kernel
theorem dX5_writeSpan_44 : decode cX5_writeSpan 44 = .ok (.aload_n 0, 1) := by decide +kernel
theorem dX5_writeSpan_45 : decode cX5_writeSpan 45 = .ok (.bipush 104, 2) := by decide +kernel
theorem dX5_writeSpan_47 : decode cX5_writeSpan 47 = .ok (.aload_n 0, 1) := by decide +kernel
theorem dX5_writeSpan_48 : decode cX5_writeSpan 48 = .ok (.iload_n 1, 1) := by decide +kernel
theorem dX5_writeSpan_49 : decode cX5_writeSpan 49 = .ok (.iconst 2, 1) := by decide +kernel
theorem dX5_writeSpan_50 : decode cX5_writeSpan 50 = .ok (.invokevirtual 79, 3) := by decide +kernel
theorem dX5_writeSpan_53 : decode cX5_writeSpan 53 = .ok (.invokevirtual 255, 3) := by decide +kernel
theorem dX5_writeSpan_56 : decode cX5_writeSpan 56 = .ok (.aload_n 0, 1) := by decide +kernel
theorem dX5_writeSpan_57 : decode cX5_writeSpan 57 = .ok (.bipush 61, 2) := by decide +kernel
theorem dX5_writeSpan_59 : decode cX5_writeSpan 59 = .ok (.aload_n 0, 1) := by decide +kernel
theorem dX5_writeSpan_60 : decode cX5_writeSpan 60 = .ok (.iload_n 1, 1) := by decide +kernel
theorem dX5_writeSpan_61 : decode cX5_writeSpan 61 = .ok (.invokevirtual 96, 3) := by decide +kernel
theorem dX5_writeSpan_64 : decode cX5_writeSpan 64 = .ok (.invokevirtual 255, 3) := by decide +kernel
theorem dX5_writeSpan_67 : decode cX5_writeSpan 67 = .ok (.iconst 0, 1) := by decide +kernel
theorem dX5_writeSpan_68 : decode cX5_writeSpan 68 = .ok (.istore_n 2, 1) := by decide +kernel
theorem dX5_writeSpan_69 : decode cX5_writeSpan 69 = .ok (.iload_n 2, 1) := by decide +kernel
theorem dX5_writeSpan_70 : decode cX5_writeSpan 70 = .ok (.aload_n 0, 1) := by decide +kernel
theorem dX5_writeSpan_71 : decode cX5_writeSpan 71 = .ok (.iload_n 1, 1) := by decide +kernel
theorem dX5_writeSpan_72 : decode cX5_writeSpan 72 = .ok (.iconst 3, 1) := by decide +kernel
theorem dX5_writeSpan_73 : decode cX5_writeSpan 73 = .ok (.invokevirtual 79, 3) := by decide +kernel
theorem dX5_writeSpan_76 : decode cX5_writeSpan 76 = .ok (.if_icmp .ge 15, 3) := by decide +kernel
theorem dX5_writeSpan_79 : decode cX5_writeSpan 79 = .ok (.aload_n 0, 1) := by decide +kernel
theorem dX5_writeSpan_80 : decode cX5_writeSpan 80 = .ok (.bipush 47, 2) := by decide +kernel
theorem dX5_writeSpan_82 : decode cX5_writeSpan 82 = .ok (.invokevirtual 252, 3) := by decide +kernel
theorem dX5_writeSpan_85 : decode cX5_writeSpan 85 = .ok (.iinc 2 1, 3) := by decide +kernel
theorem dX5_writeSpan_88 : decode cX5_writeSpan 88 = .ok (.goto (-19), 3) := by decide +kernel
theorem dX5_writeSpan_91 : decode cX5_writeSpan 91 = .ok (.iconst 0, 1) := by decide +kernel
theorem dX5_writeSpan_92 : decode cX5_writeSpan 92 = .ok (.istore_n 2, 1) := by decide +kernel
theorem dX5_writeSpan_93 : decode cX5_writeSpan 93 = .ok (.iload_n 2, 1) := by decide +kernel
theorem dX5_writeSpan_94 : decode cX5_writeSpan 94 = .ok (.aload_n 0, 1) := by decide +kernel
theorem dX5_writeSpan_95 : decode cX5_writeSpan 95 = .ok (.getfield 7, 3) := by decide +kernel
theorem dX5_writeSpan_98 : decode cX5_writeSpan 98 = .ok (.iconst 1, 1) := by decide +kernel
theorem dX5_writeSpan_99 : decode cX5_writeSpan 99 = .ok (.iaload, 1) := by decide +kernel
theorem dX5_writeSpan_100 : decode cX5_writeSpan 100 = .ok (.if_icmp .ge 46, 3) := by decide +kernel
theorem dX5_writeSpan_103 : decode cX5_writeSpan 103 = .ok (.aload_n 0, 1) := by decide +kernel
theorem dX5_writeSpan_104 : decode cX5_writeSpan 104 = .ok (.iload_n 2, 1) := by decide +kernel
theorem dX5_writeSpan_105 : decode cX5_writeSpan 105 = .ok (.iconst 2, 1) := by decide +kernel
theorem dX5_writeSpan_106 : decode cX5_writeSpan 106 = .ok (.invokevirtual 89, 3) := by decide +kernel
theorem dX5_writeSpan_109 : decode cX5_writeSpan 109 = .ok (.iload_n 1, 1) := by decide +kernel
theorem dX5_writeSpan_110 : decode cX5_writeSpan 110 = .ok (.if_icmp .eq 6, 3) := by decide +kernel
theorem dX5_writeSpan_113 : decode cX5_writeSpan 113 = .ok (.goto 27, 3) := by decide +kernel
theorem dX5_writeSpan_116 : decode cX5_writeSpan 116 = .ok (.aload_n 0, 1) := by decide +kernel
theorem dX5_writeSpan_117 : decode cX5_writeSpan 117 = .ok (.bipush 32, 2) := by decide +kernel
theorem dX5_writeSpan_119 : decode cX5_writeSpan 119 = .ok (.aload_n 0, 1) := by decide +kernel
theorem dX5_writeSpan_120 : decode cX5_writeSpan 120 = .ok (.iload_n 2, 1) := by decide +kernel
theorem dX5_writeSpan_121 : decode cX5_writeSpan 121 = .ok (.iconst 0, 1) := by decide +kernel
theorem dX5_writeSpan_122 : decode cX5_writeSpan 122 = .ok (.invokevirtual 89, 3) := by decide +kernel
theorem dX5_writeSpan_125 : decode cX5_writeSpan 125 = .ok (.invokevirtual 255, 3) := by decide +kernel
theorem dX5_writeSpan_128 : decode cX5_writeSpan 128 = .ok (.aload_n 0, 1) := by decide +kernel
theorem dX5_writeSpan_129 : decode cX5_writeSpan 129 = .ok (.bipush 119, 2) := by decide +kernel
theorem dX5_writeSpan_131 : decode cX5_writeSpan 131 = .ok (.aload_n 0, 1) := by decide +kernel
theorem dX5_writeSpan_132 : decode cX5_writeSpan 132 = .ok (.iload_n 2, 1) := by decide +kernel
theorem dX5_writeSpan_133 : decode cX5_writeSpan 133 = .ok (.iconst 1, 1) := by decide +kernel
theorem dX5_writeSpan_134 : decode cX5_writeSpan 134 = .ok (.invokevirtual 89, 3) := by decide +kernel
theorem dX5_writeSpan_137 : decode cX5_writeSpan 137 = .ok (.invokevirtual 255, 3) := by decide +kernel
theorem dX5_writeSpan_140 : decode cX5_writeSpan 140 = .ok (.iinc 2 1, 3) := by decide +kernel
theorem dX5_writeSpan_143 : decode cX5_writeSpan 143 = .ok (.goto (-50), 3) := by decide +kernel
theorem dX5_writeSpan_146 : decode cX5_writeSpan 146 = .ok (.aload_n 0, 1) := by decide +kernel
theorem dX5_writeSpan_147 : decode cX5_writeSpan 147 = .ok (.getfield 246, 3) := by decide +kernel
theorem dX5_writeSpan_150 : decode cX5_writeSpan 150 = .ok (.ireturn, 1) := by decide +kernel
theorem dX5_writeBridge_0 : decode cX5_writeBridge 0 = .ok (.aload_n 0, 1) := by decide +kernel
theorem dX5_writeBridge_1 : decode cX5_writeBridge 1 = .ok (.iconst 0, 1) := by decide +kernel
theorem dX5_writeBridge_2 : decode cX5_writeBridge 2 = .ok (.putfield 42, 3) := by decide +kernel
theorem dX5_writeBridge_5 : decode cX5_writeBridge 5 = .ok (.aload_n 0, 1) := by decide +kernel
theorem dX5_writeBridge_6 : decode cX5_writeBridge 6 = .ok (.iconst 0, 1) := by decide +kernel
theorem dX5_writeBridge_7 : decode cX5_writeBridge 7 = .ok (.putfield 246, 3) := by decide +kernel
theorem dX5_writeBridge_10 : decode cX5_writeBridge 10 = .ok (.iconst 0, 1) := by decide +kernel
theorem dX5_writeBridge_11 : decode cX5_writeBridge 11 = .ok (.istore_n 1, 1) := by decide +kernel
theorem dX5_writeBridge_12 : decode cX5_writeBridge 12 = .ok (.iload_n 1, 1) := by decide +kernel
theorem dX5_writeBridge_13 : decode cX5_writeBridge 13 = .ok (.aload_n 0, 1) := by decide +kernel
theorem dX5_writeBridge_14 : decode cX5_writeBridge 14 = .ok (.getfield 7, 3) := by decide +kernel
theorem dX5_writeBridge_17 : decode cX5_writeBridge 17 = .ok (.iconst 0, 1) := by decide +kernel
theorem dX5_writeBridge_18 : decode cX5_writeBridge 18 = .ok (.iaload, 1) := by decide +kernel
theorem dX5_writeBridge_19 : decode cX5_writeBridge 19 = .ok (.if_icmp .ge 42, 3) := by decide +kernel
theorem dX5_writeBridge_22 : decode cX5_writeBridge 22 = .ok (.iload_n 1, 1) := by decide +kernel
theorem dX5_writeBridge_23 : decode cX5_writeBridge 23 = .ok (.ifCond .le 9, 3) := by decide +kernel
theorem dX5_writeBridge_26 : decode cX5_writeBridge 26 = .ok (.aload_n 0, 1) := by decide +kernel
theorem dX5_writeBridge_27 : decode cX5_writeBridge 27 = .ok (.bipush 124, 2) := by decide +kernel
theorem dX5_writeBridge_29 : decode cX5_writeBridge 29 = .ok (.invokevirtual 252, 3) := by decide +kernel
theorem dX5_writeBridge_32 : decode cX5_writeBridge 32 = .ok (.aload_n 0, 1) := by decide +kernel
theorem dX5_writeBridge_33 : decode cX5_writeBridge 33 = .ok (.aload_n 0, 1) := by decide +kernel
theorem dX5_writeBridge_34 : decode cX5_writeBridge 34 = .ok (.iload_n 1, 1) := by decide +kernel
theorem dX5_writeBridge_35 : decode cX5_writeBridge 35 = .ok (.invokevirtual 92, 3) := by decide +kernel
theorem dX5_writeBridge_38 : decode cX5_writeBridge 38 = .ok (.invokevirtual 249, 3) := by decide +kernel
theorem dX5_writeBridge_41 : decode cX5_writeBridge 41 = .ok (.aload_n 0, 1) := by decide +kernel
theorem dX5_writeBridge_42 : decode cX5_writeBridge 42 = .ok (.iload_n 1, 1) := by decide +kernel
theorem dX5_writeBridge_43 : decode cX5_writeBridge 43 = .ok (.invokevirtual 114, 3) := by decide +kernel
theorem dX5_writeBridge_46 : decode cX5_writeBridge 46 = .ok (.ifCond .eq 9, 3) := by decide +kernel
theorem dX5_writeBridge_49 : decode cX5_writeBridge 49 = .ok (.aload_n 0, 1) := by decide +kernel
theorem dX5_writeBridge_50 : decode cX5_writeBridge 50 = .ok (.bipush 33, 2) := by decide +kernel
theorem dX5_writeBridge_52 : decode cX5_writeBridge 52 = .ok (.invokevirtual 252, 3) := by decide +kernel
theorem dX5_writeBridge_55 : decode cX5_writeBridge 55 = .ok (.iinc 1 1, 3) := by decide +kernel
theorem dX5_writeBridge_58 : decode cX5_writeBridge 58 = .ok (.goto (-46), 3) := by decide +kernel
theorem dX5_writeBridge_61 : decode cX5_writeBridge 61 = .ok (.aload_n 0, 1) := by decide +kernel
theorem dX5_writeBridge_62 : decode cX5_writeBridge 62 = .ok (.getfield 246, 3) := by decide +kernel
theorem dX5_writeBridge_65 : decode cX5_writeBridge 65 = .ok (.ireturn, 1) := by decide +kernel
theorem dX5_lineCharacter_0 : decode cX5_lineCharacter 0 = .ok (.aload_n 0, 1) := by decide +kernel
theorem dX5_lineCharacter_1 : decode cX5_lineCharacter 1 = .ok (.iload_n 1, 1) := by decide +kernel
theorem dX5_lineCharacter_2 : decode cX5_lineCharacter 2 = .ok (.iconst 0, 1) := by decide +kernel
theorem dX5_lineCharacter_3 : decode cX5_lineCharacter 3 = .ok (.aload_n 0, 1) := by decide +kernel
theorem dX5_lineCharacter_4 : decode cX5_lineCharacter 4 = .ok (.getfield 246, 3) := by decide +kernel
theorem dX5_lineCharacter_7 : decode cX5_lineCharacter 7 = .ok (.iconst 1, 1) := by decide +kernel
theorem dX5_lineCharacter_8 : decode cX5_lineCharacter 8 = .ok (.isub, 1) := by decide +kernel
theorem dX5_lineCharacter_9 : decode cX5_lineCharacter 9 = .ok (.invokestatic 68, 3) := by decide +kernel
theorem dX5_lineCharacter_12 : decode cX5_lineCharacter 12 = .ok (.ifCond .eq 7, 3) := by decide +kernel
theorem dX5_lineCharacter_15 : decode cX5_lineCharacter 15 = .ok (.iconst 0, 1) := by decide +kernel
theorem dX5_lineCharacter_16 : decode cX5_lineCharacter 16 = .ok (.goto 4, 3) := by decide +kernel
theorem dX5_lineCharacter_19 : decode cX5_lineCharacter 19 = .ok (.iconst 1, 1) := by decide +kernel
theorem dX5_lineCharacter_20 : decode cX5_lineCharacter 20 = .ok (.invokevirtual 76, 3) := by decide +kernel
theorem dX5_lineCharacter_23 : decode cX5_lineCharacter 23 = .ok (.ifCond .eq 8, 3) := by decide +kernel
theorem dX5_lineCharacter_26 : decode cX5_lineCharacter 26 = .ok (.bipush 32, 2) := by decide +kernel
theorem dX5_lineCharacter_28 : decode cX5_lineCharacter 28 = .ok (.goto 9, 3) := by decide +kernel
theorem dX5_lineCharacter_31 : decode cX5_lineCharacter 31 = .ok (.aload_n 0, 1) := by decide +kernel
theorem dX5_lineCharacter_32 : decode cX5_lineCharacter 32 = .ok (.getfield 35, 3) := by decide +kernel
theorem dX5_lineCharacter_35 : decode cX5_lineCharacter 35 = .ok (.iload_n 1, 1) := by decide +kernel
theorem dX5_lineCharacter_36 : decode cX5_lineCharacter 36 = .ok (.caload, 1) := by decide +kernel
theorem dX5_lineCharacter_37 : decode cX5_lineCharacter 37 = .ok (.ireturn, 1) := by decide +kernel
theorem dX5_denial_0 : decode cX5_denial 0 = .ok (.aload_n 0, 1) := by decide +kernel
theorem dX5_denial_1 : decode cX5_denial 1 = .ok (.aload_n 0, 1) := by decide +kernel
theorem dX5_denial_2 : decode cX5_denial 2 = .ok (.getfield 49, 3) := by decide +kernel
theorem dX5_denial_5 : decode cX5_denial 5 = .ok (.ifCond .ne 7, 3) := by decide +kernel
theorem dX5_denial_8 : decode cX5_denial 8 = .ok (.iconst 1, 1) := by decide +kernel
theorem dX5_denial_9 : decode cX5_denial 9 = .ok (.goto 4, 3) := by decide +kernel
theorem dX5_denial_12 : decode cX5_denial 12 = .ok (.iconst 0, 1) := by decide +kernel
theorem dX5_denial_13 : decode cX5_denial 13 = .ok (.invokevirtual 76, 3) := by decide +kernel
theorem dX5_denial_16 : decode cX5_denial 16 = .ok (.ifCond .eq 7, 3) := by decide +kernel
theorem dX5_denial_19 : decode cX5_denial 19 = .ok (.iconst 0, 1) := by decide +kernel
theorem dX5_denial_20 : decode cX5_denial 20 = .ok (.goto 7, 3) := by decide +kernel
theorem dX5_denial_23 : decode cX5_denial 23 = .ok (.aload_n 0, 1) := by decide +kernel
theorem dX5_denial_24 : decode cX5_denial 24 = .ok (.getfield 49, 3) := by decide +kernel
theorem dX5_denial_27 : decode cX5_denial 27 = .ok (.ireturn, 1) := by decide +kernel
theorem dX5_denialDetail_0 : decode cX5_denialDetail 0 = .ok (.aload_n 0, 1) := by decide +kernel
theorem dX5_denialDetail_1 : decode cX5_denialDetail 1 = .ok (.aload_n 0, 1) := by decide +kernel
theorem dX5_denialDetail_2 : decode cX5_denialDetail 2 = .ok (.getfield 49, 3) := by decide +kernel
theorem dX5_denialDetail_5 : decode cX5_denialDetail 5 = .ok (.ifCond .ne 7, 3) := by decide +kernel
theorem dX5_denialDetail_8 : decode cX5_denialDetail 8 = .ok (.iconst 1, 1) := by decide +kernel
theorem dX5_denialDetail_9 : decode cX5_denialDetail 9 = .ok (.goto 4, 3) := by decide +kernel
theorem dX5_denialDetail_12 : decode cX5_denialDetail 12 = .ok (.iconst 0, 1) := by decide +kernel
theorem dX5_denialDetail_13 : decode cX5_denialDetail 13 = .ok (.invokevirtual 76, 3) := by decide +kernel
theorem dX5_denialDetail_16 : decode cX5_denialDetail 16 = .ok (.ifCond .eq 7, 3) := by decide +kernel
theorem dX5_denialDetail_19 : decode cX5_denialDetail 19 = .ok (.iconst 0, 1) := by decide +kernel
theorem dX5_denialDetail_20 : decode cX5_denialDetail 20 = .ok (.goto 7, 3) := by decide +kernel
theorem dX5_denialDetail_23 : decode cX5_denialDetail 23 = .ok (.aload_n 0, 1) := by decide +kernel
theorem dX5_denialDetail_24 : decode cX5_denialDetail 24 = .ok (.getfield 52, 3) := by decide +kernel
theorem dX5_denialDetail_27 : decode cX5_denialDetail 27 = .ok (.ireturn, 1) := by decide +kernel
theorem dX5_denialCause_0 : decode cX5_denialCause 0 = .ok (.aload_n 0, 1) := by decide +kernel
theorem dX5_denialCause_1 : decode cX5_denialCause 1 = .ok (.aload_n 0, 1) := by decide +kernel
theorem dX5_denialCause_2 : decode cX5_denialCause 2 = .ok (.getfield 55, 3) := by decide +kernel
theorem dX5_denialCause_5 : decode cX5_denialCause 5 = .ok (.ifCond .ne 7, 3) := by decide +kernel
theorem dX5_denialCause_8 : decode cX5_denialCause 8 = .ok (.iconst 1, 1) := by decide +kernel
theorem dX5_denialCause_9 : decode cX5_denialCause 9 = .ok (.goto 4, 3) := by decide +kernel
theorem dX5_denialCause_12 : decode cX5_denialCause 12 = .ok (.iconst 0, 1) := by decide +kernel
theorem dX5_denialCause_13 : decode cX5_denialCause 13 = .ok (.invokevirtual 76, 3) := by decide +kernel
theorem dX5_denialCause_16 : decode cX5_denialCause 16 = .ok (.ifCond .eq 7, 3) := by decide +kernel
theorem dX5_denialCause_19 : decode cX5_denialCause 19 = .ok (.iconst 0, 1) := by decide +kernel
theorem dX5_denialCause_20 : decode cX5_denialCause 20 = .ok (.goto 7, 3) := by decide +kernel
theorem dX5_denialCause_23 : decode cX5_denialCause 23 = .ok (.aload_n 0, 1) := by decide +kernel
theorem dX5_denialCause_24 : decode cX5_denialCause 24 = .ok (.getfield 55, 3) := by decide +kernel
theorem dX5_denialCause_27 : decode cX5_denialCause 27 = .ok (.ireturn, 1) := by decide +kernel
theorem dX5_undo_0 : decode cX5_undo 0 = .ok (.aload_n 0, 1) := by decide +kernel
theorem dX5_undo_1 : decode cX5_undo 1 = .ok (.aload_n 0, 1) := by decide +kernel
theorem dX5_undo_2 : decode cX5_undo 2 = .ok (.getfield 61, 3) := by decide +kernel
theorem dX5_undo_5 : decode cX5_undo 5 = .ok (.ifCond .ne 7, 3) := by decide +kernel
theorem dX5_undo_8 : decode cX5_undo 8 = .ok (.iconst 1, 1) := by decide +kernel
theorem dX5_undo_9 : decode cX5_undo 9 = .ok (.goto 4, 3) := by decide +kernel
theorem dX5_undo_12 : decode cX5_undo 12 = .ok (.iconst 0, 1) := by decide +kernel
theorem dX5_undo_13 : decode cX5_undo 13 = .ok (.invokevirtual 76, 3) := by decide +kernel
theorem dX5_undo_16 : decode cX5_undo 16 = .ok (.ifCond .eq 5, 3) := by decide +kernel
theorem dX5_undo_19 : decode cX5_undo 19 = .ok (.iconst 0, 1) := by decide +kernel
theorem dX5_undo_20 : decode cX5_undo 20 = .ok (.ireturn, 1) := by decide +kernel
theorem dX5_undo_21 : decode cX5_undo 21 = .ok (.aload_n 0, 1) := by decide +kernel
theorem dX5_undo_22 : decode cX5_undo 22 = .ok (.dup, 1) := by decide +kernel
theorem dX5_undo_23 : decode cX5_undo 23 = .ok (.getfield 61, 3) := by decide +kernel
theorem dX5_undo_26 : decode cX5_undo 26 = .ok (.iconst 1, 1) := by decide +kernel
theorem dX5_undo_27 : decode cX5_undo 27 = .ok (.isub, 1) := by decide +kernel
theorem dX5_undo_28 : decode cX5_undo 28 = .ok (.putfield 61, 3) := by decide +kernel
theorem dX5_undo_31 : decode cX5_undo 31 = .ok (.aload_n 0, 1) := by decide +kernel
theorem dX5_undo_32 : decode cX5_undo 32 = .ok (.getfield 13, 3) := by decide +kernel
theorem dX5_undo_35 : decode cX5_undo 35 = .ok (.bipush 83, 2) := by decide +kernel
theorem dX5_undo_37 : decode cX5_undo 37 = .ok (.aload_n 0, 1) := by decide +kernel
theorem dX5_undo_38 : decode cX5_undo 38 = .ok (.getfield 61, 3) := by decide +kernel
theorem dX5_undo_41 : decode cX5_undo 41 = .ok (.imul, 1) := by decide +kernel
theorem dX5_undo_42 : decode cX5_undo 42 = .ok (.aload_n 0, 1) := by decide +kernel
theorem dX5_undo_43 : decode cX5_undo 43 = .ok (.getfield 7, 3) := by decide +kernel
theorem dX5_undo_46 : decode cX5_undo 46 = .ok (.iconst 0, 1) := by decide +kernel
theorem dX5_undo_47 : decode cX5_undo 47 = .ok (.invokestatic 64, 3) := by decide +kernel
theorem dX5_undo_50 : decode cX5_undo 50 = .ok (.aload_n 0, 1) := by decide +kernel
theorem dX5_undo_51 : decode cX5_undo 51 = .ok (.getfield 61, 3) := by decide +kernel
theorem dX5_undo_54 : decode cX5_undo 54 = .ok (.ireturn, 1) := by decide +kernel
theorem dX5_undoCount_0 : decode cX5_undoCount 0 = .ok (.aload_n 0, 1) := by decide +kernel
theorem dX5_undoCount_1 : decode cX5_undoCount 1 = .ok (.iconst 0, 1) := by decide +kernel
theorem dX5_undoCount_2 : decode cX5_undoCount 2 = .ok (.putfield 42, 3) := by decide +kernel
theorem dX5_undoCount_5 : decode cX5_undoCount 5 = .ok (.aload_n 0, 1) := by decide +kernel
theorem dX5_undoCount_6 : decode cX5_undoCount 6 = .ok (.getfield 61, 3) := by decide +kernel
theorem dX5_undoCount_9 : decode cX5_undoCount 9 = .ok (.ireturn, 1) := by decide +kernel
theorem dX5_saveSnapshot_0 : decode cX5_saveSnapshot 0 = .ok (.aload_n 0, 1) := by decide +kernel
theorem dX5_saveSnapshot_1 : decode cX5_saveSnapshot 1 = .ok (.iconst 0, 1) := by decide +kernel
theorem dX5_saveSnapshot_2 : decode cX5_saveSnapshot 2 = .ok (.putfield 42, 3) := by decide +kernel
theorem dX5_saveSnapshot_5 : decode cX5_saveSnapshot 5 = .ok (.aload_n 0, 1) := by decide +kernel
theorem dX5_saveSnapshot_6 : decode cX5_saveSnapshot 6 = .ok (.iconst 1, 1) := by decide +kernel
theorem dX5_saveSnapshot_7 : decode cX5_saveSnapshot 7 = .ok (.putfield 259, 3) := by decide +kernel
theorem dX5_saveSnapshot_10 : decode cX5_saveSnapshot 10 = .ok (.aload_n 0, 1) := by decide +kernel
theorem dX5_saveSnapshot_11 : decode cX5_saveSnapshot 11 = .ok (.getfield 7, 3) := by decide +kernel
theorem dX5_saveSnapshot_14 : decode cX5_saveSnapshot 14 = .ok (.iconst 0, 1) := by decide +kernel
theorem dX5_saveSnapshot_15 : decode cX5_saveSnapshot 15 = .ok (.aload_n 0, 1) := by decide +kernel
theorem dX5_saveSnapshot_16 : decode cX5_saveSnapshot 16 = .ok (.getfield 16, 3) := by decide +kernel
theorem dX5_saveSnapshot_19 : decode cX5_saveSnapshot 19 = .ok (.iconst 0, 1) := by decide +kernel
theorem dX5_saveSnapshot_20 : decode cX5_saveSnapshot 20 = .ok (.invokestatic 64, 3) := by decide +kernel
theorem dX5_saveSnapshot_23 : decode cX5_saveSnapshot 23 = .ok (.aload_n 0, 1) := by decide +kernel
theorem dX5_saveSnapshot_24 : decode cX5_saveSnapshot 24 = .ok (.getfield 7, 3) := by decide +kernel
theorem dX5_saveSnapshot_27 : decode cX5_saveSnapshot 27 = .ok (.iconst 0, 1) := by decide +kernel
theorem dX5_saveSnapshot_28 : decode cX5_saveSnapshot 28 = .ok (.iaload, 1) := by decide +kernel
theorem dX5_saveSnapshot_29 : decode cX5_saveSnapshot 29 = .ok (.ireturn, 1) := by decide +kernel
theorem dX5_restoreSnapshot_0 : decode cX5_restoreSnapshot 0 = .ok (.aload_n 0, 1) := by decide +kernel
theorem dX5_restoreSnapshot_1 : decode cX5_restoreSnapshot 1 = .ok (.aload_n 0, 1) := by decide +kernel
theorem dX5_restoreSnapshot_2 : decode cX5_restoreSnapshot 2 = .ok (.getfield 259, 3) := by decide +kernel
theorem dX5_restoreSnapshot_5 : decode cX5_restoreSnapshot 5 = .ok (.ifCond .eq 7, 3) := by decide +kernel
theorem dX5_restoreSnapshot_8 : decode cX5_restoreSnapshot 8 = .ok (.iconst 0, 1) := by decide +kernel
theorem dX5_restoreSnapshot_9 : decode cX5_restoreSnapshot 9 = .ok (.goto 4, 3) := by decide +kernel
theorem dX5_restoreSnapshot_12 : decode cX5_restoreSnapshot 12 = .ok (.iconst 1, 1) := by decide +kernel
theorem dX5_restoreSnapshot_13 : decode cX5_restoreSnapshot 13 = .ok (.invokevirtual 76, 3) := by decide +kernel
theorem dX5_restoreSnapshot_16 : decode cX5_restoreSnapshot 16 = .ok (.ifCond .eq 5, 3) := by decide +kernel
theorem dX5_restoreSnapshot_19 : decode cX5_restoreSnapshot 19 = .ok (.iconst 0, 1) := by decide +kernel
theorem dX5_restoreSnapshot_20 : decode cX5_restoreSnapshot 20 = .ok (.ireturn, 1) := by decide +kernel
theorem dX5_restoreSnapshot_21 : decode cX5_restoreSnapshot 21 = .ok (.aload_n 0, 1) := by decide +kernel
theorem dX5_restoreSnapshot_22 : decode cX5_restoreSnapshot 22 = .ok (.getfield 16, 3) := by decide +kernel
theorem dX5_restoreSnapshot_25 : decode cX5_restoreSnapshot 25 = .ok (.iconst 0, 1) := by decide +kernel
theorem dX5_restoreSnapshot_26 : decode cX5_restoreSnapshot 26 = .ok (.aload_n 0, 1) := by decide +kernel
theorem dX5_restoreSnapshot_27 : decode cX5_restoreSnapshot 27 = .ok (.getfield 7, 3) := by decide +kernel
theorem dX5_restoreSnapshot_30 : decode cX5_restoreSnapshot 30 = .ok (.iconst 0, 1) := by decide +kernel
theorem dX5_restoreSnapshot_31 : decode cX5_restoreSnapshot 31 = .ok (.invokestatic 64, 3) := by decide +kernel
theorem dX5_restoreSnapshot_34 : decode cX5_restoreSnapshot 34 = .ok (.aload_n 0, 1) := by decide +kernel
theorem dX5_restoreSnapshot_35 : decode cX5_restoreSnapshot 35 = .ok (.iconst 0, 1) := by decide +kernel
theorem dX5_restoreSnapshot_36 : decode cX5_restoreSnapshot 36 = .ok (.putfield 61, 3) := by decide +kernel
theorem dX5_restoreSnapshot_39 : decode cX5_restoreSnapshot 39 = .ok (.aload_n 0, 1) := by decide +kernel
theorem dX5_restoreSnapshot_40 : decode cX5_restoreSnapshot 40 = .ok (.getfield 7, 3) := by decide +kernel
theorem dX5_restoreSnapshot_43 : decode cX5_restoreSnapshot 43 = .ok (.iconst 0, 1) := by decide +kernel
theorem dX5_restoreSnapshot_44 : decode cX5_restoreSnapshot 44 = .ok (.iaload, 1) := by decide +kernel
theorem dX5_restoreSnapshot_45 : decode cX5_restoreSnapshot 45 = .ok (.ireturn, 1) := by decide +kernel
