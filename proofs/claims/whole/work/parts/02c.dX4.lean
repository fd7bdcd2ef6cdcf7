theorem dX4_init_0 : decode cX4_init 0 = .ok (.aload_n 0, 1) := by decide +kernel
theorem dX4_init_1 : decode cX4_init 1 = .ok (.invokespecial 1, 3) := by decide +kernel
theorem dX4_init_4 : decode cX4_init 4 = .ok (.aload_n 0, 1) := by decide +kernel
theorem dX4_init_5 : decode cX4_init 5 = .ok (.new 7, 3) := by decide +kernel
theorem dX4_init_8 : decode cX4_init 8 = .ok (.dup, 1) := by decide +kernel
theorem dX4_init_9 : decode cX4_init 9 = .ok (.invokespecial 9, 3) := by decide +kernel
theorem dX4_init_12 : decode cX4_init 12 = .ok (.putfield 10, 3) := by decide +kernel
theorem dX4_init_15 : decode cX4_init 15 = .ok (.aload_n 0, 1) := by decide +kernel
theorem dX4_init_16 : decode cX4_init 16 = .ok (.new 7, 3) := by decide +kernel
theorem dX4_init_19 : decode cX4_init 19 = .ok (.dup, 1) := by decide +kernel
theorem dX4_init_20 : decode cX4_init 20 = .ok (.invokespecial 9, 3) := by decide +kernel
theorem dX4_init_23 : decode cX4_init 23 = .ok (.putfield 16, 3) := by decide +kernel
theorem dX4_init_26 : decode cX4_init 26 = .ok (.aload_n 0, 1) := by decide +kernel
theorem dX4_init_27 : decode cX4_init 27 = .ok (.new 7, 3) := by decide +kernel
theorem dX4_init_30 : decode cX4_init 30 = .ok (.dup, 1) := by decide +kernel
theorem dX4_init_31 : decode cX4_init 31 = .ok (.invokespecial 9, 3) := by decide +kernel
theorem dX4_init_34 : decode cX4_init 34 = .ok (.putfield 19, 3) := by decide +kernel
theorem dX4_init_37 : decode cX4_init 37 = .ok (.aload_n 0, 1) := by decide +kernel
theorem dX4_init_38 : decode cX4_init 38 = .ok (.new 22, 3) := by decide +kernel
theorem dX4_init_41 : decode cX4_init 41 = .ok (.dup, 1) := by decide +kernel
theorem dX4_init_42 : decode cX4_init 42 = .ok (.invokespecial 24, 3) := by decide +kernel
theorem dX4_init_45 : decode cX4_init 45 = .ok (.putfield 25, 3) := by decide +kernel
theorem dX4_init_48 : decode cX4_init 48 = .ok (.aload_n 0, 1) := by decide +kernel
theorem dX4_init_49 : decode cX4_init 49 = .ok (.new 29, 3) := by decide +kernel
theorem dX4_init_52 : decode cX4_init 52 = .ok (.dup, 1) := by decide +kernel
theorem dX4_init_53 : decode cX4_init 53 = .ok (.invokespecial 31, 3) := by decide +kernel
theorem dX4_init_56 : decode cX4_init 56 = .ok (.putfield 32, 3) := by decide +kernel
theorem dX4_init_59 : decode cX4_init 59 = .ok (.aload_n 0, 1) := by decide +kernel
theorem dX4_init_60 : decode cX4_init 60 = .ok (.new 36, 3) := by decide +kernel
theorem dX4_init_63 : decode cX4_init 63 = .ok (.dup, 1) := by decide +kernel
theorem dX4_init_64 : decode cX4_init 64 = .ok (.invokespecial 38, 3) := by decide +kernel
theorem dX4_init_67 : decode cX4_init 67 = .ok (.putfield 39, 3) := by decide +kernel
theorem dX4_init_70 : decode cX4_init 70 = .ok (.aload_n 0, 1) := by decide +kernel
theorem dX4_init_71 : decode cX4_init 71 = .ok (.new 43, 3) := by decide +kernel
theorem dX4_init_74 : decode cX4_init 74 = .ok (.dup, 1) := by decide +kernel
theorem dX4_init_75 : decode cX4_init 75 = .ok (.invokespecial 45, 3) := by decide +kernel
theorem dX4_init_78 : decode cX4_init 78 = .ok (.putfield 46, 3) := by decide +kernel
theorem dX4_init_81 : decode cX4_init 81 = .ok (.aload_n 0, 1) := by decide +kernel
theorem dX4_init_82 : decode cX4_init 82 = .ok (.iconst 0, 1) := by decide +kernel
theorem dX4_init_83 : decode cX4_init 83 = .ok (.putfield 50, 3) := by decide +kernel
theorem dX4_init_86 : decode cX4_init 86 = .ok (.aload_n 0, 1) := by decide +kernel
theorem dX4_init_87 : decode cX4_init 87 = .ok (.iconst (-1), 1) := by decide +kernel
theorem dX4_init_88 : decode cX4_init 88 = .ok (.putfield 54, 3) := by decide +kernel
theorem dX4_init_91 : decode cX4_init 91 = .ok (.aload_n 0, 1) := by decide +kernel
theorem dX4_init_92 : decode cX4_init 92 = .ok (.iconst 0, 1) := by decide +kernel
theorem dX4_init_93 : decode cX4_init 93 = .ok (.putfield 58, 3) := by decide +kernel
theorem dX4_init_96 : decode cX4_init 96 = .ok (.aload_n 0, 1) := by decide +kernel
theorem dX4_init_97 : decode cX4_init 97 = .ok (.iconst 0, 1) := by decide +kernel
theorem dX4_init_98 : decode cX4_init 98 = .ok (.putfield 61, 3) := by decide +kernel
theorem dX4_init_101 : decode cX4_init 101 = .ok (.aload_n 0, 1) := by decide +kernel
theorem dX4_init_102 : decode cX4_init 102 = .ok (.iconst 0, 1) := by decide +kernel
theorem dX4_init_103 : decode cX4_init 103 = .ok (.putfield 64, 3) := by decide +kernel
theorem dX4_init_106 : decode cX4_init 106 = .ok (.return_, 1) := by decide +kernel
theorem dX4_addSpan_0 : decode cX4_addSpan 0 = .ok (.aload_n 0, 1) := by decide +kernel
theorem dX4_addSpan_1 : decode cX4_addSpan 1 = .ok (.iconst 0, 1) := by decide +kernel
theorem dX4_addSpan_2 : decode cX4_addSpan 2 = .ok (.iload_n 1, 1) := by decide +kernel
theorem dX4_addSpan_3 : decode cX4_addSpan 3 = .ok (.iconst 0, 1) := by decide +kernel
theorem dX4_addSpan_4 : decode cX4_addSpan 4 = .ok (.invokevirtual 67, 3) := by decide +kernel
theorem dX4_addSpan_7 : decode cX4_addSpan 7 = .ok (.aload_n 0, 1) := by decide +kernel
theorem dX4_addSpan_8 : decode cX4_addSpan 8 = .ok (.getfield 10, 3) := by decide +kernel
theorem dX4_addSpan_11 : decode cX4_addSpan 11 = .ok (.iload_n 1, 1) := by decide +kernel
theorem dX4_addSpan_12 : decode cX4_addSpan 12 = .ok (.invokevirtual 71, 3) := by decide +kernel
theorem dX4_addSpan_15 : decode cX4_addSpan 15 = .ok (.ireturn, 1) := by decide +kernel
theorem dX4_removeLastSpan_0 : decode cX4_removeLastSpan 0 = .ok (.aload_n 0, 1) := by decide +kernel
theorem dX4_removeLastSpan_1 : decode cX4_removeLastSpan 1 = .ok (.bipush 6, 2) := by decide +kernel
theorem dX4_removeLastSpan_3 : decode cX4_removeLastSpan 3 = .ok (.iconst 0, 1) := by decide +kernel
theorem dX4_removeLastSpan_4 : decode cX4_removeLastSpan 4 = .ok (.iconst 0, 1) := by decide +kernel
theorem dX4_removeLastSpan_5 : decode cX4_removeLastSpan 5 = .ok (.invokevirtual 67, 3) := by decide +kernel
theorem dX4_removeLastSpan_8 : decode cX4_removeLastSpan 8 = .ok (.aload_n 0, 1) := by decide +kernel
theorem dX4_removeLastSpan_9 : decode cX4_removeLastSpan 9 = .ok (.getfield 10, 3) := by decide +kernel
theorem dX4_removeLastSpan_12 : decode cX4_removeLastSpan 12 = .ok (.invokevirtual 75, 3) := by decide +kernel
theorem dX4_removeLastSpan_15 : decode cX4_removeLastSpan 15 = .ok (.ireturn, 1) := by decide +kernel
theorem dX4_pour_0 : decode cX4_pour 0 = .ok (.aload_n 0, 1) := by decide +kernel
theorem dX4_pour_1 : decode cX4_pour 1 = .ok (.iconst 1, 1) := by decide +kernel
theorem dX4_pour_2 : decode cX4_pour 2 = .ok (.iload_n 1, 1) := by decide +kernel
theorem dX4_pour_3 : decode cX4_pour 3 = .ok (.iload_n 2, 1) := by decide +kernel
theorem dX4_pour_4 : decode cX4_pour 4 = .ok (.invokevirtual 67, 3) := by decide +kernel
theorem dX4_pour_7 : decode cX4_pour 7 = .ok (.aload_n 0, 1) := by decide +kernel
theorem dX4_pour_8 : decode cX4_pour 8 = .ok (.getfield 10, 3) := by decide +kernel
theorem dX4_pour_11 : decode cX4_pour 11 = .ok (.iload_n 1, 1) := by decide +kernel
theorem dX4_pour_12 : decode cX4_pour 12 = .ok (.iload_n 2, 1) := by decide +kernel
theorem dX4_pour_13 : decode cX4_pour 13 = .ok (.invokevirtual 79, 3) := by decide +kernel
theorem dX4_pour_16 : decode cX4_pour 16 = .ok (.ireturn, 1) := by decide +kernel
theorem dX4_mend_0 : decode cX4_mend 0 = .ok (.aload_n 0, 1) := by decide +kernel
theorem dX4_mend_1 : decode cX4_mend 1 = .ok (.iconst 3, 1) := by decide +kernel
theorem dX4_mend_2 : decode cX4_mend 2 = .ok (.iload_n 1, 1) := by decide +kernel
theorem dX4_mend_3 : decode cX4_mend 3 = .ok (.iload_n 2, 1) := by decide +kernel
theorem dX4_mend_4 : decode cX4_mend 4 = .ok (.invokevirtual 67, 3) := by decide +kernel
theorem dX4_mend_7 : decode cX4_mend 7 = .ok (.aload_n 0, 1) := by decide +kernel
theorem dX4_mend_8 : decode cX4_mend 8 = .ok (.getfield 10, 3) := by decide +kernel
theorem dX4_mend_11 : decode cX4_mend 11 = .ok (.iload_n 1, 1) := by decide +kernel
theorem dX4_mend_12 : decode cX4_mend 12 = .ok (.iload_n 2, 1) := by decide +kernel
theorem dX4_mend_13 : decode cX4_mend 13 = .ok (.invokevirtual 83, 3) := by decide +kernel
theorem dX4_mend_16 : decode cX4_mend 16 = .ok (.ireturn, 1) := by decide +kernel
theorem dX4_spanCount_0 : decode cX4_spanCount 0 = .ok (.aload_n 0, 1) := by decide +kernel
theorem dX4_spanCount_1 : decode cX4_spanCount 1 = .ok (.getfield 10, 3) := by decide +kernel
theorem dX4_spanCount_4 : decode cX4_spanCount 4 = .ok (.getfield 86, 3) := by decide +kernel
theorem dX4_spanCount_7 : decode cX4_spanCount 7 = .ok (.ireturn, 1) := by decide +kernel
theorem dX4_jars_0 : decode cX4_jars 0 = .ok (.aload_n 0, 1) := by decide +kernel
theorem dX4_jars_1 : decode cX4_jars 1 = .ok (.iload_n 1, 1) := by decide +kernel
theorem dX4_jars_2 : decode cX4_jars 2 = .ok (.invokevirtual 89, 3) := by decide +kernel
theorem dX4_jars_5 : decode cX4_jars 5 = .ok (.aload_n 0, 1) := by decide +kernel
theorem dX4_jars_6 : decode cX4_jars 6 = .ok (.getfield 10, 3) := by decide +kernel
theorem dX4_jars_9 : decode cX4_jars 9 = .ok (.getfield 93, 3) := by decide +kernel
theorem dX4_jars_12 : decode cX4_jars 12 = .ok (.iload_n 1, 1) := by decide +kernel
theorem dX4_jars_13 : decode cX4_jars 13 = .ok (.iaload, 1) := by decide +kernel
theorem dX4_jars_14 : decode cX4_jars 14 = .ok (.ireturn, 1) := by decide +kernel
theorem dX4_age_0 : decode cX4_age 0 = .ok (.aload_n 0, 1) := by decide +kernel
theorem dX4_age_1 : decode cX4_age 1 = .ok (.iload_n 1, 1) := by decide +kernel
theorem dX4_age_2 : decode cX4_age 2 = .ok (.invokevirtual 89, 3) := by decide +kernel
theorem dX4_age_5 : decode cX4_age 5 = .ok (.aload_n 0, 1) := by decide +kernel
theorem dX4_age_6 : decode cX4_age 6 = .ok (.getfield 10, 3) := by decide +kernel
theorem dX4_age_9 : decode cX4_age 9 = .ok (.getfield 97, 3) := by decide +kernel
theorem dX4_age_12 : decode cX4_age 12 = .ok (.iload_n 1, 1) := by decide +kernel
theorem dX4_age_13 : decode cX4_age 13 = .ok (.iaload, 1) := by decide +kernel
theorem dX4_age_14 : decode cX4_age 14 = .ok (.ireturn, 1) := by decide +kernel
theorem dX4_cracks_0 : decode cX4_cracks 0 = .ok (.aload_n 0, 1) := by decide +kernel
theorem dX4_cracks_1 : decode cX4_cracks 1 = .ok (.iload_n 1, 1) := by decide +kernel
theorem dX4_cracks_2 : decode cX4_cracks 2 = .ok (.invokevirtual 89, 3) := by decide +kernel
theorem dX4_cracks_5 : decode cX4_cracks 5 = .ok (.aload_n 0, 1) := by decide +kernel
theorem dX4_cracks_6 : decode cX4_cracks 6 = .ok (.getfield 10, 3) := by decide +kernel
theorem dX4_cracks_9 : decode cX4_cracks 9 = .ok (.getfield 100, 3) := by decide +kernel
theorem dX4_cracks_12 : decode cX4_cracks 12 = .ok (.iload_n 1, 1) := by decide +kernel
theorem dX4_cracks_13 : decode cX4_cracks 13 = .ok (.iaload, 1) := by decide +kernel
theorem dX4_cracks_14 : decode cX4_cracks 14 = .ok (.ireturn, 1) := by decide +kernel
theorem dX4_stress_0 : decode cX4_stress 0 = .ok (.aload_n 0, 1) := by decide +kernel
theorem dX4_stress_1 : decode cX4_stress 1 = .ok (.iload_n 1, 1) := by decide +kernel
theorem dX4_stress_2 : decode cX4_stress 2 = .ok (.invokevirtual 89, 3) := by decide +kernel
theorem dX4_stress_5 : decode cX4_stress 5 = .ok (.aload_n 0, 1) := by decide +kernel
theorem dX4_stress_6 : decode cX4_stress 6 = .ok (.getfield 10, 3) := by decide +kernel
theorem dX4_stress_9 : decode cX4_stress 9 = .ok (.getfield 103, 3) := by decide +kernel
theorem dX4_stress_12 : decode cX4_stress 12 = .ok (.iload_n 1, 1) := by decide +kernel
theorem dX4_stress_13 : decode cX4_stress 13 = .ok (.iaload, 1) := by decide +kernel
theorem dX4_stress_14 : decode cX4_stress 14 = .ok (.ireturn, 1) := by decide +kernel
theorem dX4_strength_0 : decode cX4_strength 0 = .ok (.aload_n 0, 1) := by decide +kernel
theorem dX4_strength_1 : decode cX4_strength 1 = .ok (.iload_n 1, 1) := by decide +kernel
theorem dX4_strength_2 : decode cX4_strength 2 = .ok (.invokevirtual 89, 3) := by decide +kernel
theorem dX4_strength_5 : decode cX4_strength 5 = .ok (.aload_n 0, 1) := by decide +kernel
theorem dX4_strength_6 : decode cX4_strength 6 = .ok (.getfield 10, 3) := by decide +kernel
theorem dX4_strength_9 : decode cX4_strength 9 = .ok (.iload_n 1, 1) := by decide +kernel
theorem dX4_strength_10 : decode cX4_strength 10 = .ok (.invokevirtual 106, 3) := by decide +kernel
theorem dX4_strength_13 : decode cX4_strength 13 = .ok (.ireturn, 1) := by decide +kernel
theorem dX4_load_0 : decode cX4_load 0 = .ok (.aload_n 0, 1) := by decide +kernel
theorem dX4_load_1 : decode cX4_load 1 = .ok (.iload_n 1, 1) := by decide +kernel
theorem dX4_load_2 : decode cX4_load 2 = .ok (.invokevirtual 89, 3) := by decide +kernel
theorem dX4_load_5 : decode cX4_load 5 = .ok (.aload_n 0, 1) := by decide +kernel
theorem dX4_load_6 : decode cX4_load 6 = .ok (.getfield 10, 3) := by decide +kernel
theorem dX4_load_9 : decode cX4_load 9 = .ok (.iload_n 1, 1) := by decide +kernel
theorem dX4_load_10 : decode cX4_load 10 = .ok (.invokevirtual 109, 3) := by decide +kernel
theorem dX4_load_13 : decode cX4_load 13 = .ok (.ireturn, 1) := by decide +kernel
theorem dX4_isStrained_0 : decode cX4_isStrained 0 = .ok (.aload_n 0, 1) := by decide +kernel
theorem dX4_isStrained_1 : decode cX4_isStrained 1 = .ok (.iload_n 1, 1) := by decide +kernel
theorem dX4_isStrained_2 : decode cX4_isStrained 2 = .ok (.invokevirtual 89, 3) := by decide +kernel
theorem dX4_isStrained_5 : decode cX4_isStrained 5 = .ok (.aload_n 0, 1) := by decide +kernel
theorem dX4_isStrained_6 : decode cX4_isStrained 6 = .ok (.getfield 10, 3) := by decide +kernel
theorem dX4_isStrained_9 : decode cX4_isStrained 9 = .ok (.iload_n 1, 1) := by decide +kernel
theorem dX4_isStrained_10 : decode cX4_isStrained 10 = .ok (.invokevirtual 112, 3) := by decide +kernel
theorem dX4_isStrained_13 : decode cX4_isStrained 13 = .ok (.ireturn, 1) := by decide +kernel
theorem dX4_hoursUntilBears_0 : decode cX4_hoursUntilBears 0 = .ok (.aload_n 0, 1) := by decide +kernel
theorem dX4_hoursUntilBears_1 : decode cX4_hoursUntilBears 1 = .ok (.iload_n 1, 1) := by decide +kernel
theorem dX4_hoursUntilBears_2 : decode cX4_hoursUntilBears 2 = .ok (.invokevirtual 89, 3) := by decide +kernel
theorem dX4_hoursUntilBears_5 : decode cX4_hoursUntilBears 5 = .ok (.aload_n 0, 1) := by decide +kernel
theorem dX4_hoursUntilBears_6 : decode cX4_hoursUntilBears 6 = .ok (.iload_n 2, 1) := by decide +kernel
theorem dX4_hoursUntilBears_7 : decode cX4_hoursUntilBears 7 = .ok (.invokevirtual 116, 3) := by decide +kernel
theorem dX4_hoursUntilBears_10 : decode cX4_hoursUntilBears 10 = .ok (.aload_n 0, 1) := by decide +kernel
theorem dX4_hoursUntilBears_11 : decode cX4_hoursUntilBears 11 = .ok (.getfield 16, 3) := by decide +kernel
theorem dX4_hoursUntilBears_14 : decode cX4_hoursUntilBears 14 = .ok (.aload_n 0, 1) := by decide +kernel
theorem dX4_hoursUntilBears_15 : decode cX4_hoursUntilBears 15 = .ok (.getfield 10, 3) := by decide +kernel
theorem dX4_hoursUntilBears_18 : decode cX4_hoursUntilBears 18 = .ok (.invokevirtual 119, 3) := by decide +kernel
theorem dX4_hoursUntilBears_21 : decode cX4_hoursUntilBears 21 = .ok (.iconst 0, 1) := by decide +kernel
theorem dX4_hoursUntilBears_22 : decode cX4_hoursUntilBears 22 = .ok (.istore_n 3, 1) := by decide +kernel
theorem dX4_hoursUntilBears_23 : decode cX4_hoursUntilBears 23 = .ok (.iload_n 3, 1) := by decide +kernel
theorem dX4_hoursUntilBears_24 : decode cX4_hoursUntilBears 24 = .ok (.bipush 24, 2) := by decide +kernel
theorem dX4_hoursUntilBears_26 : decode cX4_hoursUntilBears 26 = .ok (.if_icmp .gt 36, 3) := by decide +kernel
theorem dX4_hoursUntilBears_29 : decode cX4_hoursUntilBears 29 = .ok (.aload_n 0, 1) := by decide +kernel
theorem dX4_hoursUntilBears_30 : decode cX4_hoursUntilBears 30 = .ok (.getfield 16, 3) := by decide +kernel
theorem dX4_hoursUntilBears_33 : decode cX4_hoursUntilBears 33 = .ok (.iload_n 1, 1) := by decide +kernel
theorem dX4_hoursUntilBears_34 : decode cX4_hoursUntilBears 34 = .ok (.invokevirtual 106, 3) := by decide +kernel
theorem dX4_hoursUntilBears_37 : decode cX4_hoursUntilBears 37 = .ok (.iload_n 2, 1) := by decide +kernel
theorem dX4_hoursUntilBears_38 : decode cX4_hoursUntilBears 38 = .ok (.if_icmp .lt 5, 3) := by decide +kernel
theorem dX4_hoursUntilBears_41 : decode cX4_hoursUntilBears 41 = .ok (.iload_n 3, 1) := by decide +kernel
theorem dX4_hoursUntilBears_42 : decode cX4_hoursUntilBears 42 = .ok (.ireturn, 1) := by decide +kernel
theorem dX4_hoursUntilBears_43 : decode cX4_hoursUntilBears 43 = .ok (.aload_n 0, 1) := by decide +kernel
theorem dX4_hoursUntilBears_44 : decode cX4_hoursUntilBears 44 = .ok (.getfield 16, 3) := by decide +kernel
theorem dX4_hoursUntilBears_47 : decode cX4_hoursUntilBears 47 = .ok (.getfield 97, 3) := by decide +kernel
theorem dX4_hoursUntilBears_50 : decode cX4_hoursUntilBears 50 = .ok (.iload_n 1, 1) := by decide +kernel
theorem dX4_hoursUntilBears_51 : decode cX4_hoursUntilBears 51 = .ok (.dup2, 1) := by decide +kernel
theorem dX4_hoursUntilBears_52 : decode cX4_hoursUntilBears 52 = .ok (.iaload, 1) := by decide +kernel
theorem dX4_hoursUntilBears_53 : decode cX4_hoursUntilBears 53 = .ok (.iconst 1, 1) := by decide +kernel
theorem dX4_hoursUntilBears_54 : decode cX4_hoursUntilBears 54 = .ok (.iadd, 1) := by decide +kernel
theorem dX4_hoursUntilBears_55 : decode cX4_hoursUntilBears 55 = .ok (.iastore, 1) := by decide +kernel
theorem dX4_hoursUntilBears_56 : decode cX4_hoursUntilBears 56 = .ok (.iinc 3 1, 3) := by decide +kernel
theorem dX4_hoursUntilBears_59 : decode cX4_hoursUntilBears 59 = .ok (.goto (-36), 3) := by decide +kernel
theorem dX4_hoursUntilBears_62 : decode cX4_hoursUntilBears 62 = .ok (.new 123, 3) := by decide +kernel
theorem dX4_hoursUntilBears_65 : decode cX4_hoursUntilBears 65 = .ok (.dup, 1) := by decide +kernel
theorem dX4_hoursUntilBears_66 : decode cX4_hoursUntilBears 66 = .ok (.ldc 125, 2) := by decide +kernel
theorem dX4_hoursUntilBears_68 : decode cX4_hoursUntilBears 68 = .ok (.invokespecial 127, 3) := by decide +kernel
theorem dX4_hoursUntilBears_71 : decode cX4_hoursUntilBears 71 = .ok (.athrow, 1) := by decide +kernel
theorem dX4_hoursUntilBearsByDivision_0 : decode cX4_hoursUntilBearsByDivision 0 = .ok (.aload_n 0, 1) := by decide +kernel
theorem dX4_hoursUntilBearsByDivision_1 : decode cX4_hoursUntilBearsByDivision 1 = .ok (.iload_n 1, 1) := by decide +kernel
theorem dX4_hoursUntilBearsByDivision_2 : decode cX4_hoursUntilBearsByDivision 2 = .ok (.invokevirtual 89, 3) := by decide +kernel
theorem dX4_hoursUntilBearsByDivision_5 : decode cX4_hoursUntilBearsByDivision 5 = .ok (.aload_n 0, 1) := by decide +kernel
theorem dX4_hoursUntilBearsByDivision_6 : decode cX4_hoursUntilBearsByDivision 6 = .ok (.iload_n 2, 1) := by decide +kernel
theorem dX4_hoursUntilBearsByDivision_7 : decode cX4_hoursUntilBearsByDivision 7 = .ok (.invokevirtual 116, 3) := by decide +kernel
theorem dX4_hoursUntilBearsByDivision_10 : decode cX4_hoursUntilBearsByDivision 10 = .ok (.aload_n 0, 1) := by decide +kernel
theorem dX4_hoursUntilBearsByDivision_11 : decode cX4_hoursUntilBearsByDivision 11 = .ok (.getfield 10, 3) := by decide +kernel
theorem dX4_hoursUntilBearsByDivision_14 : decode cX4_hoursUntilBearsByDivision 14 = .ok (.getfield 93, 3) := by decide +kernel
theorem dX4_hoursUntilBearsByDivision_17 : decode cX4_hoursUntilBearsByDivision 17 = .ok (.iload_n 1, 1) := by decide +kernel
theorem dX4_hoursUntilBearsByDivision_18 : decode cX4_hoursUntilBearsByDivision 18 = .ok (.iaload, 1) := by decide +kernel
theorem dX4_hoursUntilBearsByDivision_19 : decode cX4_hoursUntilBearsByDivision 19 = .ok (.istore_n 3, 1) := by decide +kernel
theorem dX4_hoursUntilBearsByDivision_20 : decode cX4_hoursUntilBearsByDivision 20 = .ok (.bipush 10, 2) := by decide +kernel
theorem dX4_hoursUntilBearsByDivision_22 : decode cX4_hoursUntilBearsByDivision 22 = .ok (.aload_n 0, 1) := by decide +kernel
theorem dX4_hoursUntilBearsByDivision_23 : decode cX4_hoursUntilBearsByDivision 23 = .ok (.getfield 10, 3) := by decide +kernel
theorem dX4_hoursUntilBearsByDivision_26 : decode cX4_hoursUntilBearsByDivision 26 = .ok (.getfield 100, 3) := by decide +kernel
theorem dX4_hoursUntilBearsByDivision_29 : decode cX4_hoursUntilBearsByDivision 29 = .ok (.iload_n 1, 1) := by decide +kernel
theorem dX4_hoursUntilBearsByDivision_30 : decode cX4_hoursUntilBearsByDivision 30 = .ok (.iaload, 1) := by decide +kernel
theorem dX4_hoursUntilBearsByDivision_31 : decode cX4_hoursUntilBearsByDivision 31 = .ok (.isub, 1) := by decide +kernel
theorem dX4_hoursUntilBearsByDivision_32 : decode cX4_hoursUntilBearsByDivision 32 = .ok (.istore 4, 2) := by decide +kernel
theorem dX4_hoursUntilBearsByDivision_34 : decode cX4_hoursUntilBearsByDivision 34 = .ok (.iload_n 3, 1) := by decide +kernel
theorem dX4_hoursUntilBearsByDivision_35 : decode cX4_hoursUntilBearsByDivision 35 = .ok (.iconst 1, 1) := by decide +kernel
theorem dX4_hoursUntilBearsByDivision_36 : decode cX4_hoursUntilBearsByDivision 36 = .ok (.if_icmp .lt 9, 3) := by decide +kernel
theorem dX4_hoursUntilBearsByDivision_39 : decode cX4_hoursUntilBearsByDivision 39 = .ok (.iload 4, 2) := by decide +kernel
theorem dX4_hoursUntilBearsByDivision_41 : decode cX4_hoursUntilBearsByDivision 41 = .ok (.iconst 1, 1) := by decide +kernel
theorem dX4_hoursUntilBearsByDivision_42 : decode cX4_hoursUntilBearsByDivision 42 = .ok (.if_icmp .ge 13, 3) := by decide +kernel
theorem dX4_hoursUntilBearsByDivision_45 : decode cX4_hoursUntilBearsByDivision 45 = .ok (.new 123, 3) := by decide +kernel
theorem dX4_hoursUntilBearsByDivision_48 : decode cX4_hoursUntilBearsByDivision 48 = .ok (.dup, 1) := by decide +kernel
theorem dX4_hoursUntilBearsByDivision_49 : decode cX4_hoursUntilBearsByDivision 49 = .ok (.ldc 130, 2) := by decide +kernel
theorem dX4_hoursUntilBearsByDivision_51 : decode cX4_hoursUntilBearsByDivision 51 = .ok (.invokespecial 127, 3) := by decide +kernel
theorem dX4_hoursUntilBearsByDivision_54 : decode cX4_hoursUntilBearsByDivision 54 = .ok (.athrow, 1) := by decide +kernel
theorem dX4_hoursUntilBearsByDivision_55 : decode cX4_hoursUntilBearsByDivision 55 = .ok (.iload_n 2, 1) := by decide +kernel
theorem dX4_hoursUntilBearsByDivision_56 : decode cX4_hoursUntilBearsByDivision 56 = .ok (.bipush 10, 2) := by decide +kernel
theorem dX4_hoursUntilBearsByDivision_58 : decode cX4_hoursUntilBearsByDivision 58 = .ok (.imul, 1) := by decide +kernel
theorem dX4_hoursUntilBearsByDivision_59 : decode cX4_hoursUntilBearsByDivision 59 = .ok (.iload 4, 2) := by decide +kernel
theorem dX4_hoursUntilBearsByDivision_61 : decode cX4_hoursUntilBearsByDivision 61 = .ok (.iadd, 1) := by decide +kernel
theorem dX4_hoursUntilBearsByDivision_62 : decode cX4_hoursUntilBearsByDivision 62 = .ok (.iconst 1, 1) := by decide +kernel
theorem dX4_hoursUntilBearsByDivision_63 : decode cX4_hoursUntilBearsByDivision 63 = .ok (.isub, 1) := by decide +kernel
theorem dX4_hoursUntilBearsByDivision_64 : decode cX4_hoursUntilBearsByDivision 64 = .ok (.iload 4, 2) := by decide +kernel
theorem dX4_hoursUntilBearsByDivision_66 : decode cX4_hoursUntilBearsByDivision 66 = .ok (.idiv, 1) := by decide +kernel
theorem dX4_hoursUntilBearsByDivision_67 : decode cX4_hoursUntilBearsByDivision 67 = .ok (.istore 5, 2) := by decide +kernel
theorem dX4_hoursUntilBearsByDivision_69 : decode cX4_hoursUntilBearsByDivision 69 = .ok (.iload 5, 2) := by decide +kernel
theorem dX4_hoursUntilBearsByDivision_71 : decode cX4_hoursUntilBearsByDivision 71 = .ok (.aload_n 0, 1) := by decide +kernel
theorem dX4_hoursUntilBearsByDivision_72 : decode cX4_hoursUntilBearsByDivision 72 = .ok (.getfield 10, 3) := by decide +kernel
theorem dX4_hoursUntilBearsByDivision_75 : decode cX4_hoursUntilBearsByDivision 75 = .ok (.getfield 132, 3) := by decide +kernel
theorem dX4_hoursUntilBearsByDivision_78 : decode cX4_hoursUntilBearsByDivision 78 = .ok (.iload_n 1, 1) := by decide +kernel
theorem dX4_hoursUntilBearsByDivision_79 : decode cX4_hoursUntilBearsByDivision 79 = .ok (.iaload, 1) := by decide +kernel
theorem dX4_hoursUntilBearsByDivision_80 : decode cX4_hoursUntilBearsByDivision 80 = .ok (.imul, 1) := by decide +kernel
theorem dX4_hoursUntilBearsByDivision_81 : decode cX4_hoursUntilBearsByDivision 81 = .ok (.iload_n 3, 1) := by decide +kernel
theorem dX4_hoursUntilBearsByDivision_82 : decode cX4_hoursUntilBearsByDivision 82 = .ok (.iadd, 1) := by decide +kernel
theorem dX4_hoursUntilBearsByDivision_83 : decode cX4_hoursUntilBearsByDivision 83 = .ok (.iconst 1, 1) := by decide +kernel
theorem dX4_hoursUntilBearsByDivision_84 : decode cX4_hoursUntilBearsByDivision 84 = .ok (.isub, 1) := by decide +kernel
theorem dX4_hoursUntilBearsByDivision_85 : decode cX4_hoursUntilBearsByDivision 85 = .ok (.iload_n 3, 1) := by decide +kernel
theorem dX4_hoursUntilBearsByDivision_86 : decode cX4_hoursUntilBearsByDivision 86 = .ok (.idiv, 1) := by decide +kernel
theorem dX4_hoursUntilBearsByDivision_87 : decode cX4_hoursUntilBearsByDivision 87 = .ok (.istore 6, 2) := by decide +kernel
theorem dX4_hoursUntilBearsByDivision_89 : decode cX4_hoursUntilBearsByDivision 89 = .ok (.iload 6, 2) := by decide +kernel
theorem dX4_hoursUntilBearsByDivision_91 : decode cX4_hoursUntilBearsByDivision 91 = .ok (.bipush 24, 2) := by decide +kernel
theorem dX4_hoursUntilBearsByDivision_93 : decode cX4_hoursUntilBearsByDivision 93 = .ok (.if_icmp .le 13, 3) := by decide +kernel
theorem dX4_hoursUntilBearsByDivision_96 : decode cX4_hoursUntilBearsByDivision 96 = .ok (.new 123, 3) := by decide +kernel
theorem dX4_hoursUntilBearsByDivision_99 : decode cX4_hoursUntilBearsByDivision 99 = .ok (.dup, 1) := by decide +kernel
theorem dX4_hoursUntilBearsByDivision_100 : decode cX4_hoursUntilBearsByDivision 100 = .ok (.ldc 125, 2) := by decide +kernel
theorem dX4_hoursUntilBearsByDivision_102 : decode cX4_hoursUntilBearsByDivision 102 = .ok (.invokespecial 127, 3) := by decide +kernel
theorem dX4_hoursUntilBearsByDivision_105 : decode cX4_hoursUntilBearsByDivision 105 = .ok (.athrow, 1) := by decide +kernel
theorem dX4_hoursUntilBearsByDivision_106 : decode cX4_hoursUntilBearsByDivision 106 = .ok (.iconst 0, 1) := by decide +kernel
theorem dX4_hoursUntilBearsByDivision_107 : decode cX4_hoursUntilBearsByDivision 107 = .ok (.iload 6, 2) := by decide +kernel
theorem dX4_hoursUntilBearsByDivision_109 : decode cX4_hoursUntilBearsByDivision 109 = .ok (.aload_n 0, 1) := by decide +kernel
theorem dX4_hoursUntilBearsByDivision_110 : decode cX4_hoursUntilBearsByDivision 110 = .ok (.getfield 10, 3) := by decide +kernel
theorem dX4_hoursUntilBearsByDivision_113 : decode cX4_hoursUntilBearsByDivision 113 = .ok (.getfield 97, 3) := by decide +kernel
theorem dX4_hoursUntilBearsByDivision_116 : decode cX4_hoursUntilBearsByDivision 116 = .ok (.iload_n 1, 1) := by decide +kernel
theorem dX4_hoursUntilBearsByDivision_117 : decode cX4_hoursUntilBearsByDivision 117 = .ok (.iaload, 1) := by decide +kernel
theorem dX4_hoursUntilBearsByDivision_118 : decode cX4_hoursUntilBearsByDivision 118 = .ok (.isub, 1) := by decide +kernel
theorem dX4_hoursUntilBearsByDivision_119 : decode cX4_hoursUntilBearsByDivision 119 = .ok (.invokestatic 135, 3) := by decide +kernel
theorem dX4_hoursUntilBearsByDivision_122 : decode cX4_hoursUntilBearsByDivision 122 = .ok (.ireturn, 1) := by decide +kernel
theorem dX4_spanByStrength_0 : decode cX4_spanByStrength 0 = .ok (.iconst 0, 1) := by decide +kernel
theorem dX4_spanByStrength_1 : decode cX4_spanByStrength 1 = .ok (.istore_n 2, 1) := by decide +kernel
theorem dX4_spanByStrength_2 : decode cX4_spanByStrength 2 = .ok (.iload_n 2, 1) := by decide +kernel
theorem dX4_spanByStrength_3 : decode cX4_spanByStrength 3 = .ok (.aload_n 0, 1) := by decide +kernel
theorem dX4_spanByStrength_4 : decode cX4_spanByStrength 4 = .ok (.getfield 10, 3) := by decide +kernel
theorem dX4_spanByStrength_7 : decode cX4_spanByStrength 7 = .ok (.getfield 86, 3) := by decide +kernel
theorem dX4_spanByStrength_10 : decode cX4_spanByStrength 10 = .ok (.if_icmp .ge 23, 3) := by decide +kernel
theorem dX4_spanByStrength_13 : decode cX4_spanByStrength 13 = .ok (.aload_n 0, 1) := by decide +kernel
theorem dX4_spanByStrength_14 : decode cX4_spanByStrength 14 = .ok (.getfield 10, 3) := by decide +kernel
theorem dX4_spanByStrength_17 : decode cX4_spanByStrength 17 = .ok (.iload_n 2, 1) := by decide +kernel
theorem dX4_spanByStrength_18 : decode cX4_spanByStrength 18 = .ok (.invokevirtual 140, 3) := by decide +kernel
theorem dX4_spanByStrength_21 : decode cX4_spanByStrength 21 = .ok (.iload_n 1, 1) := by decide +kernel
theorem dX4_spanByStrength_22 : decode cX4_spanByStrength 22 = .ok (.if_icmp .ne 5, 3) := by decide +kernel
theorem dX4_spanByStrength_25 : decode cX4_spanByStrength 25 = .ok (.iload_n 2, 1) := by decide +kernel
theorem dX4_spanByStrength_26 : decode cX4_spanByStrength 26 = .ok (.ireturn, 1) := by decide +kernel
theorem dX4_spanByStrength_27 : decode cX4_spanByStrength 27 = .ok (.iinc 2 1, 3) := by decide +kernel
theorem dX4_spanByStrength_30 : decode cX4_spanByStrength 30 = .ok (.goto (-28), 3) := by decide +kernel
theorem dX4_spanByStrength_33 : decode cX4_spanByStrength 33 = .ok (.new 123, 3) := by decide +kernel
theorem dX4_spanByStrength_36 : decode cX4_spanByStrength 36 = .ok (.dup, 1) := by decide +kernel
theorem dX4_spanByStrength_37 : decode cX4_spanByStrength 37 = .ok (.ldc 143, 2) := by decide +kernel
theorem dX4_spanByStrength_39 : decode cX4_spanByStrength 39 = .ok (.invokespecial 127, 3) := by decide +kernel
theorem dX4_spanByStrength_42 : decode cX4_spanByStrength 42 = .ok (.athrow, 1) := by decide +kernel
theorem dX4_enter_0 : decode cX4_enter 0 = .ok (.aload_n 0, 1) := by decide +kernel
theorem dX4_enter_1 : decode cX4_enter 1 = .ok (.iconst 2, 1) := by decide +kernel
theorem dX4_enter_2 : decode cX4_enter 2 = .ok (.iload_n 1, 1) := by decide +kernel
theorem dX4_enter_3 : decode cX4_enter 3 = .ok (.iconst 0, 1) := by decide +kernel
theorem dX4_enter_4 : decode cX4_enter 4 = .ok (.invokevirtual 67, 3) := by decide +kernel
theorem dX4_enter_7 : decode cX4_enter 7 = .ok (.aload_n 0, 1) := by decide +kernel
theorem dX4_enter_8 : decode cX4_enter 8 = .ok (.getfield 10, 3) := by decide +kernel
theorem dX4_enter_11 : decode cX4_enter 11 = .ok (.iload_n 1, 1) := by decide +kernel
theorem dX4_enter_12 : decode cX4_enter 12 = .ok (.invokevirtual 145, 3) := by decide +kernel
theorem dX4_enter_15 : decode cX4_enter 15 = .ok (.ireturn, 1) := by decide +kernel
theorem dX4_pass_0 : decode cX4_pass 0 = .ok (.aload_n 0, 1) := by decide +kernel
theorem dX4_pass_1 : decode cX4_pass 1 = .ok (.iconst 5, 1) := by decide +kernel
theorem dX4_pass_2 : decode cX4_pass 2 = .ok (.iload_n 1, 1) := by decide +kernel
theorem dX4_pass_3 : decode cX4_pass 3 = .ok (.iconst 0, 1) := by decide +kernel
theorem dX4_pass_4 : decode cX4_pass 4 = .ok (.invokevirtual 67, 3) := by decide +kernel
theorem dX4_pass_7 : decode cX4_pass 7 = .ok (.aload_n 0, 1) := by decide +kernel
theorem dX4_pass_8 : decode cX4_pass 8 = .ok (.getfield 10, 3) := by decide +kernel
theorem dX4_pass_11 : decode cX4_pass 11 = .ok (.iload_n 1, 1) := by decide +kernel
theorem dX4_pass_12 : decode cX4_pass 12 = .ok (.invokevirtual 148, 3) := by decide +kernel
theorem dX4_pass_15 : decode cX4_pass 15 = .ok (.ireturn, 1) := by decide +kernel
theorem dX4_setRate_0 : decode cX4_setRate 0 = .ok (.aload_n 0, 1) := by decide +kernel
theorem dX4_setRate_1 : decode cX4_setRate 1 = .ok (.iconst 4, 1) := by decide +kernel
theorem dX4_setRate_2 : decode cX4_setRate 2 = .ok (.iload_n 1, 1) := by decide +kernel
theorem dX4_setRate_3 : decode cX4_setRate 3 = .ok (.iconst 0, 1) := by decide +kernel
theorem dX4_setRate_4 : decode cX4_setRate 4 = .ok (.invokevirtual 67, 3) := by decide +kernel
theorem dX4_setRate_7 : decode cX4_setRate 7 = .ok (.aload_n 0, 1) := by decide +kernel
theorem dX4_setRate_8 : decode cX4_setRate 8 = .ok (.getfield 10, 3) := by decide +kernel
theorem dX4_setRate_11 : decode cX4_setRate 11 = .ok (.iload_n 1, 1) := by decide +kernel
theorem dX4_setRate_12 : decode cX4_setRate 12 = .ok (.invokevirtual 151, 3) := by decide +kernel
theorem dX4_setRate_15 : decode cX4_setRate 15 = .ok (.ireturn, 1) := by decide +kernel
theorem dX4_vehicleCount_0 : decode cX4_vehicleCount 0 = .ok (.aload_n 0, 1) := by decide +kernel
theorem dX4_vehicleCount_1 : decode cX4_vehicleCount 1 = .ok (.getfield 10, 3) := by decide +kernel
theorem dX4_vehicleCount_4 : decode cX4_vehicleCount 4 = .ok (.getfield 154, 3) := by decide +kernel
theorem dX4_vehicleCount_7 : decode cX4_vehicleCount 7 = .ok (.ireturn, 1) := by decide +kernel
theorem dX4_vehicleAt_0 : decode cX4_vehicleAt 0 = .ok (.iload_n 1, 1) := by decide +kernel
theorem dX4_vehicleAt_1 : decode cX4_vehicleAt 1 = .ok (.ifCond .lt 14, 3) := by decide +kernel
theorem dX4_vehicleAt_4 : decode cX4_vehicleAt 4 = .ok (.iload_n 1, 1) := by decide +kernel
theorem dX4_vehicleAt_5 : decode cX4_vehicleAt 5 = .ok (.aload_n 0, 1) := by decide +kernel
theorem dX4_vehicleAt_6 : decode cX4_vehicleAt 6 = .ok (.getfield 10, 3) := by decide +kernel
theorem dX4_vehicleAt_9 : decode cX4_vehicleAt 9 = .ok (.getfield 154, 3) := by decide +kernel
theorem dX4_vehicleAt_12 : decode cX4_vehicleAt 12 = .ok (.if_icmp .lt 13, 3) := by decide +kernel
theorem dX4_vehicleAt_15 : decode cX4_vehicleAt 15 = .ok (.new 157, 3) := by decide +kernel
theorem dX4_vehicleAt_18 : decode cX4_vehicleAt 18 = .ok (.dup, 1) := by decide +kernel
theorem dX4_vehicleAt_19 : decode cX4_vehicleAt 19 = .ok (.ldc 159, 2) := by decide +kernel
theorem dX4_vehicleAt_21 : decode cX4_vehicleAt 21 = .ok (.invokespecial 161, 3) := by decide +kernel
theorem dX4_vehicleAt_24 : decode cX4_vehicleAt 24 = .ok (.athrow, 1) := by decide +kernel
theorem dX4_vehicleAt_25 : decode cX4_vehicleAt 25 = .ok (.aload_n 0, 1) := by decide +kernel
theorem dX4_vehicleAt_26 : decode cX4_vehicleAt 26 = .ok (.getfield 10, 3) := by decide +kernel
theorem dX4_vehicleAt_29 : decode cX4_vehicleAt 29 = .ok (.getfield 162, 3) := by decide +kernel
theorem dX4_vehicleAt_32 : decode cX4_vehicleAt 32 = .ok (.iload_n 1, 1) := by decide +kernel
theorem dX4_vehicleAt_33 : decode cX4_vehicleAt 33 = .ok (.iaload, 1) := by decide +kernel
theorem dX4_vehicleAt_34 : decode cX4_vehicleAt 34 = .ok (.ireturn, 1) := by decide +kernel
theorem dX4_weightOf_0 : decode cX4_weightOf 0 = .ok (.aload_n 0, 1) := by decide +kernel
theorem dX4_weightOf_1 : decode cX4_weightOf 1 = .ok (.getfield 10, 3) := by decide +kernel
theorem dX4_weightOf_4 : decode cX4_weightOf 4 = .ok (.getfield 165, 3) := by decide +kernel
theorem dX4_weightOf_7 : decode cX4_weightOf 7 = .ok (.aload_n 0, 1) := by decide +kernel
theorem dX4_weightOf_8 : decode cX4_weightOf 8 = .ok (.iload_n 1, 1) := by decide +kernel
theorem dX4_weightOf_9 : decode cX4_weightOf 9 = .ok (.invokevirtual 168, 3) := by decide +kernel
theorem dX4_weightOf_12 : decode cX4_weightOf 12 = .ok (.iaload, 1) := by decide +kernel
theorem dX4_weightOf_13 : decode cX4_weightOf 13 = .ok (.ireturn, 1) := by decide +kernel
theorem dX4_spanOf_0 : decode cX4_spanOf 0 = .ok (.aload_n 0, 1) := by decide +kernel
theorem dX4_spanOf_1 : decode cX4_spanOf 1 = .ok (.getfield 10, 3) := by decide +kernel
theorem dX4_spanOf_4 : decode cX4_spanOf 4 = .ok (.getfield 171, 3) := by decide +kernel
theorem dX4_spanOf_7 : decode cX4_spanOf 7 = .ok (.aload_n 0, 1) := by decide +kernel
theorem dX4_spanOf_8 : decode cX4_spanOf 8 = .ok (.iload_n 1, 1) := by decide +kernel
theorem dX4_spanOf_9 : decode cX4_spanOf 9 = .ok (.invokevirtual 168, 3) := by decide +kernel
theorem dX4_spanOf_12 : decode cX4_spanOf 12 = .ok (.iaload, 1) := by decide +kernel
theorem dX4_spanOf_13 : decode cX4_spanOf 13 = .ok (.ireturn, 1) := by decide +kernel
theorem dX4_tollOf_0 : decode cX4_tollOf 0 = .ok (.aload_n 0, 1) := by decide +kernel
theorem dX4_tollOf_1 : decode cX4_tollOf 1 = .ok (.getfield 10, 3) := by decide +kernel
theorem dX4_tollOf_4 : decode cX4_tollOf 4 = .ok (.aload_n 0, 1) := by decide +kernel
theorem dX4_tollOf_5 : decode cX4_tollOf 5 = .ok (.iload_n 1, 1) := by decide +kernel
theorem dX4_tollOf_6 : decode cX4_tollOf 6 = .ok (.invokevirtual 168, 3) := by decide +kernel
theorem dX4_tollOf_9 : decode cX4_tollOf 9 = .ok (.invokevirtual 174, 3) := by decide +kernel
theorem dX4_tollOf_12 : decode cX4_tollOf 12 = .ok (.ireturn, 1) := by decide +kernel
theorem dX4_hoursUntilOver_0 : decode cX4_hoursUntilOver 0 = .ok (.aload_n 0, 1) := by decide +kernel
theorem dX4_hoursUntilOver_1 : decode cX4_hoursUntilOver 1 = .ok (.getfield 16, 3) := by decide +kernel
theorem dX4_hoursUntilOver_4 : decode cX4_hoursUntilOver 4 = .ok (.aload_n 0, 1) := by decide +kernel
theorem dX4_hoursUntilOver_5 : decode cX4_hoursUntilOver 5 = .ok (.getfield 10, 3) := by decide +kernel
theorem dX4_hoursUntilOver_8 : decode cX4_hoursUntilOver 8 = .ok (.invokevirtual 119, 3) := by decide +kernel
theorem dX4_hoursUntilOver_11 : decode cX4_hoursUntilOver 11 = .ok (.iconst 1, 1) := by decide +kernel
theorem dX4_hoursUntilOver_12 : decode cX4_hoursUntilOver 12 = .ok (.istore_n 2, 1) := by decide +kernel
theorem dX4_hoursUntilOver_13 : decode cX4_hoursUntilOver 13 = .ok (.iload_n 2, 1) := by decide +kernel
theorem dX4_hoursUntilOver_14 : decode cX4_hoursUntilOver 14 = .ok (.bipush 48, 2) := by decide +kernel
theorem dX4_hoursUntilOver_16 : decode cX4_hoursUntilOver 16 = .ok (.if_icmp .gt 55, 3) := by decide +kernel
theorem dX4_hoursUntilOver_19 : decode cX4_hoursUntilOver 19 = .ok (.aload_n 0, 1) := by decide +kernel
theorem dX4_hoursUntilOver_20 : decode cX4_hoursUntilOver 20 = .ok (.getfield 16, 3) := by decide +kernel
theorem dX4_hoursUntilOver_23 : decode cX4_hoursUntilOver 23 = .ok (.iload_n 1, 1) := by decide +kernel
theorem dX4_hoursUntilOver_24 : decode cX4_hoursUntilOver 24 = .ok (.invokevirtual 177, 3) := by decide +kernel
theorem dX4_hoursUntilOver_27 : decode cX4_hoursUntilOver 27 = .ok (.istore_n 3, 1) := by decide +kernel
theorem dX4_hoursUntilOver_28 : decode cX4_hoursUntilOver 28 = .ok (.iload_n 3, 1) := by decide +kernel
theorem dX4_hoursUntilOver_29 : decode cX4_hoursUntilOver 29 = .ok (.iconst (-1), 1) := by decide +kernel
theorem dX4_hoursUntilOver_30 : decode cX4_hoursUntilOver 30 = .ok (.if_icmp .ne 13, 3) := by decide +kernel
theorem dX4_hoursUntilOver_33 : decode cX4_hoursUntilOver 33 = .ok (.new 123, 3) := by decide +kernel
theorem dX4_hoursUntilOver_36 : decode cX4_hoursUntilOver 36 = .ok (.dup, 1) := by decide +kernel
theorem dX4_hoursUntilOver_37 : decode cX4_hoursUntilOver 37 = .ok (.ldc 180, 2) := by decide +kernel
theorem dX4_hoursUntilOver_39 : decode cX4_hoursUntilOver 39 = .ok (.invokespecial 127, 3) := by decide +kernel
theorem dX4_hoursUntilOver_42 : decode cX4_hoursUntilOver 42 = .ok (.athrow, 1) := by decide +kernel
theorem dX4_hoursUntilOver_43 : decode cX4_hoursUntilOver 43 = .ok (.aload_n 0, 1) := by decide +kernel
theorem dX4_hoursUntilOver_44 : decode cX4_hoursUntilOver 44 = .ok (.getfield 16, 3) := by decide +kernel
theorem dX4_hoursUntilOver_47 : decode cX4_hoursUntilOver 47 = .ok (.iload_n 3, 1) := by decide +kernel
theorem dX4_hoursUntilOver_48 : decode cX4_hoursUntilOver 48 = .ok (.invokevirtual 182, 3) := by decide +kernel
theorem dX4_hoursUntilOver_51 : decode cX4_hoursUntilOver 51 = .ok (.ifCond .eq 5, 3) := by decide +kernel
theorem dX4_hoursUntilOver_54 : decode cX4_hoursUntilOver 54 = .ok (.iload_n 2, 1) := by decide +kernel
theorem dX4_hoursUntilOver_55 : decode cX4_hoursUntilOver 55 = .ok (.ireturn, 1) := by decide +kernel
theorem dX4_hoursUntilOver_56 : decode cX4_hoursUntilOver 56 = .ok (.aload_n 0, 1) := by decide +kernel
theorem dX4_hoursUntilOver_57 : decode cX4_hoursUntilOver 57 = .ok (.getfield 16, 3) := by decide +kernel
theorem dX4_hoursUntilOver_60 : decode cX4_hoursUntilOver 60 = .ok (.iconst 1, 1) := by decide +kernel
theorem dX4_hoursUntilOver_61 : decode cX4_hoursUntilOver 61 = .ok (.invokevirtual 148, 3) := by decide +kernel
theorem dX4_hoursUntilOver_64 : decode cX4_hoursUntilOver 64 = .ok (.pop, 1) := by decide +kernel
theorem dX4_hoursUntilOver_65 : decode cX4_hoursUntilOver 65 = .ok (.iinc 2 1, 3) := by decide +kernel
theorem dX4_hoursUntilOver_68 : decode cX4_hoursUntilOver 68 = .ok (.goto (-55), 3) := by decide +kernel
theorem dX4_hoursUntilOver_71 : decode cX4_hoursUntilOver 71 = .ok (.new 123, 3) := by decide +kernel
theorem dX4_hoursUntilOver_74 : decode cX4_hoursUntilOver 74 = .ok (.dup, 1) := by decide +kernel
theorem dX4_hoursUntilOver_75 : decode cX4_hoursUntilOver 75 = .ok (.ldc 185, 2) := by decide +kernel
theorem dX4_hoursUntilOver_77 : decode cX4_hoursUntilOver 77 = .ok (.invokespecial 127, 3) := by decide +kernel
theorem dX4_hoursUntilOver_80 : decode cX4_hoursUntilOver 80 = .ok (.athrow, 1) := by decide +kernel
theorem dX4_totalLoad_0 : decode cX4_totalLoad 0 = .ok (.iconst 0, 1) := by decide +kernel
theorem dX4_totalLoad_1 : decode cX4_totalLoad 1 = .ok (.istore_n 1, 1) := by decide +kernel
theorem dX4_totalLoad_2 : decode cX4_totalLoad 2 = .ok (.iconst 0, 1) := by decide +kernel
theorem dX4_totalLoad_3 : decode cX4_totalLoad 3 = .ok (.istore_n 2, 1) := by decide +kernel
theorem dX4_totalLoad_4 : decode cX4_totalLoad 4 = .ok (.iload_n 2, 1) := by decide +kernel
theorem dX4_totalLoad_5 : decode cX4_totalLoad 5 = .ok (.aload_n 0, 1) := by decide +kernel
theorem dX4_totalLoad_6 : decode cX4_totalLoad 6 = .ok (.getfield 10, 3) := by decide +kernel
theorem dX4_totalLoad_9 : decode cX4_totalLoad 9 = .ok (.getfield 86, 3) := by decide +kernel
theorem dX4_totalLoad_12 : decode cX4_totalLoad 12 = .ok (.if_icmp .ge 20, 3) := by decide +kernel
theorem dX4_totalLoad_15 : decode cX4_totalLoad 15 = .ok (.iload_n 1, 1) := by decide +kernel
theorem dX4_totalLoad_16 : decode cX4_totalLoad 16 = .ok (.aload_n 0, 1) := by decide +kernel
theorem dX4_totalLoad_17 : decode cX4_totalLoad 17 = .ok (.getfield 10, 3) := by decide +kernel
theorem dX4_totalLoad_20 : decode cX4_totalLoad 20 = .ok (.iload_n 2, 1) := by decide +kernel
theorem dX4_totalLoad_21 : decode cX4_totalLoad 21 = .ok (.invokevirtual 109, 3) := by decide +kernel
theorem dX4_totalLoad_24 : decode cX4_totalLoad 24 = .ok (.iadd, 1) := by decide +kernel
theorem dX4_totalLoad_25 : decode cX4_totalLoad 25 = .ok (.istore_n 1, 1) := by decide +kernel
theorem dX4_totalLoad_26 : decode cX4_totalLoad 26 = .ok (.iinc 2 1, 3) := by decide +kernel
theorem dX4_totalLoad_29 : decode cX4_totalLoad 29 = .ok (.goto (-25), 3) := by decide +kernel
theorem dX4_totalLoad_32 : decode cX4_totalLoad 32 = .ok (.iload_n 1, 1) := by decide +kernel
theorem dX4_totalLoad_33 : decode cX4_totalLoad 33 = .ok (.ireturn, 1) := by decide +kernel
theorem dX4_totalLoadByVehicles_0 : decode cX4_totalLoadByVehicles 0 = .ok (.iconst 0, 1) := by decide +kernel
theorem dX4_totalLoadByVehicles_1 : decode cX4_totalLoadByVehicles 1 = .ok (.istore_n 1, 1) := by decide +kernel
theorem dX4_totalLoadByVehicles_2 : decode cX4_totalLoadByVehicles 2 = .ok (.iconst 0, 1) := by decide +kernel
theorem dX4_totalLoadByVehicles_3 : decode cX4_totalLoadByVehicles 3 = .ok (.istore_n 2, 1) := by decide +kernel
theorem dX4_totalLoadByVehicles_4 : decode cX4_totalLoadByVehicles 4 = .ok (.iload_n 2, 1) := by decide +kernel
theorem dX4_totalLoadByVehicles_5 : decode cX4_totalLoadByVehicles 5 = .ok (.aload_n 0, 1) := by decide +kernel
theorem dX4_totalLoadByVehicles_6 : decode cX4_totalLoadByVehicles 6 = .ok (.getfield 10, 3) := by decide +kernel
theorem dX4_totalLoadByVehicles_9 : decode cX4_totalLoadByVehicles 9 = .ok (.getfield 154, 3) := by decide +kernel
theorem dX4_totalLoadByVehicles_12 : decode cX4_totalLoadByVehicles 12 = .ok (.if_icmp .ge 21, 3) := by decide +kernel
theorem dX4_totalLoadByVehicles_15 : decode cX4_totalLoadByVehicles 15 = .ok (.iload_n 1, 1) := by decide +kernel
theorem dX4_totalLoadByVehicles_16 : decode cX4_totalLoadByVehicles 16 = .ok (.aload_n 0, 1) := by decide +kernel
theorem dX4_totalLoadByVehicles_17 : decode cX4_totalLoadByVehicles 17 = .ok (.getfield 10, 3) := by decide +kernel
theorem dX4_totalLoadByVehicles_20 : decode cX4_totalLoadByVehicles 20 = .ok (.getfield 165, 3) := by decide +kernel
theorem dX4_totalLoadByVehicles_23 : decode cX4_totalLoadByVehicles 23 = .ok (.iload_n 2, 1) := by decide +kernel
theorem dX4_totalLoadByVehicles_24 : decode cX4_totalLoadByVehicles 24 = .ok (.iaload, 1) := by decide +kernel
theorem dX4_totalLoadByVehicles_25 : decode cX4_totalLoadByVehicles 25 = .ok (.iadd, 1) := by decide +kernel
theorem dX4_totalLoadByVehicles_26 : decode cX4_totalLoadByVehicles 26 = .ok (.istore_n 1, 1) := by decide +kernel
theorem dX4_totalLoadByVehicles_27 : decode cX4_totalLoadByVehicles 27 = .ok (.iinc 2 1, 3) := by decide +kernel
theorem dX4_totalLoadByVehicles_30 : decode cX4_totalLoadByVehicles 30 = .ok (.goto (-26), 3) := by decide +kernel
theorem dX4_totalLoadByVehicles_33 : decode cX4_totalLoadByVehicles 33 = .ok (.iload_n 1, 1) := by decide +kernel
theorem dX4_totalLoadByVehicles_34 : decode cX4_totalLoadByVehicles 34 = .ok (.ireturn, 1) := by decide +kernel
theorem dX4_greatestWeight_0 : decode cX4_greatestWeight 0 = .ok (.aload_n 0, 1) := by decide +kernel
theorem dX4_greatestWeight_1 : decode cX4_greatestWeight 1 = .ok (.getfield 10, 3) := by decide +kernel
theorem dX4_greatestWeight_4 : decode cX4_greatestWeight 4 = .ok (.getfield 86, 3) := by decide +kernel
theorem dX4_greatestWeight_7 : decode cX4_greatestWeight 7 = .ok (.ifCond .eq 15, 3) := by decide +kernel
theorem dX4_greatestWeight_10 : decode cX4_greatestWeight 10 = .ok (.aload_n 0, 1) := by decide +kernel
theorem dX4_greatestWeight_11 : decode cX4_greatestWeight 11 = .ok (.getfield 10, 3) := by decide +kernel
theorem dX4_greatestWeight_14 : decode cX4_greatestWeight 14 = .ok (.getfield 154, 3) := by decide +kernel
theorem dX4_greatestWeight_17 : decode cX4_greatestWeight 17 = .ok (.bipush 8, 2) := by decide +kernel
theorem dX4_greatestWeight_19 : decode cX4_greatestWeight 19 = .ok (.if_icmp .lt 5, 3) := by decide +kernel
theorem dX4_greatestWeight_22 : decode cX4_greatestWeight 22 = .ok (.iconst 0, 1) := by decide +kernel
theorem dX4_greatestWeight_23 : decode cX4_greatestWeight 23 = .ok (.ireturn, 1) := by decide +kernel
theorem dX4_greatestWeight_24 : decode cX4_greatestWeight 24 = .ok (.iconst 0, 1) := by decide +kernel
theorem dX4_greatestWeight_25 : decode cX4_greatestWeight 25 = .ok (.bipush 99, 2) := by decide +kernel
theorem dX4_greatestWeight_27 : decode cX4_greatestWeight 27 = .ok (.aload_n 0, 1) := by decide +kernel
theorem dX4_greatestWeight_28 : decode cX4_greatestWeight 28 = .ok (.getfield 10, 3) := by decide +kernel
theorem dX4_greatestWeight_31 : decode cX4_greatestWeight 31 = .ok (.iconst 0, 1) := by decide +kernel
theorem dX4_greatestWeight_32 : decode cX4_greatestWeight 32 = .ok (.invokevirtual 106, 3) := by decide +kernel
theorem dX4_greatestWeight_35 : decode cX4_greatestWeight 35 = .ok (.aload_n 0, 1) := by decide +kernel
theorem dX4_greatestWeight_36 : decode cX4_greatestWeight 36 = .ok (.getfield 10, 3) := by decide +kernel
theorem dX4_greatestWeight_39 : decode cX4_greatestWeight 39 = .ok (.iconst 0, 1) := by decide +kernel
theorem dX4_greatestWeight_40 : decode cX4_greatestWeight 40 = .ok (.invokevirtual 109, 3) := by decide +kernel
theorem dX4_greatestWeight_43 : decode cX4_greatestWeight 43 = .ok (.isub, 1) := by decide +kernel
theorem dX4_greatestWeight_44 : decode cX4_greatestWeight 44 = .ok (.invokestatic 187, 3) := by decide +kernel
theorem dX4_greatestWeight_47 : decode cX4_greatestWeight 47 = .ok (.invokestatic 135, 3) := by decide +kernel
theorem dX4_greatestWeight_50 : decode cX4_greatestWeight 50 = .ok (.ireturn, 1) := by decide +kernel
theorem dX4_hour_0 : decode cX4_hour 0 = .ok (.aload_n 0, 1) := by decide +kernel
theorem dX4_hour_1 : decode cX4_hour 1 = .ok (.getfield 10, 3) := by decide +kernel
theorem dX4_hour_4 : decode cX4_hour 4 = .ok (.getfield 190, 3) := by decide +kernel
theorem dX4_hour_7 : decode cX4_hour 7 = .ok (.ireturn, 1) := by decide +kernel
theorem dX4_rate_0 : decode cX4_rate 0 = .ok (.aload_n 0, 1) := by decide +kernel
theorem dX4_rate_1 : decode cX4_rate 1 = .ok (.getfield 10, 3) := by decide +kernel
theorem dX4_rate_4 : decode cX4_rate 4 = .ok (.getfield 193, 3) := by decide +kernel
theorem dX4_rate_7 : decode cX4_rate 7 = .ok (.ireturn, 1) := by decide +kernel
theorem dX4_till_0 : decode cX4_till 0 = .ok (.aload_n 0, 1) := by decide +kernel
theorem dX4_till_1 : decode cX4_till 1 = .ok (.getfield 10, 3) := by decide +kernel
theorem dX4_till_4 : decode cX4_till 4 = .ok (.getfield 196, 3) := by decide +kernel
theorem dX4_till_7 : decode cX4_till 7 = .ok (.ireturn, 1) := by decide +kernel
theorem dX4_paidTolls_0 : decode cX4_paidTolls 0 = .ok (.aload_n 0, 1) := by decide +kernel
theorem dX4_paidTolls_1 : decode cX4_paidTolls 1 = .ok (.getfield 10, 3) := by decide +kernel
theorem dX4_paidTolls_4 : decode cX4_paidTolls 4 = .ok (.getfield 199, 3) := by decide +kernel
theorem dX4_paidTolls_7 : decode cX4_paidTolls 7 = .ok (.ireturn, 1) := by decide +kernel
theorem dX4_crossed_0 : decode cX4_crossed 0 = .ok (.aload_n 0, 1) := by decide +kernel
theorem dX4_crossed_1 : decode cX4_crossed 1 = .ok (.getfield 10, 3) := by decide +kernel
theorem dX4_crossed_4 : decode cX4_crossed 4 = .ok (.getfield 202, 3) := by decide +kernel
theorem dX4_crossed_7 : decode cX4_crossed 7 = .ok (.ireturn, 1) := by decide +kernel
theorem dX4_sunk_0 : decode cX4_sunk 0 = .ok (.aload_n 0, 1) := by decide +kernel
theorem dX4_sunk_1 : decode cX4_sunk 1 = .ok (.getfield 10, 3) := by decide +kernel
theorem dX4_sunk_4 : decode cX4_sunk 4 = .ok (.getfield 205, 3) := by decide +kernel
theorem dX4_sunk_7 : decode cX4_sunk 7 = .ok (.ireturn, 1) := by decide +kernel
theorem dX4_meanStrength_0 : decode cX4_meanStrength 0 = .ok (.aload_n 0, 1) := by decide +kernel
theorem dX4_meanStrength_1 : decode cX4_meanStrength 1 = .ok (.getfield 10, 3) := by decide +kernel
theorem dX4_meanStrength_4 : decode cX4_meanStrength 4 = .ok (.getfield 86, 3) := by decide +kernel
theorem dX4_meanStrength_7 : decode cX4_meanStrength 7 = .ok (.ifCond .ne 13, 3) := by decide +kernel
theorem dX4_meanStrength_10 : decode cX4_meanStrength 10 = .ok (.new 208, 3) := by decide +kernel
theorem dX4_meanStrength_13 : decode cX4_meanStrength 13 = .ok (.dup, 1) := by decide +kernel
theorem dX4_meanStrength_14 : decode cX4_meanStrength 14 = .ok (.ldc 210, 2) := by decide +kernel
theorem dX4_meanStrength_16 : decode cX4_meanStrength 16 = .ok (.invokespecial 212, 3) := by decide +kernel
theorem dX4_meanStrength_19 : decode cX4_meanStrength 19 = .ok (.athrow, 1) := by decide +kernel
theorem dX4_meanStrength_20 : decode cX4_meanStrength 20 = .ok (.iconst 0, 1) := by decide +kernel
theorem dX4_meanStrength_21 : decode cX4_meanStrength 21 = .ok (.istore_n 1, 1) := by decide +kernel
theorem dX4_meanStrength_22 : decode cX4_meanStrength 22 = .ok (.iconst 0, 1) := by decide +kernel
theorem dX4_meanStrength_23 : decode cX4_meanStrength 23 = .ok (.istore_n 2, 1) := by decide +kernel
theorem dX4_meanStrength_24 : decode cX4_meanStrength 24 = .ok (.iload_n 2, 1) := by decide +kernel
theorem dX4_meanStrength_25 : decode cX4_meanStrength 25 = .ok (.aload_n 0, 1) := by decide +kernel
theorem dX4_meanStrength_26 : decode cX4_meanStrength 26 = .ok (.getfield 10, 3) := by decide +kernel
theorem dX4_meanStrength_29 : decode cX4_meanStrength 29 = .ok (.getfield 86, 3) := by decide +kernel
theorem dX4_meanStrength_32 : decode cX4_meanStrength 32 = .ok (.if_icmp .ge 20, 3) := by decide +kernel
theorem dX4_meanStrength_35 : decode cX4_meanStrength 35 = .ok (.iload_n 1, 1) := by decide +kernel
theorem dX4_meanStrength_36 : decode cX4_meanStrength 36 = .ok (.aload_n 0, 1) := by decide +kernel
theorem dX4_meanStrength_37 : decode cX4_meanStrength 37 = .ok (.getfield 10, 3) := by decide +kernel
theorem dX4_meanStrength_40 : decode cX4_meanStrength 40 = .ok (.iload_n 2, 1) := by decide +kernel
theorem dX4_meanStrength_41 : decode cX4_meanStrength 41 = .ok (.invokevirtual 106, 3) := by decide +kernel
theorem dX4_meanStrength_44 : decode cX4_meanStrength 44 = .ok (.iadd, 1) := by decide +kernel
theorem dX4_meanStrength_45 : decode cX4_meanStrength 45 = .ok (.istore_n 1, 1) := by decide +kernel
theorem dX4_meanStrength_46 : decode cX4_meanStrength 46 = .ok (.iinc 2 1, 3) := by decide +kernel
theorem dX4_meanStrength_49 : decode cX4_meanStrength 49 = .ok (.goto (-25), 3) := by decide +kernel
theorem dX4_meanStrength_52 : decode cX4_meanStrength 52 = .ok (.iload_n 1, 1) := by decide +kernel
theorem dX4_meanStrength_53 : decode cX4_meanStrength 53 = .ok (.i2d, 1) := by decide +kernel
theorem dX4_meanStrength_54 : decode cX4_meanStrength 54 = .ok (.aload_n 0, 1) := by decide +kernel
theorem dX4_meanStrength_55 : decode cX4_meanStrength 55 = .ok (.getfield 10, 3) := by decide +kernel
theorem dX4_meanStrength_58 : decode cX4_meanStrength 58 = .ok (.getfield 86, 3) := by decide +kernel
theorem dX4_meanStrength_61 : decode cX4_meanStrength 61 = .ok (.i2d, 1) := by decide +kernel
theorem dX4_meanStrength_62 : decode cX4_meanStrength 62 = .ok (.ddiv, 1) := by decide +kernel
theorem dX4_meanStrength_63 : decode cX4_meanStrength 63 = .ok (.dreturn, 1) := by decide +kernel
theorem dX4_sunkShare_0 : decode cX4_sunkShare 0 = .ok (.aload_n 0, 1) := by decide +kernel
theorem dX4_sunkShare_1 : decode cX4_sunkShare 1 = .ok (.getfield 10, 3) := by decide +kernel
theorem dX4_sunkShare_4 : decode cX4_sunkShare 4 = .ok (.getfield 205, 3) := by decide +kernel
theorem dX4_sunkShare_7 : decode cX4_sunkShare 7 = .ok (.aload_n 0, 1) := by decide +kernel
theorem dX4_sunkShare_8 : decode cX4_sunkShare 8 = .ok (.getfield 10, 3) := by decide +kernel
theorem dX4_sunkShare_11 : decode cX4_sunkShare 11 = .ok (.getfield 202, 3) := by decide +kernel
theorem dX4_sunkShare_14 : decode cX4_sunkShare 14 = .ok (.iadd, 1) := by decide +kernel
theorem dX4_sunkShare_15 : decode cX4_sunkShare 15 = .ok (.istore_n 1, 1) := by decide +kernel
theorem dX4_sunkShare_16 : decode cX4_sunkShare 16 = .ok (.iload_n 1, 1) := by decide +kernel
theorem dX4_sunkShare_17 : decode cX4_sunkShare 17 = .ok (.ifCond .ne 13, 3) := by decide +kernel
theorem dX4_sunkShare_20 : decode cX4_sunkShare 20 = .ok (.new 208, 3) := by decide +kernel
theorem dX4_sunkShare_23 : decode cX4_sunkShare 23 = .ok (.dup, 1) := by decide +kernel
theorem dX4_sunkShare_24 : decode cX4_sunkShare 24 = .ok (.ldc 213, 2) := by decide +kernel
theorem dX4_sunkShare_26 : decode cX4_sunkShare 26 = .ok (.invokespecial 212, 3) := by decide +kernel
theorem dX4_sunkShare_29 : decode cX4_sunkShare 29 = .ok (.athrow, 1) := by decide +kernel
theorem dX4_sunkShare_30 : decode cX4_sunkShare 30 = .ok (.aload_n 0, 1) := by decide +kernel
theorem dX4_sunkShare_31 : decode cX4_sunkShare 31 = .ok (.getfield 10, 3) := by decide +kernel
theorem dX4_sunkShare_34 : decode cX4_sunkShare 34 = .ok (.getfield 205, 3) := by decide +kernel
theorem dX4_sunkShare_37 : decode cX4_sunkShare 37 = .ok (.i2f, 1) := by decide +kernel
theorem dX4_sunkShare_38 : decode cX4_sunkShare 38 = .ok (.iload_n 1, 1) := by decide +kernel
theorem dX4_sunkShare_39 : decode cX4_sunkShare 39 = .ok (.i2f, 1) := by decide +kernel
theorem dX4_sunkShare_40 : decode cX4_sunkShare 40 = .ok (.fdiv, 1) := by decide +kernel
theorem dX4_sunkShare_41 : decode cX4_sunkShare 41 = .ok (.freturn, 1) := by decide +kernel
theorem dX4_feed_0 : decode cX4_feed 0 = .ok (.aload_n 0, 1) := by decide +kernel
theorem dX4_feed_1 : decode cX4_feed 1 = .ok (.getfield 39, 3) := by decide +kernel
theorem dX4_feed_4 : decode cX4_feed 4 = .ok (.getfield 215, 3) := by decide +kernel
theorem dX4_feed_7 : decode cX4_feed 7 = .ok (.bipush 60, 2) := by decide +kernel
theorem dX4_feed_9 : decode cX4_feed 9 = .ok (.if_icmp .lt 13, 3) := by decide +kernel
theorem dX4_feed_12 : decode cX4_feed 12 = .ok (.new 218, 3) := by decide +kernel
theorem dX4_feed_15 : decode cX4_feed 15 = .ok (.dup, 1) := by decide +kernel
theorem dX4_feed_16 : decode cX4_feed 16 = .ok (.ldc 220, 2) := by decide +kernel
theorem dX4_feed_18 : decode cX4_feed 18 = .ok (.invokespecial 222, 3) := by decide +kernel
theorem dX4_feed_21 : decode cX4_feed 21 = .ok (.athrow, 1) := by decide +kernel
theorem dX4_feed_22 : decode cX4_feed 22 = .ok (.aload_n 0, 1) := by decide +kernel
theorem dX4_feed_23 : decode cX4_feed 23 = .ok (.getfield 39, 3) := by decide +kernel
theorem dX4_feed_26 : decode cX4_feed 26 = .ok (.iload_n 1, 1) := by decide +kernel
theorem dX4_feed_27 : decode cX4_feed 27 = .ok (.invokevirtual 223, 3) := by decide +kernel
theorem dX4_feed_30 : decode cX4_feed 30 = .ok (.aload_n 0, 1) := by decide +kernel
theorem dX4_feed_31 : decode cX4_feed 31 = .ok (.getfield 39, 3) := by decide +kernel
theorem dX4_feed_34 : decode cX4_feed 34 = .ok (.getfield 215, 3) := by decide +kernel
theorem dX4_feed_37 : decode cX4_feed 37 = .ok (.ireturn, 1) := by decide +kernel
theorem dX4_execute_0 : decode cX4_execute 0 = .ok (.aload_n 0, 1) := by decide +kernel
theorem dX4_execute_1 : decode cX4_execute 1 = .ok (.getfield 39, 3) := by decide +kernel
theorem dX4_execute_4 : decode cX4_execute 4 = .ok (.invokevirtual 227, 3) := by decide +kernel
theorem dX4_execute_7 : decode cX4_execute 7 = .ok (.istore_n 1, 1) := by decide +kernel
theorem dX4_execute_8 : decode cX4_execute 8 = .ok (.aload_n 0, 1) := by decide +kernel
theorem dX4_execute_9 : decode cX4_execute 9 = .ok (.getfield 39, 3) := by decide +kernel
theorem dX4_execute_12 : decode cX4_execute 12 = .ok (.iconst 0, 1) := by decide +kernel
theorem dX4_execute_13 : decode cX4_execute 13 = .ok (.putfield 215, 3) := by decide +kernel
theorem dX4_execute_16 : decode cX4_execute 16 = .ok (.iload_n 1, 1) := by decide +kernel
theorem dX4_execute_17 : decode cX4_execute 17 = .ok (.ifCond .ne 24, 3) := by decide +kernel
theorem dX4_execute_20 : decode cX4_execute 20 = .ok (.aload_n 0, 1) := by decide +kernel
theorem dX4_execute_21 : decode cX4_execute 21 = .ok (.aload_n 0, 1) := by decide +kernel
theorem dX4_execute_22 : decode cX4_execute 22 = .ok (.getfield 39, 3) := by decide +kernel
theorem dX4_execute_25 : decode cX4_execute 25 = .ok (.getfield 231, 3) := by decide +kernel
theorem dX4_execute_28 : decode cX4_execute 28 = .ok (.putfield 54, 3) := by decide +kernel
theorem dX4_execute_31 : decode cX4_execute 31 = .ok (.new 234, 3) := by decide +kernel
theorem dX4_execute_34 : decode cX4_execute 34 = .ok (.dup, 1) := by decide +kernel
theorem dX4_execute_35 : decode cX4_execute 35 = .ok (.ldc 236, 2) := by decide +kernel
theorem dX4_execute_37 : decode cX4_execute 37 = .ok (.invokespecial 238, 3) := by decide +kernel
theorem dX4_execute_40 : decode cX4_execute 40 = .ok (.athrow, 1) := by decide +kernel
theorem dX4_execute_41 : decode cX4_execute 41 = .ok (.aload_n 0, 1) := by decide +kernel
theorem dX4_execute_42 : decode cX4_execute 42 = .ok (.getfield 16, 3) := by decide +kernel
theorem dX4_execute_45 : decode cX4_execute 45 = .ok (.aload_n 0, 1) := by decide +kernel
theorem dX4_execute_46 : decode cX4_execute 46 = .ok (.getfield 10, 3) := by decide +kernel
theorem dX4_execute_49 : decode cX4_execute 49 = .ok (.invokevirtual 119, 3) := by decide +kernel
theorem dX4_execute_52 : decode cX4_execute 52 = .ok (.iconst 0, 1) := by decide +kernel
theorem dX4_execute_53 : decode cX4_execute 53 = .ok (.istore_n 2, 1) := by decide +kernel
theorem dX4_execute_54 : decode cX4_execute 54 = .ok (.iload_n 2, 1) := by decide +kernel
theorem dX4_execute_55 : decode cX4_execute 55 = .ok (.aload_n 0, 1) := by decide +kernel
theorem dX4_execute_56 : decode cX4_execute 56 = .ok (.getfield 39, 3) := by decide +kernel
theorem dX4_execute_59 : decode cX4_execute 59 = .ok (.getfield 239, 3) := by decide +kernel
theorem dX4_execute_62 : decode cX4_execute 62 = .ok (.if_icmp .ge 108, 3) := by decide +kernel
theorem dX4_execute_65 : decode cX4_execute 65 = .ok (.aload_n 0, 1) := by decide +kernel
theorem dX4_execute_66 : decode cX4_execute 66 = .ok (.getfield 39, 3) := by decide +kernel
theorem dX4_execute_69 : decode cX4_execute 69 = .ok (.getfield 242, 3) := by decide +kernel
theorem dX4_execute_72 : decode cX4_execute 72 = .ok (.iload_n 2, 1) := by decide +kernel
theorem dX4_execute_73 : decode cX4_execute 73 = .ok (.iaload, 1) := by decide +kernel
theorem dX4_execute_74 : decode cX4_execute 74 = .ok (.istore_n 3, 1) := by decide +kernel
theorem dX4_execute_75 : decode cX4_execute 75 = .ok (.aload_n 0, 1) := by decide +kernel
theorem dX4_execute_76 : decode cX4_execute 76 = .ok (.getfield 32, 3) := by decide +kernel
theorem dX4_execute_79 : decode cX4_execute 79 = .ok (.aload_n 0, 1) := by decide +kernel
theorem dX4_execute_80 : decode cX4_execute 80 = .ok (.getfield 16, 3) := by decide +kernel
theorem dX4_execute_83 : decode cX4_execute 83 = .ok (.iload_n 3, 1) := by decide +kernel
theorem dX4_execute_84 : decode cX4_execute 84 = .ok (.aload_n 0, 1) := by decide +kernel
theorem dX4_execute_85 : decode cX4_execute 85 = .ok (.getfield 39, 3) := by decide +kernel
theorem dX4_execute_88 : decode cX4_execute 88 = .ok (.getfield 245, 3) := by decide +kernel
theorem dX4_execute_91 : decode cX4_execute 91 = .ok (.iload_n 2, 1) := by decide +kernel
theorem dX4_execute_92 : decode cX4_execute 92 = .ok (.iaload, 1) := by decide +kernel
theorem dX4_execute_93 : decode cX4_execute 93 = .ok (.aload_n 0, 1) := by decide +kernel
theorem dX4_execute_94 : decode cX4_execute 94 = .ok (.getfield 39, 3) := by decide +kernel
theorem dX4_execute_97 : decode cX4_execute 97 = .ok (.getfield 248, 3) := by decide +kernel
theorem dX4_execute_100 : decode cX4_execute 100 = .ok (.iload_n 2, 1) := by decide +kernel
theorem dX4_execute_101 : decode cX4_execute 101 = .ok (.iaload, 1) := by decide +kernel
theorem dX4_execute_102 : decode cX4_execute 102 = .ok (.invokevirtual 251, 3) := by decide +kernel
theorem dX4_execute_105 : decode cX4_execute 105 = .ok (.ifCond .ne 33, 3) := by decide +kernel
theorem dX4_execute_108 : decode cX4_execute 108 = .ok (.aload_n 0, 1) := by decide +kernel
theorem dX4_execute_109 : decode cX4_execute 109 = .ok (.bipush 8, 2) := by decide +kernel
theorem dX4_execute_111 : decode cX4_execute 111 = .ok (.iload_n 2, 1) := by decide +kernel
theorem dX4_execute_112 : decode cX4_execute 112 = .ok (.aload_n 0, 1) := by decide +kernel
theorem dX4_execute_113 : decode cX4_execute 113 = .ok (.getfield 32, 3) := by decide +kernel
theorem dX4_execute_116 : decode cX4_execute 116 = .ok (.getfield 255, 3) := by decide +kernel
theorem dX4_execute_119 : decode cX4_execute 119 = .ok (.bipush 9, 2) := by decide +kernel
theorem dX4_execute_121 : decode cX4_execute 121 = .ok (.invokestatic 187, 3) := by decide +kernel
theorem dX4_execute_124 : decode cX4_execute 124 = .ok (.invokevirtual 258, 3) := by decide +kernel
theorem dX4_execute_127 : decode cX4_execute 127 = .ok (.new 261, 3) := by decide +kernel
theorem dX4_execute_130 : decode cX4_execute 130 = .ok (.dup, 1) := by decide +kernel
theorem dX4_execute_131 : decode cX4_execute 131 = .ok (.ldc_w 263, 3) := by decide +kernel
theorem dX4_execute_134 : decode cX4_execute 134 = .ok (.invokespecial 265, 3) := by decide +kernel
theorem dX4_execute_137 : decode cX4_execute 137 = .ok (.athrow, 1) := by decide +kernel
theorem dX4_execute_138 : decode cX4_execute 138 = .ok (.aload_n 0, 1) := by decide +kernel
theorem dX4_execute_139 : decode cX4_execute 139 = .ok (.getfield 16, 3) := by decide +kernel
theorem dX4_execute_142 : decode cX4_execute 142 = .ok (.iload_n 3, 1) := by decide +kernel
theorem dX4_execute_143 : decode cX4_execute 143 = .ok (.aload_n 0, 1) := by decide +kernel
theorem dX4_execute_144 : decode cX4_execute 144 = .ok (.getfield 39, 3) := by decide +kernel
theorem dX4_execute_147 : decode cX4_execute 147 = .ok (.getfield 245, 3) := by decide +kernel
theorem dX4_execute_150 : decode cX4_execute 150 = .ok (.iload_n 2, 1) := by decide +kernel
theorem dX4_execute_151 : decode cX4_execute 151 = .ok (.iaload, 1) := by decide +kernel
theorem dX4_execute_152 : decode cX4_execute 152 = .ok (.aload_n 0, 1) := by decide +kernel
theorem dX4_execute_153 : decode cX4_execute 153 = .ok (.getfield 39, 3) := by decide +kernel
theorem dX4_execute_156 : decode cX4_execute 156 = .ok (.getfield 248, 3) := by decide +kernel
theorem dX4_execute_159 : decode cX4_execute 159 = .ok (.iload_n 2, 1) := by decide +kernel
theorem dX4_execute_160 : decode cX4_execute 160 = .ok (.iaload, 1) := by decide +kernel
theorem dX4_execute_161 : decode cX4_execute 161 = .ok (.invokevirtual 266, 3) := by decide +kernel
theorem dX4_execute_164 : decode cX4_execute 164 = .ok (.iinc 2 1, 3) := by decide +kernel
theorem dX4_execute_167 : decode cX4_execute 167 = .ok (.goto (-113), 3) := by decide +kernel
theorem dX4_execute_170 : decode cX4_execute 170 = .ok (.aload_n 0, 1) := by decide +kernel
theorem dX4_execute_171 : decode cX4_execute 171 = .ok (.getfield 25, 3) := by decide +kernel
theorem dX4_execute_174 : decode cX4_execute 174 = .ok (.aload_n 0, 1) := by decide +kernel
theorem dX4_execute_175 : decode cX4_execute 175 = .ok (.getfield 10, 3) := by decide +kernel
theorem dX4_execute_178 : decode cX4_execute 178 = .ok (.invokevirtual 269, 3) := by decide +kernel
theorem dX4_execute_181 : decode cX4_execute 181 = .ok (.aload_n 0, 1) := by decide +kernel
theorem dX4_execute_182 : decode cX4_execute 182 = .ok (.getfield 10, 3) := by decide +kernel
theorem dX4_execute_185 : decode cX4_execute 185 = .ok (.aload_n 0, 1) := by decide +kernel
theorem dX4_execute_186 : decode cX4_execute 186 = .ok (.getfield 16, 3) := by decide +kernel
theorem dX4_execute_189 : decode cX4_execute 189 = .ok (.invokevirtual 119, 3) := by decide +kernel
theorem dX4_execute_192 : decode cX4_execute 192 = .ok (.aload_n 0, 1) := by decide +kernel
theorem dX4_execute_193 : decode cX4_execute 193 = .ok (.getfield 39, 3) := by decide +kernel
theorem dX4_execute_196 : decode cX4_execute 196 = .ok (.getfield 239, 3) := by decide +kernel
theorem dX4_execute_199 : decode cX4_execute 199 = .ok (.ireturn, 1) := by decide +kernel
theorem dX4_faultPosition_0 : decode cX4_faultPosition 0 = .ok (.aload_n 0, 1) := by decide +kernel
theorem dX4_faultPosition_1 : decode cX4_faultPosition 1 = .ok (.getfield 54, 3) := by decide +kernel
theorem dX4_faultPosition_4 : decode cX4_faultPosition 4 = .ok (.iconst (-1), 1) := by decide +kernel
theorem dX4_faultPosition_5 : decode cX4_faultPosition 5 = .ok (.if_icmp .ne 14, 3) := by decide +kernel
theorem dX4_faultPosition_8 : decode cX4_faultPosition 8 = .ok (.new 123, 3) := by decide +kernel
theorem dX4_faultPosition_11 : decode cX4_faultPosition 11 = .ok (.dup, 1) := by decide +kernel
theorem dX4_faultPosition_12 : decode cX4_faultPosition 12 = .ok (.ldc_w 272, 3) := by decide +kernel
theorem dX4_faultPosition_15 : decode cX4_faultPosition 15 = .ok (.invokespecial 127, 3) := by decide +kernel
theorem dX4_faultPosition_18 : decode cX4_faultPosition 18 = .ok (.athrow, 1) := by decide +kernel
theorem dX4_faultPosition_19 : decode cX4_faultPosition 19 = .ok (.aload_n 0, 1) := by decide +kernel
theorem dX4_faultPosition_20 : decode cX4_faultPosition 20 = .ok (.getfield 54, 3) := by decide +kernel
theorem dX4_faultPosition_23 : decode cX4_faultPosition 23 = .ok (.ireturn, 1) := by decide +kernel
theorem dX4_writeSpan_0 : decode cX4_writeSpan 0 = .ok (.aload_n 0, 1) := by decide +kernel
theorem dX4_writeSpan_1 : decode cX4_writeSpan 1 = .ok (.iload_n 1, 1) := by decide +kernel
theorem dX4_writeSpan_2 : decode cX4_writeSpan 2 = .ok (.invokevirtual 89, 3) := by decide +kernel
theorem dX4_writeSpan_5 : decode cX4_writeSpan 5 = .ok (.aload_n 0, 1) := by decide +kernel
theorem dX4_writeSpan_6 : decode cX4_writeSpan 6 = .ok (.getfield 46, 3) := by decide +kernel
theorem dX4_writeSpan_9 : decode cX4_writeSpan 9 = .ok (.iconst 0, 1) := by decide +kernel
theorem dX4_writeSpan_10 : decode cX4_writeSpan 10 = .ok (.invokevirtual 274, 3) := by decide +kernel
theorem dX4_writeSpan_13 : decode cX4_writeSpan 13 = .ok (.aload_n 0, 1) := by decide +kernel
theorem dX4_writeSpan_14 : decode cX4_writeSpan 14 = .ok (.getfield 46, 3) := by decide +kernel
theorem dX4_writeSpan_17 : decode cX4_writeSpan 17 = .ok (.iload_n 1, 1) := by decide +kernel
theorem dX4_writeSpan_18 : decode cX4_writeSpan 18 = .ok (.invokevirtual 277, 3) := by decide +kernel
theorem dX4_writeSpan_21 : decode cX4_writeSpan 21 = .ok (.bipush 58, 2) := by decide +kernel
theorem dX4_writeSpan_23 : decode cX4_writeSpan 23 = .ok (.invokevirtual 280, 3) := by decide +kernel
theorem dX4_writeSpan_26 : decode cX4_writeSpan 26 = .ok (.aload_n 0, 1) := by decide +kernel
theorem dX4_writeSpan_27 : decode cX4_writeSpan 27 = .ok (.getfield 10, 3) := by decide +kernel
theorem dX4_writeSpan_30 : decode cX4_writeSpan 30 = .ok (.getfield 132, 3) := by decide +kernel
theorem dX4_writeSpan_33 : decode cX4_writeSpan 33 = .ok (.iload_n 1, 1) := by decide +kernel
theorem dX4_writeSpan_34 : decode cX4_writeSpan 34 = .ok (.iaload, 1) := by decide +kernel
theorem dX4_writeSpan_35 : decode cX4_writeSpan 35 = .ok (.invokevirtual 277, 3) := by decide +kernel
theorem dX4_writeSpan_38 : decode cX4_writeSpan 38 = .ok (.pop, 1) := by decide +kernel
theorem dX4_writeSpan_39 : decode cX4_writeSpan 39 = .ok (.aload_n 0, 1) := by decide +kernel
theorem dX4_writeSpan_40 : decode cX4_writeSpan 40 = .ok (.getfield 46, 3) := by decide +kernel
theorem dX4_writeSpan_43 : decode cX4_writeSpan 43 = .ok (.bipush 106, 2) := by decide +kernel
theorem dX4_writeSpan_45 : decode cX4_writeSpan 45 = .ok (.invokevirtual 280, 3) := by decide +kernel
theorem dX4_writeSpan_48 : decode cX4_writeSpan 48 = .ok (.aload_n 0, 1) := by decide +kernel
theorem dX4_writeSpan_49 : decode cX4_writeSpan 49 = .ok (.getfield 10, 3) := by decide +kernel
theorem dX4_writeSpan_52 : decode cX4_writeSpan 52 = .ok (.getfield 93, 3) := by decide +kernel
theorem dX4_writeSpan_55 : decode cX4_writeSpan 55 = .ok (.iload_n 1, 1) := by decide +kernel
theorem dX4_writeSpan_56 : decode cX4_writeSpan 56 = .ok (.iaload, 1) := by decide +kernel
theorem dX4_writeSpan_57 : decode cX4_writeSpan 57 = .ok (.invokevirtual 277, 3) := by decide +kernel
theorem dX4_writeSpan_60 : decode cX4_writeSpan 60 = .ok (.pop, 1) := by decide +kernel
theorem dX4_writeSpan_61 : decode cX4_writeSpan 61 = .ok (.aload_n 0, 1) := by decide +kernel
theorem dX4_writeSpan_62 : decode cX4_writeSpan 62 = .ok (.getfield 46, 3) := by decide +kernel
theorem dX4_writeSpan_65 : decode cX4_writeSpan 65 = .ok (.bipush 104, 2) := by decide +kernel
theorem dX4_writeSpan_67 : decode cX4_writeSpan 67 = .ok (.invokevirtual 280, 3) := by decide +kernel
theorem dX4_writeSpan_70 : decode cX4_writeSpan 70 = .ok (.aload_n 0, 1) := by decide +kernel
theorem dX4_writeSpan_71 : decode cX4_writeSpan 71 = .ok (.getfield 10, 3) := by decide +kernel
theorem dX4_writeSpan_74 : decode cX4_writeSpan 74 = .ok (.getfield 97, 3) := by decide +kernel
theorem dX4_writeSpan_77 : decode cX4_writeSpan 77 = .ok (.iload_n 1, 1) := by decide +kernel
theorem dX4_writeSpan_78 : decode cX4_writeSpan 78 = .ok (.iaload, 1) := by decide +kernel
theorem dX4_writeSpan_79 : decode cX4_writeSpan 79 = .ok (.invokevirtual 277, 3) := by decide +kernel
theorem dX4_writeSpan_82 : decode cX4_writeSpan 82 = .ok (.pop, 1) := by decide +kernel
theorem dX4_writeSpan_83 : decode cX4_writeSpan 83 = .ok (.aload_n 0, 1) := by decide +kernel
theorem dX4_writeSpan_84 : decode cX4_writeSpan 84 = .ok (.getfield 46, 3) := by decide +kernel
theorem dX4_writeSpan_87 : decode cX4_writeSpan 87 = .ok (.bipush 61, 2) := by decide +kernel
theorem dX4_writeSpan_89 : decode cX4_writeSpan 89 = .ok (.invokevirtual 280, 3) := by decide +kernel
theorem dX4_writeSpan_92 : decode cX4_writeSpan 92 = .ok (.aload_n 0, 1) := by decide +kernel
theorem dX4_writeSpan_93 : decode cX4_writeSpan 93 = .ok (.getfield 10, 3) := by decide +kernel
theorem dX4_writeSpan_96 : decode cX4_writeSpan 96 = .ok (.iload_n 1, 1) := by decide +kernel
theorem dX4_writeSpan_97 : decode cX4_writeSpan 97 = .ok (.invokevirtual 106, 3) := by decide +kernel
theorem dX4_writeSpan_100 : decode cX4_writeSpan 100 = .ok (.invokevirtual 277, 3) := by decide +kernel
theorem dX4_writeSpan_103 : decode cX4_writeSpan 103 = .ok (.pop, 1) := by decide +kernel
theorem dX4_writeSpan_104 : decode cX4_writeSpan 104 = .ok (.iconst 0, 1) := by decide +kernel
theorem dX4_writeSpan_105 : decode cX4_writeSpan 105 = .ok (.istore_n 2, 1) := by decide +kernel
theorem dX4_writeSpan_106 : decode cX4_writeSpan 106 = .ok (.iload_n 2, 1) := by decide +kernel
theorem dX4_writeSpan_107 : decode cX4_writeSpan 107 = .ok (.aload_n 0, 1) := by decide +kernel
theorem dX4_writeSpan_108 : decode cX4_writeSpan 108 = .ok (.getfield 10, 3) := by decide +kernel
theorem dX4_writeSpan_111 : decode cX4_writeSpan 111 = .ok (.getfield 100, 3) := by decide +kernel
theorem dX4_writeSpan_114 : decode cX4_writeSpan 114 = .ok (.iload_n 1, 1) := by decide +kernel
theorem dX4_writeSpan_115 : decode cX4_writeSpan 115 = .ok (.iaload, 1) := by decide +kernel
theorem dX4_writeSpan_116 : decode cX4_writeSpan 116 = .ok (.if_icmp .ge 19, 3) := by decide +kernel
theorem dX4_writeSpan_119 : decode cX4_writeSpan 119 = .ok (.aload_n 0, 1) := by decide +kernel
theorem dX4_writeSpan_120 : decode cX4_writeSpan 120 = .ok (.getfield 46, 3) := by decide +kernel
theorem dX4_writeSpan_123 : decode cX4_writeSpan 123 = .ok (.bipush 47, 2) := by decide +kernel
theorem dX4_writeSpan_125 : decode cX4_writeSpan 125 = .ok (.invokevirtual 280, 3) := by decide +kernel
theorem dX4_writeSpan_128 : decode cX4_writeSpan 128 = .ok (.pop, 1) := by decide +kernel
theorem dX4_writeSpan_129 : decode cX4_writeSpan 129 = .ok (.iinc 2 1, 3) := by decide +kernel
theorem dX4_writeSpan_132 : decode cX4_writeSpan 132 = .ok (.goto (-26), 3) := by decide +kernel
theorem dX4_writeSpan_135 : decode cX4_writeSpan 135 = .ok (.iconst 0, 1) := by decide +kernel
theorem dX4_writeSpan_136 : decode cX4_writeSpan 136 = .ok (.istore_n 2, 1) := by decide +kernel
theorem dX4_writeSpan_137 : decode cX4_writeSpan 137 = .ok (.iload_n 2, 1) := by decide +kernel
theorem dX4_writeSpan_138 : decode cX4_writeSpan 138 = .ok (.aload_n 0, 1) := by decide +kernel
theorem dX4_writeSpan_139 : decode cX4_writeSpan 139 = .ok (.getfield 10, 3) := by decide +kernel
theorem dX4_writeSpan_142 : decode cX4_writeSpan 142 = .ok (.getfield 154, 3) := by decide +kernel
theorem dX4_writeSpan_145 : decode cX4_writeSpan 145 = .ok (.if_icmp .ge 66, 3) := by decide +kernel
theorem dX4_writeSpan_148 : decode cX4_writeSpan 148 = .ok (.aload_n 0, 1) := by decide +kernel
theorem dX4_writeSpan_149 : decode cX4_writeSpan 149 = .ok (.getfield 10, 3) := by decide +kernel
theorem dX4_writeSpan_152 : decode cX4_writeSpan 152 = .ok (.getfield 171, 3) := by decide +kernel
theorem dX4_writeSpan_155 : decode cX4_writeSpan 155 = .ok (.iload_n 2, 1) := by decide +kernel
theorem dX4_writeSpan_156 : decode cX4_writeSpan 156 = .ok (.iaload, 1) := by decide +kernel
theorem dX4_writeSpan_157 : decode cX4_writeSpan 157 = .ok (.iload_n 1, 1) := by decide +kernel
theorem dX4_writeSpan_158 : decode cX4_writeSpan 158 = .ok (.if_icmp .ne 47, 3) := by decide +kernel
theorem dX4_writeSpan_161 : decode cX4_writeSpan 161 = .ok (.aload_n 0, 1) := by decide +kernel
theorem dX4_writeSpan_162 : decode cX4_writeSpan 162 = .ok (.getfield 46, 3) := by decide +kernel
theorem dX4_writeSpan_165 : decode cX4_writeSpan 165 = .ok (.bipush 32, 2) := by decide +kernel
theorem dX4_writeSpan_167 : decode cX4_writeSpan 167 = .ok (.invokevirtual 280, 3) := by decide +kernel
theorem dX4_writeSpan_170 : decode cX4_writeSpan 170 = .ok (.aload_n 0, 1) := by decide +kernel
theorem dX4_writeSpan_171 : decode cX4_writeSpan 171 = .ok (.getfield 10, 3) := by decide +kernel
theorem dX4_writeSpan_174 : decode cX4_writeSpan 174 = .ok (.getfield 162, 3) := by decide +kernel
theorem dX4_writeSpan_177 : decode cX4_writeSpan 177 = .ok (.iload_n 2, 1) := by decide +kernel
theorem dX4_writeSpan_178 : decode cX4_writeSpan 178 = .ok (.iaload, 1) := by decide +kernel
theorem dX4_writeSpan_179 : decode cX4_writeSpan 179 = .ok (.invokevirtual 277, 3) := by decide +kernel
theorem dX4_writeSpan_182 : decode cX4_writeSpan 182 = .ok (.pop, 1) := by decide +kernel
theorem dX4_writeSpan_183 : decode cX4_writeSpan 183 = .ok (.aload_n 0, 1) := by decide +kernel
theorem dX4_writeSpan_184 : decode cX4_writeSpan 184 = .ok (.getfield 46, 3) := by decide +kernel
theorem dX4_writeSpan_187 : decode cX4_writeSpan 187 = .ok (.bipush 119, 2) := by decide +kernel
theorem dX4_writeSpan_189 : decode cX4_writeSpan 189 = .ok (.invokevirtual 280, 3) := by decide +kernel
theorem dX4_writeSpan_192 : decode cX4_writeSpan 192 = .ok (.aload_n 0, 1) := by decide +kernel
theorem dX4_writeSpan_193 : decode cX4_writeSpan 193 = .ok (.getfield 10, 3) := by decide +kernel
theorem dX4_writeSpan_196 : decode cX4_writeSpan 196 = .ok (.getfield 165, 3) := by decide +kernel
theorem dX4_writeSpan_199 : decode cX4_writeSpan 199 = .ok (.iload_n 2, 1) := by decide +kernel
theorem dX4_writeSpan_200 : decode cX4_writeSpan 200 = .ok (.iaload, 1) := by decide +kernel
theorem dX4_writeSpan_201 : decode cX4_writeSpan 201 = .ok (.invokevirtual 277, 3) := by decide +kernel
theorem dX4_writeSpan_204 : decode cX4_writeSpan 204 = .ok (.pop, 1) := by decide +kernel
theorem dX4_writeSpan_205 : decode cX4_writeSpan 205 = .ok (.iinc 2 1, 3) := by decide +kernel
theorem dX4_writeSpan_208 : decode cX4_writeSpan 208 = .ok (.goto (-71), 3) := by decide +kernel
theorem dX4_writeSpan_211 : decode cX4_writeSpan 211 = .ok (.aload_n 0, 1) := by decide +kernel
theorem dX4_writeSpan_212 : decode cX4_writeSpan 212 = .ok (.getfield 46, 3) := by decide +kernel
theorem dX4_writeSpan_215 : decode cX4_writeSpan 215 = .ok (.invokevirtual 283, 3) := by decide +kernel
theorem dX4_writeSpan_218 : decode cX4_writeSpan 218 = .ok (.ireturn, 1) := by decide +kernel
theorem dX4_writeBridge_0 : decode cX4_writeBridge 0 = .ok (.aload_n 0, 1) := by decide +kernel
theorem dX4_writeBridge_1 : decode cX4_writeBridge 1 = .ok (.getfield 46, 3) := by decide +kernel
theorem dX4_writeBridge_4 : decode cX4_writeBridge 4 = .ok (.iconst 0, 1) := by decide +kernel
theorem dX4_writeBridge_5 : decode cX4_writeBridge 5 = .ok (.invokevirtual 274, 3) := by decide +kernel
theorem dX4_writeBridge_8 : decode cX4_writeBridge 8 = .ok (.iconst 0, 1) := by decide +kernel
theorem dX4_writeBridge_9 : decode cX4_writeBridge 9 = .ok (.istore_n 1, 1) := by decide +kernel
theorem dX4_writeBridge_10 : decode cX4_writeBridge 10 = .ok (.iload_n 1, 1) := by decide +kernel
theorem dX4_writeBridge_11 : decode cX4_writeBridge 11 = .ok (.aload_n 0, 1) := by decide +kernel
theorem dX4_writeBridge_12 : decode cX4_writeBridge 12 = .ok (.getfield 10, 3) := by decide +kernel
theorem dX4_writeBridge_15 : decode cX4_writeBridge 15 = .ok (.getfield 86, 3) := by decide +kernel
theorem dX4_writeBridge_18 : decode cX4_writeBridge 18 = .ok (.if_icmp .ge 60, 3) := by decide +kernel
theorem dX4_writeBridge_21 : decode cX4_writeBridge 21 = .ok (.iload_n 1, 1) := by decide +kernel
theorem dX4_writeBridge_22 : decode cX4_writeBridge 22 = .ok (.ifCond .le 13, 3) := by decide +kernel
theorem dX4_writeBridge_25 : decode cX4_writeBridge 25 = .ok (.aload_n 0, 1) := by decide +kernel
theorem dX4_writeBridge_26 : decode cX4_writeBridge 26 = .ok (.getfield 46, 3) := by decide +kernel
theorem dX4_writeBridge_29 : decode cX4_writeBridge 29 = .ok (.bipush 124, 2) := by decide +kernel
theorem dX4_writeBridge_31 : decode cX4_writeBridge 31 = .ok (.invokevirtual 280, 3) := by decide +kernel
theorem dX4_writeBridge_34 : decode cX4_writeBridge 34 = .ok (.pop, 1) := by decide +kernel
theorem dX4_writeBridge_35 : decode cX4_writeBridge 35 = .ok (.aload_n 0, 1) := by decide +kernel
theorem dX4_writeBridge_36 : decode cX4_writeBridge 36 = .ok (.getfield 46, 3) := by decide +kernel
theorem dX4_writeBridge_39 : decode cX4_writeBridge 39 = .ok (.aload_n 0, 1) := by decide +kernel
theorem dX4_writeBridge_40 : decode cX4_writeBridge 40 = .ok (.getfield 10, 3) := by decide +kernel
theorem dX4_writeBridge_43 : decode cX4_writeBridge 43 = .ok (.iload_n 1, 1) := by decide +kernel
theorem dX4_writeBridge_44 : decode cX4_writeBridge 44 = .ok (.invokevirtual 109, 3) := by decide +kernel
theorem dX4_writeBridge_47 : decode cX4_writeBridge 47 = .ok (.invokevirtual 277, 3) := by decide +kernel
theorem dX4_writeBridge_50 : decode cX4_writeBridge 50 = .ok (.pop, 1) := by decide +kernel
theorem dX4_writeBridge_51 : decode cX4_writeBridge 51 = .ok (.aload_n 0, 1) := by decide +kernel
theorem dX4_writeBridge_52 : decode cX4_writeBridge 52 = .ok (.getfield 10, 3) := by decide +kernel
theorem dX4_writeBridge_55 : decode cX4_writeBridge 55 = .ok (.iload_n 1, 1) := by decide +kernel
theorem dX4_writeBridge_56 : decode cX4_writeBridge 56 = .ok (.invokevirtual 112, 3) := by decide +kernel
theorem dX4_writeBridge_59 : decode cX4_writeBridge 59 = .ok (.ifCond .eq 13, 3) := by decide +kernel
theorem dX4_writeBridge_62 : decode cX4_writeBridge 62 = .ok (.aload_n 0, 1) := by decide +kernel
theorem dX4_writeBridge_63 : decode cX4_writeBridge 63 = .ok (.getfield 46, 3) := by decide +kernel
theorem dX4_writeBridge_66 : decode cX4_writeBridge 66 = .ok (.bipush 33, 2) := by decide +kernel
theorem dX4_writeBridge_68 : decode cX4_writeBridge 68 = .ok (.invokevirtual 280, 3) := by decide +kernel
theorem dX4_writeBridge_71 : decode cX4_writeBridge 71 = .ok (.pop, 1) := by decide +kernel
theorem dX4_writeBridge_72 : decode cX4_writeBridge 72 = .ok (.iinc 1 1, 3) := by decide +kernel
theorem dX4_writeBridge_75 : decode cX4_writeBridge 75 = .ok (.goto (-65), 3) := by decide +kernel
theorem dX4_writeBridge_78 : decode cX4_writeBridge 78 = .ok (.aload_n 0, 1) := by decide +kernel
theorem dX4_writeBridge_79 : decode cX4_writeBridge 79 = .ok (.getfield 46, 3) := by decide +kernel
theorem dX4_writeBridge_82 : decode cX4_writeBridge 82 = .ok (.invokevirtual 283, 3) := by decide +kernel
theorem dX4_writeBridge_85 : decode cX4_writeBridge 85 = .ok (.ireturn, 1) := by decide +kernel
theorem dX4_lineCharacter_0 : decode cX4_lineCharacter 0 = .ok (.iload_n 1, 1) := by decide +kernel
theorem dX4_lineCharacter_1 : decode cX4_lineCharacter 1 = .ok (.ifCond .lt 14, 3) := by decide +kernel
theorem dX4_lineCharacter_4 : decode cX4_lineCharacter 4 = .ok (.iload_n 1, 1) := by decide +kernel
theorem dX4_lineCharacter_5 : decode cX4_lineCharacter 5 = .ok (.aload_n 0, 1) := by decide +kernel
theorem dX4_lineCharacter_6 : decode cX4_lineCharacter 6 = .ok (.getfield 46, 3) := by decide +kernel
theorem dX4_lineCharacter_9 : decode cX4_lineCharacter 9 = .ok (.invokevirtual 283, 3) := by decide +kernel
theorem dX4_lineCharacter_12 : decode cX4_lineCharacter 12 = .ok (.if_icmp .lt 14, 3) := by decide +kernel
theorem dX4_lineCharacter_15 : decode cX4_lineCharacter 15 = .ok (.new 157, 3) := by decide +kernel
theorem dX4_lineCharacter_18 : decode cX4_lineCharacter 18 = .ok (.dup, 1) := by decide +kernel
theorem dX4_lineCharacter_19 : decode cX4_lineCharacter 19 = .ok (.ldc_w 285, 3) := by decide +kernel
theorem dX4_lineCharacter_22 : decode cX4_lineCharacter 22 = .ok (.invokespecial 161, 3) := by decide +kernel
theorem dX4_lineCharacter_25 : decode cX4_lineCharacter 25 = .ok (.athrow, 1) := by decide +kernel
theorem dX4_lineCharacter_26 : decode cX4_lineCharacter 26 = .ok (.aload_n 0, 1) := by decide +kernel
theorem dX4_lineCharacter_27 : decode cX4_lineCharacter 27 = .ok (.getfield 46, 3) := by decide +kernel
theorem dX4_lineCharacter_30 : decode cX4_lineCharacter 30 = .ok (.iload_n 1, 1) := by decide +kernel
theorem dX4_lineCharacter_31 : decode cX4_lineCharacter 31 = .ok (.invokevirtual 287, 3) := by decide +kernel
theorem dX4_lineCharacter_34 : decode cX4_lineCharacter 34 = .ok (.ireturn, 1) := by decide +kernel
theorem dX4_denial_0 : decode cX4_denial 0 = .ok (.aload_n 0, 1) := by decide +kernel
theorem dX4_denial_1 : decode cX4_denial 1 = .ok (.invokevirtual 291, 3) := by decide +kernel
theorem dX4_denial_4 : decode cX4_denial 4 = .ok (.aload_n 0, 1) := by decide +kernel
theorem dX4_denial_5 : decode cX4_denial 5 = .ok (.getfield 58, 3) := by decide +kernel
theorem dX4_denial_8 : decode cX4_denial 8 = .ok (.ireturn, 1) := by decide +kernel
theorem dX4_denialDetail_0 : decode cX4_denialDetail 0 = .ok (.aload_n 0, 1) := by decide +kernel
theorem dX4_denialDetail_1 : decode cX4_denialDetail 1 = .ok (.invokevirtual 291, 3) := by decide +kernel
theorem dX4_denialDetail_4 : decode cX4_denialDetail 4 = .ok (.aload_n 0, 1) := by decide +kernel
theorem dX4_denialDetail_5 : decode cX4_denialDetail 5 = .ok (.getfield 61, 3) := by decide +kernel
theorem dX4_denialDetail_8 : decode cX4_denialDetail 8 = .ok (.ireturn, 1) := by decide +kernel
theorem dX4_denialCause_0 : decode cX4_denialCause 0 = .ok (.aload_n 0, 1) := by decide +kernel
theorem dX4_denialCause_1 : decode cX4_denialCause 1 = .ok (.getfield 64, 3) := by decide +kernel
theorem dX4_denialCause_4 : decode cX4_denialCause 4 = .ok (.ifCond .ne 14, 3) := by decide +kernel
theorem dX4_denialCause_7 : decode cX4_denialCause 7 = .ok (.new 123, 3) := by decide +kernel
theorem dX4_denialCause_10 : decode cX4_denialCause 10 = .ok (.dup, 1) := by decide +kernel
theorem dX4_denialCause_11 : decode cX4_denialCause 11 = .ok (.ldc_w 294, 3) := by decide +kernel
theorem dX4_denialCause_14 : decode cX4_denialCause 14 = .ok (.invokespecial 127, 3) := by decide +kernel
theorem dX4_denialCause_17 : decode cX4_denialCause 17 = .ok (.athrow, 1) := by decide +kernel
theorem dX4_denialCause_18 : decode cX4_denialCause 18 = .ok (.aload_n 0, 1) := by decide +kernel
theorem dX4_denialCause_19 : decode cX4_denialCause 19 = .ok (.getfield 64, 3) := by decide +kernel
theorem dX4_denialCause_22 : decode cX4_denialCause 22 = .ok (.ireturn, 1) := by decide +kernel
theorem dX4_undo_0 : decode cX4_undo 0 = .ok (.aload_n 0, 1) := by decide +kernel
theorem dX4_undo_1 : decode cX4_undo 1 = .ok (.getfield 25, 3) := by decide +kernel
theorem dX4_undo_4 : decode cX4_undo 4 = .ok (.getfield 296, 3) := by decide +kernel
theorem dX4_undo_7 : decode cX4_undo 7 = .ok (.ifCond .ne 14, 3) := by decide +kernel
theorem dX4_undo_10 : decode cX4_undo 10 = .ok (.new 218, 3) := by decide +kernel
theorem dX4_undo_13 : decode cX4_undo 13 = .ok (.dup, 1) := by decide +kernel
theorem dX4_undo_14 : decode cX4_undo 14 = .ok (.ldc_w 299, 3) := by decide +kernel
theorem dX4_undo_17 : decode cX4_undo 17 = .ok (.invokespecial 222, 3) := by decide +kernel
theorem dX4_undo_20 : decode cX4_undo 20 = .ok (.athrow, 1) := by decide +kernel
theorem dX4_undo_21 : decode cX4_undo 21 = .ok (.aload_n 0, 1) := by decide +kernel
theorem dX4_undo_22 : decode cX4_undo 22 = .ok (.getfield 25, 3) := by decide +kernel
theorem dX4_undo_25 : decode cX4_undo 25 = .ok (.aload_n 0, 1) := by decide +kernel
theorem dX4_undo_26 : decode cX4_undo 26 = .ok (.getfield 10, 3) := by decide +kernel
theorem dX4_undo_29 : decode cX4_undo 29 = .ok (.invokevirtual 301, 3) := by decide +kernel
theorem dX4_undo_32 : decode cX4_undo 32 = .ok (.aload_n 0, 1) := by decide +kernel
theorem dX4_undo_33 : decode cX4_undo 33 = .ok (.getfield 25, 3) := by decide +kernel
theorem dX4_undo_36 : decode cX4_undo 36 = .ok (.getfield 296, 3) := by decide +kernel
theorem dX4_undo_39 : decode cX4_undo 39 = .ok (.ireturn, 1) := by decide +kernel
theorem dX4_undoCount_0 : decode cX4_undoCount 0 = .ok (.aload_n 0, 1) := by decide +kernel
theorem dX4_undoCount_1 : decode cX4_undoCount 1 = .ok (.getfield 25, 3) := by decide +kernel
theorem dX4_undoCount_4 : decode cX4_undoCount 4 = .ok (.getfield 296, 3) := by decide +kernel
theorem dX4_undoCount_7 : decode cX4_undoCount 7 = .ok (.ireturn, 1) := by decide +kernel
theorem dX4_saveSnapshot_0 : decode cX4_saveSnapshot 0 = .ok (.aload_n 0, 1) := by decide +kernel
theorem dX4_saveSnapshot_1 : decode cX4_saveSnapshot 1 = .ok (.getfield 19, 3) := by decide +kernel
theorem dX4_saveSnapshot_4 : decode cX4_saveSnapshot 4 = .ok (.aload_n 0, 1) := by decide +kernel
theorem dX4_saveSnapshot_5 : decode cX4_saveSnapshot 5 = .ok (.getfield 10, 3) := by decide +kernel
theorem dX4_saveSnapshot_8 : decode cX4_saveSnapshot 8 = .ok (.invokevirtual 119, 3) := by decide +kernel
theorem dX4_saveSnapshot_11 : decode cX4_saveSnapshot 11 = .ok (.aload_n 0, 1) := by decide +kernel
theorem dX4_saveSnapshot_12 : decode cX4_saveSnapshot 12 = .ok (.iconst 1, 1) := by decide +kernel
theorem dX4_saveSnapshot_13 : decode cX4_saveSnapshot 13 = .ok (.putfield 50, 3) := by decide +kernel
theorem dX4_saveSnapshot_16 : decode cX4_saveSnapshot 16 = .ok (.aload_n 0, 1) := by decide +kernel
theorem dX4_saveSnapshot_17 : decode cX4_saveSnapshot 17 = .ok (.getfield 10, 3) := by decide +kernel
theorem dX4_saveSnapshot_20 : decode cX4_saveSnapshot 20 = .ok (.getfield 86, 3) := by decide +kernel
theorem dX4_saveSnapshot_23 : decode cX4_saveSnapshot 23 = .ok (.ireturn, 1) := by decide +kernel
theorem dX4_restoreSnapshot_0 : decode cX4_restoreSnapshot 0 = .ok (.aload_n 0, 1) := by decide +kernel
theorem dX4_restoreSnapshot_1 : decode cX4_restoreSnapshot 1 = .ok (.getfield 50, 3) := by decide +kernel
theorem dX4_restoreSnapshot_4 : decode cX4_restoreSnapshot 4 = .ok (.ifCond .ne 14, 3) := by decide +kernel
theorem dX4_restoreSnapshot_7 : decode cX4_restoreSnapshot 7 = .ok (.new 218, 3) := by decide +kernel
theorem dX4_restoreSnapshot_10 : decode cX4_restoreSnapshot 10 = .ok (.dup, 1) := by decide +kernel
theorem dX4_restoreSnapshot_11 : decode cX4_restoreSnapshot 11 = .ok (.ldc_w 304, 3) := by decide +kernel
theorem dX4_restoreSnapshot_14 : decode cX4_restoreSnapshot 14 = .ok (.invokespecial 222, 3) := by decide +kernel
theorem dX4_restoreSnapshot_17 : decode cX4_restoreSnapshot 17 = .ok (.athrow, 1) := by decide +kernel
theorem dX4_restoreSnapshot_18 : decode cX4_restoreSnapshot 18 = .ok (.aload_n 0, 1) := by decide +kernel
theorem dX4_restoreSnapshot_19 : decode cX4_restoreSnapshot 19 = .ok (.getfield 10, 3) := by decide +kernel
theorem dX4_restoreSnapshot_22 : decode cX4_restoreSnapshot 22 = .ok (.aload_n 0, 1) := by decide +kernel
theorem dX4_restoreSnapshot_23 : decode cX4_restoreSnapshot 23 = .ok (.getfield 19, 3) := by decide +kernel
theorem dX4_restoreSnapshot_26 : decode cX4_restoreSnapshot 26 = .ok (.invokevirtual 119, 3) := by decide +kernel
theorem dX4_restoreSnapshot_29 : decode cX4_restoreSnapshot 29 = .ok (.aload_n 0, 1) := by decide +kernel
theorem dX4_restoreSnapshot_30 : decode cX4_restoreSnapshot 30 = .ok (.getfield 25, 3) := by decide +kernel
theorem dX4_restoreSnapshot_33 : decode cX4_restoreSnapshot 33 = .ok (.iconst 0, 1) := by decide +kernel
theorem dX4_restoreSnapshot_34 : decode cX4_restoreSnapshot 34 = .ok (.putfield 296, 3) := by decide +kernel
theorem dX4_restoreSnapshot_37 : decode cX4_restoreSnapshot 37 = .ok (.aload_n 0, 1) := by decide +kernel
theorem dX4_restoreSnapshot_38 : decode cX4_restoreSnapshot 38 = .ok (.getfield 10, 3) := by decide +kernel
theorem dX4_restoreSnapshot_41 : decode cX4_restoreSnapshot 41 = .ok (.getfield 86, 3) := by decide +kernel
theorem dX4_restoreSnapshot_44 : decode cX4_restoreSnapshot 44 = .ok (.ireturn, 1) := by decide +kernel
theorem dX4_prepare_0 : decode cX4_prepare 0 = .ok (.aload_n 0, 1) := by decide +kernel
theorem dX4_prepare_1 : decode cX4_prepare 1 = .ok (.getfield 32, 3) := by decide +kernel
theorem dX4_prepare_4 : decode cX4_prepare 4 = .ok (.aload_n 0, 1) := by decide +kernel
theorem dX4_prepare_5 : decode cX4_prepare 5 = .ok (.getfield 10, 3) := by decide +kernel
theorem dX4_prepare_8 : decode cX4_prepare 8 = .ok (.iload_n 1, 1) := by decide +kernel
theorem dX4_prepare_9 : decode cX4_prepare 9 = .ok (.iload_n 2, 1) := by decide +kernel
theorem dX4_prepare_10 : decode cX4_prepare 10 = .ok (.iload_n 3, 1) := by decide +kernel
theorem dX4_prepare_11 : decode cX4_prepare 11 = .ok (.invokevirtual 251, 3) := by decide +kernel
theorem dX4_prepare_14 : decode cX4_prepare 14 = .ok (.istore 4, 2) := by decide +kernel
theorem dX4_prepare_16 : decode cX4_prepare 16 = .ok (.iload 4, 2) := by decide +kernel
theorem dX4_prepare_18 : decode cX4_prepare 18 = .ok (.ifCond .ne 26, 3) := by decide +kernel
theorem dX4_prepare_21 : decode cX4_prepare 21 = .ok (.aload_n 0, 1) := by decide +kernel
theorem dX4_prepare_22 : decode cX4_prepare 22 = .ok (.getfield 32, 3) := by decide +kernel
theorem dX4_prepare_25 : decode cX4_prepare 25 = .ok (.getfield 255, 3) := by decide +kernel
theorem dX4_prepare_28 : decode cX4_prepare 28 = .ok (.bipush 10, 2) := by decide +kernel
theorem dX4_prepare_30 : decode cX4_prepare 30 = .ok (.if_icmp .ne 14, 3) := by decide +kernel
theorem dX4_prepare_33 : decode cX4_prepare 33 = .ok (.new 157, 3) := by decide +kernel
theorem dX4_prepare_36 : decode cX4_prepare 36 = .ok (.dup, 1) := by decide +kernel
theorem dX4_prepare_37 : decode cX4_prepare 37 = .ok (.ldc_w 306, 3) := by decide +kernel
theorem dX4_prepare_40 : decode cX4_prepare 40 = .ok (.invokespecial 161, 3) := by decide +kernel
theorem dX4_prepare_43 : decode cX4_prepare 43 = .ok (.athrow, 1) := by decide +kernel
theorem dX4_prepare_44 : decode cX4_prepare 44 = .ok (.iload 4, 2) := by decide +kernel
theorem dX4_prepare_46 : decode cX4_prepare 46 = .ok (.ifCond .ne 26, 3) := by decide +kernel
theorem dX4_prepare_49 : decode cX4_prepare 49 = .ok (.aload_n 0, 1) := by decide +kernel
theorem dX4_prepare_50 : decode cX4_prepare 50 = .ok (.getfield 32, 3) := by decide +kernel
theorem dX4_prepare_53 : decode cX4_prepare 53 = .ok (.getfield 255, 3) := by decide +kernel
theorem dX4_prepare_56 : decode cX4_prepare 56 = .ok (.bipush 9, 2) := by decide +kernel
theorem dX4_prepare_58 : decode cX4_prepare 58 = .ok (.if_icmp .ne 14, 3) := by decide +kernel
theorem dX4_prepare_61 : decode cX4_prepare 61 = .ok (.new 234, 3) := by decide +kernel
theorem dX4_prepare_64 : decode cX4_prepare 64 = .ok (.dup, 1) := by decide +kernel
theorem dX4_prepare_65 : decode cX4_prepare 65 = .ok (.ldc_w 308, 3) := by decide +kernel
theorem dX4_prepare_68 : decode cX4_prepare 68 = .ok (.invokespecial 238, 3) := by decide +kernel
theorem dX4_prepare_71 : decode cX4_prepare 71 = .ok (.athrow, 1) := by decide +kernel
theorem dX4_prepare_72 : decode cX4_prepare 72 = .ok (.iload 4, 2) := by decide +kernel
theorem dX4_prepare_74 : decode cX4_prepare 74 = .ok (.ifCond .ne 33, 3) := by decide +kernel
theorem dX4_prepare_77 : decode cX4_prepare 77 = .ok (.aload_n 0, 1) := by decide +kernel
theorem dX4_prepare_78 : decode cX4_prepare 78 = .ok (.aload_n 0, 1) := by decide +kernel
theorem dX4_prepare_79 : decode cX4_prepare 79 = .ok (.getfield 32, 3) := by decide +kernel
theorem dX4_prepare_82 : decode cX4_prepare 82 = .ok (.getfield 255, 3) := by decide +kernel
theorem dX4_prepare_85 : decode cX4_prepare 85 = .ok (.aload_n 0, 1) := by decide +kernel
theorem dX4_prepare_86 : decode cX4_prepare 86 = .ok (.getfield 32, 3) := by decide +kernel
theorem dX4_prepare_89 : decode cX4_prepare 89 = .ok (.getfield 310, 3) := by decide +kernel
theorem dX4_prepare_92 : decode cX4_prepare 92 = .ok (.iconst 0, 1) := by decide +kernel
theorem dX4_prepare_93 : decode cX4_prepare 93 = .ok (.invokevirtual 258, 3) := by decide +kernel
theorem dX4_prepare_96 : decode cX4_prepare 96 = .ok (.new 261, 3) := by decide +kernel
theorem dX4_prepare_99 : decode cX4_prepare 99 = .ok (.dup, 1) := by decide +kernel
theorem dX4_prepare_100 : decode cX4_prepare 100 = .ok (.ldc_w 313, 3) := by decide +kernel
theorem dX4_prepare_103 : decode cX4_prepare 103 = .ok (.invokespecial 265, 3) := by decide +kernel
theorem dX4_prepare_106 : decode cX4_prepare 106 = .ok (.athrow, 1) := by decide +kernel
theorem dX4_prepare_107 : decode cX4_prepare 107 = .ok (.aload_n 0, 1) := by decide +kernel
theorem dX4_prepare_108 : decode cX4_prepare 108 = .ok (.getfield 25, 3) := by decide +kernel
theorem dX4_prepare_111 : decode cX4_prepare 111 = .ok (.aload_n 0, 1) := by decide +kernel
theorem dX4_prepare_112 : decode cX4_prepare 112 = .ok (.getfield 10, 3) := by decide +kernel
theorem dX4_prepare_115 : decode cX4_prepare 115 = .ok (.invokevirtual 269, 3) := by decide +kernel
theorem dX4_prepare_118 : decode cX4_prepare 118 = .ok (.return_, 1) := by decide +kernel
theorem dX4_keepDenial_0 : decode cX4_keepDenial 0 = .ok (.aload_n 0, 1) := by decide +kernel
theorem dX4_keepDenial_1 : decode cX4_keepDenial 1 = .ok (.iload_n 1, 1) := by decide +kernel
theorem dX4_keepDenial_2 : decode cX4_keepDenial 2 = .ok (.putfield 58, 3) := by decide +kernel
theorem dX4_keepDenial_5 : decode cX4_keepDenial 5 = .ok (.aload_n 0, 1) := by decide +kernel
theorem dX4_keepDenial_6 : decode cX4_keepDenial 6 = .ok (.iload_n 2, 1) := by decide +kernel
theorem dX4_keepDenial_7 : decode cX4_keepDenial 7 = .ok (.putfield 61, 3) := by decide +kernel
theorem dX4_keepDenial_10 : decode cX4_keepDenial 10 = .ok (.aload_n 0, 1) := by decide +kernel
theorem dX4_keepDenial_11 : decode cX4_keepDenial 11 = .ok (.iload_n 3, 1) := by decide +kernel
theorem dX4_keepDenial_12 : decode cX4_keepDenial 12 = .ok (.putfield 64, 3) := by decide +kernel
theorem dX4_keepDenial_15 : decode cX4_keepDenial 15 = .ok (.return_, 1) := by decide +kernel
theorem dX4_requireDenial_0 : decode cX4_requireDenial 0 = .ok (.aload_n 0, 1) := by decide +kernel
theorem dX4_requireDenial_1 : decode cX4_requireDenial 1 = .ok (.getfield 58, 3) := by decide +kernel
theorem dX4_requireDenial_4 : decode cX4_requireDenial 4 = .ok (.ifCond .ne 14, 3) := by decide +kernel
theorem dX4_requireDenial_7 : decode cX4_requireDenial 7 = .ok (.new 123, 3) := by decide +kernel
theorem dX4_requireDenial_10 : decode cX4_requireDenial 10 = .ok (.dup, 1) := by decide +kernel
theorem dX4_requireDenial_11 : decode cX4_requireDenial 11 = .ok (.ldc_w 315, 3) := by decide +kernel
theorem dX4_requireDenial_14 : decode cX4_requireDenial 14 = .ok (.invokespecial 127, 3) := by decide +kernel
theorem dX4_requireDenial_17 : decode cX4_requireDenial 17 = .ok (.athrow, 1) := by decide +kernel
theorem dX4_requireDenial_18 : decode cX4_requireDenial 18 = .ok (.return_, 1) := by decide +kernel
theorem dX4_requireSpan_0 : decode cX4_requireSpan 0 = .ok (.aload_n 0, 1) := by decide +kernel
theorem dX4_requireSpan_1 : decode cX4_requireSpan 1 = .ok (.getfield 10, 3) := by decide +kernel
theorem dX4_requireSpan_4 : decode cX4_requireSpan 4 = .ok (.iload_n 1, 1) := by decide +kernel
theorem dX4_requireSpan_5 : decode cX4_requireSpan 5 = .ok (.invokevirtual 317, 3) := by decide +kernel
theorem dX4_requireSpan_8 : decode cX4_requireSpan 8 = .ok (.ifCond .ne 14, 3) := by decide +kernel
theorem dX4_requireSpan_11 : decode cX4_requireSpan 11 = .ok (.new 157, 3) := by decide +kernel
theorem dX4_requireSpan_14 : decode cX4_requireSpan 14 = .ok (.dup, 1) := by decide +kernel
theorem dX4_requireSpan_15 : decode cX4_requireSpan 15 = .ok (.ldc_w 306, 3) := by decide +kernel
theorem dX4_requireSpan_18 : decode cX4_requireSpan 18 = .ok (.invokespecial 161, 3) := by decide +kernel
theorem dX4_requireSpan_21 : decode cX4_requireSpan 21 = .ok (.athrow, 1) := by decide +kernel
theorem dX4_requireSpan_22 : decode cX4_requireSpan 22 = .ok (.return_, 1) := by decide +kernel
theorem dX4_requireWeight_0 : decode cX4_requireWeight 0 = .ok (.iload_n 1, 1) := by decide +kernel
theorem dX4_requireWeight_1 : decode cX4_requireWeight 1 = .ok (.iconst 1, 1) := by decide +kernel
theorem dX4_requireWeight_2 : decode cX4_requireWeight 2 = .ok (.if_icmp .lt 9, 3) := by decide +kernel
theorem dX4_requireWeight_5 : decode cX4_requireWeight 5 = .ok (.iload_n 1, 1) := by decide +kernel
theorem dX4_requireWeight_6 : decode cX4_requireWeight 6 = .ok (.bipush 99, 2) := by decide +kernel
theorem dX4_requireWeight_8 : decode cX4_requireWeight 8 = .ok (.if_icmp .le 14, 3) := by decide +kernel
theorem dX4_requireWeight_11 : decode cX4_requireWeight 11 = .ok (.new 234, 3) := by decide +kernel
theorem dX4_requireWeight_14 : decode cX4_requireWeight 14 = .ok (.dup, 1) := by decide +kernel
theorem dX4_requireWeight_15 : decode cX4_requireWeight 15 = .ok (.ldc_w 320, 3) := by decide +kernel
theorem dX4_requireWeight_18 : decode cX4_requireWeight 18 = .ok (.invokespecial 238, 3) := by decide +kernel
theorem dX4_requireWeight_21 : decode cX4_requireWeight 21 = .ok (.athrow, 1) := by decide +kernel
theorem dX4_requireWeight_22 : decode cX4_requireWeight 22 = .ok (.return_, 1) := by decide +kernel
theorem dX4_requirePosition_0 : decode cX4_requirePosition 0 = .ok (.aload_n 0, 1) := by decide +kernel
theorem dX4_requirePosition_1 : decode cX4_requirePosition 1 = .ok (.getfield 10, 3) := by decide +kernel
theorem dX4_requirePosition_4 : decode cX4_requirePosition 4 = .ok (.iload_n 1, 1) := by decide +kernel
theorem dX4_requirePosition_5 : decode cX4_requirePosition 5 = .ok (.invokevirtual 177, 3) := by decide +kernel
theorem dX4_requirePosition_8 : decode cX4_requirePosition 8 = .ok (.istore_n 2, 1) := by decide +kernel
theorem dX4_requirePosition_9 : decode cX4_requirePosition 9 = .ok (.iload_n 2, 1) := by decide +kernel
theorem dX4_requirePosition_10 : decode cX4_requirePosition 10 = .ok (.iconst (-1), 1) := by decide +kernel
theorem dX4_requirePosition_11 : decode cX4_requirePosition 11 = .ok (.if_icmp .ne 14, 3) := by decide +kernel
theorem dX4_requirePosition_14 : decode cX4_requirePosition 14 = .ok (.new 123, 3) := by decide +kernel
theorem dX4_requirePosition_17 : decode cX4_requirePosition 17 = .ok (.dup, 1) := by decide +kernel
theorem dX4_requirePosition_18 : decode cX4_requirePosition 18 = .ok (.ldc_w 322, 3) := by decide +kernel
theorem dX4_requirePosition_21 : decode cX4_requirePosition 21 = .ok (.invokespecial 127, 3) := by decide +kernel
theorem dX4_requirePosition_24 : decode cX4_requirePosition 24 = .ok (.athrow, 1) := by decide +kernel
theorem dX4_requirePosition_25 : decode cX4_requirePosition 25 = .ok (.iload_n 2, 1) := by decide +kernel
theorem dX4_requirePosition_26 : decode cX4_requirePosition 26 = .ok (.ireturn, 1) := by decide +kernel
