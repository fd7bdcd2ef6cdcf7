theorem dX0_init_0 : decode cX0_init 0 = .ok (.aload_n 0, 1) := by decide +kernel
theorem dX0_init_1 : decode cX0_init 1 = .ok (.invokespecial 3, 3) := by decide +kernel
theorem dX0_init_4 : decode cX0_init 4 = .ok (.aload_n 0, 1) := by decide +kernel
theorem dX0_init_5 : decode cX0_init 5 = .ok (.iconst 0, 1) := by decide +kernel
theorem dX0_init_6 : decode cX0_init 6 = .ok (.putfield 9, 3) := by decide +kernel
theorem dX0_init_9 : decode cX0_init 9 = .ok (.aload_n 0, 1) := by decide +kernel
theorem dX0_init_10 : decode cX0_init 10 = .ok (.bipush 10, 2) := by decide +kernel
theorem dX0_init_12 : decode cX0_init 12 = .ok (.newarray .int, 2) := by decide +kernel
theorem dX0_init_14 : decode cX0_init 14 = .ok (.putfield 15, 3) := by decide +kernel
theorem dX0_init_17 : decode cX0_init 17 = .ok (.aload_n 0, 1) := by decide +kernel
theorem dX0_init_18 : decode cX0_init 18 = .ok (.bipush 10, 2) := by decide +kernel
theorem dX0_init_20 : decode cX0_init 20 = .ok (.newarray .int, 2) := by decide +kernel
theorem dX0_init_22 : decode cX0_init 22 = .ok (.putfield 19, 3) := by decide +kernel
theorem dX0_init_25 : decode cX0_init 25 = .ok (.aload_n 0, 1) := by decide +kernel
theorem dX0_init_26 : decode cX0_init 26 = .ok (.bipush 10, 2) := by decide +kernel
theorem dX0_init_28 : decode cX0_init 28 = .ok (.newarray .int, 2) := by decide +kernel
theorem dX0_init_30 : decode cX0_init 30 = .ok (.putfield 22, 3) := by decide +kernel
theorem dX0_init_33 : decode cX0_init 33 = .ok (.aload_n 0, 1) := by decide +kernel
theorem dX0_init_34 : decode cX0_init 34 = .ok (.bipush 10, 2) := by decide +kernel
theorem dX0_init_36 : decode cX0_init 36 = .ok (.newarray .int, 2) := by decide +kernel
theorem dX0_init_38 : decode cX0_init 38 = .ok (.putfield 25, 3) := by decide +kernel
theorem dX0_init_41 : decode cX0_init 41 = .ok (.aload_n 0, 1) := by decide +kernel
theorem dX0_init_42 : decode cX0_init 42 = .ok (.bipush 10, 2) := by decide +kernel
theorem dX0_init_44 : decode cX0_init 44 = .ok (.newarray .int, 2) := by decide +kernel
theorem dX0_init_46 : decode cX0_init 46 = .ok (.putfield 28, 3) := by decide +kernel
theorem dX0_init_49 : decode cX0_init 49 = .ok (.aload_n 0, 1) := by decide +kernel
theorem dX0_init_50 : decode cX0_init 50 = .ok (.iconst 0, 1) := by decide +kernel
theorem dX0_init_51 : decode cX0_init 51 = .ok (.putfield 31, 3) := by decide +kernel
theorem dX0_init_54 : decode cX0_init 54 = .ok (.aload_n 0, 1) := by decide +kernel
theorem dX0_init_55 : decode cX0_init 55 = .ok (.bipush 8, 2) := by decide +kernel
theorem dX0_init_57 : decode cX0_init 57 = .ok (.newarray .int, 2) := by decide +kernel
theorem dX0_init_59 : decode cX0_init 59 = .ok (.putfield 34, 3) := by decide +kernel
theorem dX0_init_62 : decode cX0_init 62 = .ok (.aload_n 0, 1) := by decide +kernel
theorem dX0_init_63 : decode cX0_init 63 = .ok (.bipush 8, 2) := by decide +kernel
theorem dX0_init_65 : decode cX0_init 65 = .ok (.newarray .int, 2) := by decide +kernel
theorem dX0_init_67 : decode cX0_init 67 = .ok (.putfield 37, 3) := by decide +kernel
theorem dX0_init_70 : decode cX0_init 70 = .ok (.aload_n 0, 1) := by decide +kernel
theorem dX0_init_71 : decode cX0_init 71 = .ok (.bipush 8, 2) := by decide +kernel
theorem dX0_init_73 : decode cX0_init 73 = .ok (.newarray .int, 2) := by decide +kernel
theorem dX0_init_75 : decode cX0_init 75 = .ok (.putfield 40, 3) := by decide +kernel
theorem dX0_init_78 : decode cX0_init 78 = .ok (.aload_n 0, 1) := by decide +kernel
theorem dX0_init_79 : decode cX0_init 79 = .ok (.iconst 0, 1) := by decide +kernel
theorem dX0_init_80 : decode cX0_init 80 = .ok (.putfield 43, 3) := by decide +kernel
theorem dX0_init_83 : decode cX0_init 83 = .ok (.aload_n 0, 1) := by decide +kernel
theorem dX0_init_84 : decode cX0_init 84 = .ok (.iconst 0, 1) := by decide +kernel
theorem dX0_init_85 : decode cX0_init 85 = .ok (.putfield 46, 3) := by decide +kernel
theorem dX0_init_88 : decode cX0_init 88 = .ok (.aload_n 0, 1) := by decide +kernel
theorem dX0_init_89 : decode cX0_init 89 = .ok (.iconst 5, 1) := by decide +kernel
theorem dX0_init_90 : decode cX0_init 90 = .ok (.putfield 49, 3) := by decide +kernel
theorem dX0_init_93 : decode cX0_init 93 = .ok (.aload_n 0, 1) := by decide +kernel
theorem dX0_init_94 : decode cX0_init 94 = .ok (.iconst 0, 1) := by decide +kernel
theorem dX0_init_95 : decode cX0_init 95 = .ok (.putfield 52, 3) := by decide +kernel
theorem dX0_init_98 : decode cX0_init 98 = .ok (.aload_n 0, 1) := by decide +kernel
theorem dX0_init_99 : decode cX0_init 99 = .ok (.iconst 0, 1) := by decide +kernel
theorem dX0_init_100 : decode cX0_init 100 = .ok (.putfield 55, 3) := by decide +kernel
theorem dX0_init_103 : decode cX0_init 103 = .ok (.aload_n 0, 1) := by decide +kernel
theorem dX0_init_104 : decode cX0_init 104 = .ok (.iconst 0, 1) := by decide +kernel
theorem dX0_init_105 : decode cX0_init 105 = .ok (.putfield 58, 3) := by decide +kernel
theorem dX0_init_108 : decode cX0_init 108 = .ok (.aload_n 0, 1) := by decide +kernel
theorem dX0_init_109 : decode cX0_init 109 = .ok (.iconst 0, 1) := by decide +kernel
theorem dX0_init_110 : decode cX0_init 110 = .ok (.putfield 61, 3) := by decide +kernel
theorem dX0_init_113 : decode cX0_init 113 = .ok (.return_, 1) := by decide +kernel
theorem dX0_copyFrom_0 : decode cX0_copyFrom 0 = .ok (.aload_n 0, 1) := by decide +kernel
theorem dX0_copyFrom_1 : decode cX0_copyFrom 1 = .ok (.aload_n 1, 1) := by decide +kernel
theorem dX0_copyFrom_2 : decode cX0_copyFrom 2 = .ok (.getfield 9, 3) := by decide +kernel
theorem dX0_copyFrom_5 : decode cX0_copyFrom 5 = .ok (.putfield 9, 3) := by decide +kernel
theorem dX0_copyFrom_8 : decode cX0_copyFrom 8 = .ok (.aload_n 1, 1) := by decide +kernel
theorem dX0_copyFrom_9 : decode cX0_copyFrom 9 = .ok (.getfield 15, 3) := by decide +kernel
theorem dX0_copyFrom_12 : decode cX0_copyFrom 12 = .ok (.iconst 0, 1) := by decide +kernel
theorem dX0_copyFrom_13 : decode cX0_copyFrom 13 = .ok (.aload_n 0, 1) := by decide +kernel
theorem dX0_copyFrom_14 : decode cX0_copyFrom 14 = .ok (.getfield 15, 3) := by decide +kernel
theorem dX0_copyFrom_17 : decode cX0_copyFrom 17 = .ok (.iconst 0, 1) := by decide +kernel
theorem dX0_copyFrom_18 : decode cX0_copyFrom 18 = .ok (.bipush 10, 2) := by decide +kernel
theorem dX0_copyFrom_20 : decode cX0_copyFrom 20 = .ok (.invokestatic 64, 3) := by decide +kernel
theorem dX0_copyFrom_23 : decode cX0_copyFrom 23 = .ok (.aload_n 1, 1) := by decide +kernel
theorem dX0_copyFrom_24 : decode cX0_copyFrom 24 = .ok (.getfield 19, 3) := by decide +kernel
theorem dX0_copyFrom_27 : decode cX0_copyFrom 27 = .ok (.iconst 0, 1) := by decide +kernel
theorem dX0_copyFrom_28 : decode cX0_copyFrom 28 = .ok (.aload_n 0, 1) := by decide +kernel
theorem dX0_copyFrom_29 : decode cX0_copyFrom 29 = .ok (.getfield 19, 3) := by decide +kernel
theorem dX0_copyFrom_32 : decode cX0_copyFrom 32 = .ok (.iconst 0, 1) := by decide +kernel
theorem dX0_copyFrom_33 : decode cX0_copyFrom 33 = .ok (.bipush 10, 2) := by decide +kernel
theorem dX0_copyFrom_35 : decode cX0_copyFrom 35 = .ok (.invokestatic 64, 3) := by decide +kernel
theorem dX0_copyFrom_38 : decode cX0_copyFrom 38 = .ok (.aload_n 1, 1) := by decide +kernel
theorem dX0_copyFrom_39 : decode cX0_copyFrom 39 = .ok (.getfield 22, 3) := by decide +kernel
theorem dX0_copyFrom_42 : decode cX0_copyFrom 42 = .ok (.iconst 0, 1) := by decide +kernel
theorem dX0_copyFrom_43 : decode cX0_copyFrom 43 = .ok (.aload_n 0, 1) := by decide +kernel
theorem dX0_copyFrom_44 : decode cX0_copyFrom 44 = .ok (.getfield 22, 3) := by decide +kernel
theorem dX0_copyFrom_47 : decode cX0_copyFrom 47 = .ok (.iconst 0, 1) := by decide +kernel
theorem dX0_copyFrom_48 : decode cX0_copyFrom 48 = .ok (.bipush 10, 2) := by decide +kernel
theorem dX0_copyFrom_50 : decode cX0_copyFrom 50 = .ok (.invokestatic 64, 3) := by decide +kernel
theorem dX0_copyFrom_53 : decode cX0_copyFrom 53 = .ok (.aload_n 1, 1) := by decide +kernel
theorem dX0_copyFrom_54 : decode cX0_copyFrom 54 = .ok (.getfield 25, 3) := by decide +kernel
theorem dX0_copyFrom_57 : decode cX0_copyFrom 57 = .ok (.iconst 0, 1) := by decide +kernel
theorem dX0_copyFrom_58 : decode cX0_copyFrom 58 = .ok (.aload_n 0, 1) := by decide +kernel
theorem dX0_copyFrom_59 : decode cX0_copyFrom 59 = .ok (.getfield 25, 3) := by decide +kernel
theorem dX0_copyFrom_62 : decode cX0_copyFrom 62 = .ok (.iconst 0, 1) := by decide +kernel
theorem dX0_copyFrom_63 : decode cX0_copyFrom 63 = .ok (.bipush 10, 2) := by decide +kernel
theorem dX0_copyFrom_65 : decode cX0_copyFrom 65 = .ok (.invokestatic 64, 3) := by decide +kernel
theorem dX0_copyFrom_68 : decode cX0_copyFrom 68 = .ok (.aload_n 1, 1) := by decide +kernel
theorem dX0_copyFrom_69 : decode cX0_copyFrom 69 = .ok (.getfield 28, 3) := by decide +kernel
theorem dX0_copyFrom_72 : decode cX0_copyFrom 72 = .ok (.iconst 0, 1) := by decide +kernel
theorem dX0_copyFrom_73 : decode cX0_copyFrom 73 = .ok (.aload_n 0, 1) := by decide +kernel
theorem dX0_copyFrom_74 : decode cX0_copyFrom 74 = .ok (.getfield 28, 3) := by decide +kernel
theorem dX0_copyFrom_77 : decode cX0_copyFrom 77 = .ok (.iconst 0, 1) := by decide +kernel
theorem dX0_copyFrom_78 : decode cX0_copyFrom 78 = .ok (.bipush 10, 2) := by decide +kernel
theorem dX0_copyFrom_80 : decode cX0_copyFrom 80 = .ok (.invokestatic 64, 3) := by decide +kernel
theorem dX0_copyFrom_83 : decode cX0_copyFrom 83 = .ok (.aload_n 0, 1) := by decide +kernel
theorem dX0_copyFrom_84 : decode cX0_copyFrom 84 = .ok (.aload_n 1, 1) := by decide +kernel
theorem dX0_copyFrom_85 : decode cX0_copyFrom 85 = .ok (.getfield 31, 3) := by decide +kernel
theorem dX0_copyFrom_88 : decode cX0_copyFrom 88 = .ok (.putfield 31, 3) := by decide +kernel
theorem dX0_copyFrom_91 : decode cX0_copyFrom 91 = .ok (.aload_n 1, 1) := by decide +kernel
theorem dX0_copyFrom_92 : decode cX0_copyFrom 92 = .ok (.getfield 34, 3) := by decide +kernel
theorem dX0_copyFrom_95 : decode cX0_copyFrom 95 = .ok (.iconst 0, 1) := by decide +kernel
theorem dX0_copyFrom_96 : decode cX0_copyFrom 96 = .ok (.aload_n 0, 1) := by decide +kernel
theorem dX0_copyFrom_97 : decode cX0_copyFrom 97 = .ok (.getfield 34, 3) := by decide +kernel
theorem dX0_copyFrom_100 : decode cX0_copyFrom 100 = .ok (.iconst 0, 1) := by decide +kernel
theorem dX0_copyFrom_101 : decode cX0_copyFrom 101 = .ok (.bipush 8, 2) := by decide +kernel
theorem dX0_copyFrom_103 : decode cX0_copyFrom 103 = .ok (.invokestatic 64, 3) := by decide +kernel
theorem dX0_copyFrom_106 : decode cX0_copyFrom 106 = .ok (.aload_n 1, 1) := by decide +kernel
theorem dX0_copyFrom_107 : decode cX0_copyFrom 107 = .ok (.getfield 37, 3) := by decide +kernel
theorem dX0_copyFrom_110 : decode cX0_copyFrom 110 = .ok (.iconst 0, 1) := by decide +kernel
theorem dX0_copyFrom_111 : decode cX0_copyFrom 111 = .ok (.aload_n 0, 1) := by decide +kernel
theorem dX0_copyFrom_112 : decode cX0_copyFrom 112 = .ok (.getfield 37, 3) := by decide +kernel
theorem dX0_copyFrom_115 : decode cX0_copyFrom 115 = .ok (.iconst 0, 1) := by decide +kernel
theorem dX0_copyFrom_116 : decode cX0_copyFrom 116 = .ok (.bipush 8, 2) := by decide +kernel
theorem dX0_copyFrom_118 : decode cX0_copyFrom 118 = .ok (.invokestatic 64, 3) := by decide +kernel
theorem dX0_copyFrom_121 : decode cX0_copyFrom 121 = .ok (.aload_n 1, 1) := by decide +kernel
theorem dX0_copyFrom_122 : decode cX0_copyFrom 122 = .ok (.getfield 40, 3) := by decide +kernel
theorem dX0_copyFrom_125 : decode cX0_copyFrom 125 = .ok (.iconst 0, 1) := by decide +kernel
theorem dX0_copyFrom_126 : decode cX0_copyFrom 126 = .ok (.aload_n 0, 1) := by decide +kernel
theorem dX0_copyFrom_127 : decode cX0_copyFrom 127 = .ok (.getfield 40, 3) := by decide +kernel
theorem dX0_copyFrom_130 : decode cX0_copyFrom 130 = .ok (.iconst 0, 1) := by decide +kernel
theorem dX0_copyFrom_131 : decode cX0_copyFrom 131 = .ok (.bipush 8, 2) := by decide +kernel
theorem dX0_copyFrom_133 : decode cX0_copyFrom 133 = .ok (.invokestatic 64, 3) := by decide +kernel
theorem dX0_copyFrom_136 : decode cX0_copyFrom 136 = .ok (.aload_n 0, 1) := by decide +kernel
theorem dX0_copyFrom_137 : decode cX0_copyFrom 137 = .ok (.aload_n 1, 1) := by decide +kernel
theorem dX0_copyFrom_138 : decode cX0_copyFrom 138 = .ok (.getfield 43, 3) := by decide +kernel
theorem dX0_copyFrom_141 : decode cX0_copyFrom 141 = .ok (.putfield 43, 3) := by decide +kernel
theorem dX0_copyFrom_144 : decode cX0_copyFrom 144 = .ok (.aload_n 0, 1) := by decide +kernel
theorem dX0_copyFrom_145 : decode cX0_copyFrom 145 = .ok (.aload_n 1, 1) := by decide +kernel
theorem dX0_copyFrom_146 : decode cX0_copyFrom 146 = .ok (.getfield 46, 3) := by decide +kernel
theorem dX0_copyFrom_149 : decode cX0_copyFrom 149 = .ok (.putfield 46, 3) := by decide +kernel
theorem dX0_copyFrom_152 : decode cX0_copyFrom 152 = .ok (.aload_n 0, 1) := by decide +kernel
theorem dX0_copyFrom_153 : decode cX0_copyFrom 153 = .ok (.aload_n 1, 1) := by decide +kernel
theorem dX0_copyFrom_154 : decode cX0_copyFrom 154 = .ok (.getfield 49, 3) := by decide +kernel
theorem dX0_copyFrom_157 : decode cX0_copyFrom 157 = .ok (.putfield 49, 3) := by decide +kernel
theorem dX0_copyFrom_160 : decode cX0_copyFrom 160 = .ok (.aload_n 0, 1) := by decide +kernel
theorem dX0_copyFrom_161 : decode cX0_copyFrom 161 = .ok (.aload_n 1, 1) := by decide +kernel
theorem dX0_copyFrom_162 : decode cX0_copyFrom 162 = .ok (.getfield 52, 3) := by decide +kernel
theorem dX0_copyFrom_165 : decode cX0_copyFrom 165 = .ok (.putfield 52, 3) := by decide +kernel
theorem dX0_copyFrom_168 : decode cX0_copyFrom 168 = .ok (.aload_n 0, 1) := by decide +kernel
theorem dX0_copyFrom_169 : decode cX0_copyFrom 169 = .ok (.aload_n 1, 1) := by decide +kernel
theorem dX0_copyFrom_170 : decode cX0_copyFrom 170 = .ok (.getfield 55, 3) := by decide +kernel
theorem dX0_copyFrom_173 : decode cX0_copyFrom 173 = .ok (.putfield 55, 3) := by decide +kernel
theorem dX0_copyFrom_176 : decode cX0_copyFrom 176 = .ok (.aload_n 0, 1) := by decide +kernel
theorem dX0_copyFrom_177 : decode cX0_copyFrom 177 = .ok (.aload_n 1, 1) := by decide +kernel
theorem dX0_copyFrom_178 : decode cX0_copyFrom 178 = .ok (.getfield 58, 3) := by decide +kernel
theorem dX0_copyFrom_181 : decode cX0_copyFrom 181 = .ok (.putfield 58, 3) := by decide +kernel
theorem dX0_copyFrom_184 : decode cX0_copyFrom 184 = .ok (.aload_n 0, 1) := by decide +kernel
theorem dX0_copyFrom_185 : decode cX0_copyFrom 185 = .ok (.aload_n 1, 1) := by decide +kernel
theorem dX0_copyFrom_186 : decode cX0_copyFrom 186 = .ok (.getfield 61, 3) := by decide +kernel
theorem dX0_copyFrom_189 : decode cX0_copyFrom 189 = .ok (.putfield 61, 3) := by decide +kernel
theorem dX0_copyFrom_192 : decode cX0_copyFrom 192 = .ok (.return_, 1) := by decide +kernel
theorem dX0_hasSpan_0 : decode cX0_hasSpan 0 = .ok (.iload_n 1, 1) := by decide +kernel
theorem dX0_hasSpan_1 : decode cX0_hasSpan 1 = .ok (.ifCond .lt 21, 3) := by decide +kernel
theorem dX0_hasSpan_4 : decode cX0_hasSpan 4 = .ok (.iload_n 1, 1) := by decide +kernel
theorem dX0_hasSpan_5 : decode cX0_hasSpan 5 = .ok (.aload_n 0, 1) := by decide +kernel
theorem dX0_hasSpan_6 : decode cX0_hasSpan 6 = .ok (.getfield 9, 3) := by decide +kernel
theorem dX0_hasSpan_9 : decode cX0_hasSpan 9 = .ok (.if_icmp .ge 13, 3) := by decide +kernel
theorem dX0_hasSpan_12 : decode cX0_hasSpan 12 = .ok (.iload_n 1, 1) := by decide +kernel
theorem dX0_hasSpan_13 : decode cX0_hasSpan 13 = .ok (.bipush 10, 2) := by decide +kernel
theorem dX0_hasSpan_15 : decode cX0_hasSpan 15 = .ok (.if_icmp .ge 7, 3) := by decide +kernel
theorem dX0_hasSpan_18 : decode cX0_hasSpan 18 = .ok (.iconst 1, 1) := by decide +kernel
theorem dX0_hasSpan_19 : decode cX0_hasSpan 19 = .ok (.goto 4, 3) := by decide +kernel
theorem dX0_hasSpan_22 : decode cX0_hasSpan 22 = .ok (.iconst 0, 1) := by decide +kernel
theorem dX0_hasSpan_23 : decode cX0_hasSpan 23 = .ok (.ireturn, 1) := by decide +kernel
theorem dX0_hasPosition_0 : decode cX0_hasPosition 0 = .ok (.iload_n 1, 1) := by decide +kernel
theorem dX0_hasPosition_1 : decode cX0_hasPosition 1 = .ok (.ifCond .lt 21, 3) := by decide +kernel
theorem dX0_hasPosition_4 : decode cX0_hasPosition 4 = .ok (.iload_n 1, 1) := by decide +kernel
theorem dX0_hasPosition_5 : decode cX0_hasPosition 5 = .ok (.aload_n 0, 1) := by decide +kernel
theorem dX0_hasPosition_6 : decode cX0_hasPosition 6 = .ok (.getfield 31, 3) := by decide +kernel
theorem dX0_hasPosition_9 : decode cX0_hasPosition 9 = .ok (.if_icmp .ge 13, 3) := by decide +kernel
theorem dX0_hasPosition_12 : decode cX0_hasPosition 12 = .ok (.iload_n 1, 1) := by decide +kernel
theorem dX0_hasPosition_13 : decode cX0_hasPosition 13 = .ok (.bipush 8, 2) := by decide +kernel
theorem dX0_hasPosition_15 : decode cX0_hasPosition 15 = .ok (.if_icmp .ge 7, 3) := by decide +kernel
theorem dX0_hasPosition_18 : decode cX0_hasPosition 18 = .ok (.iconst 1, 1) := by decide +kernel
theorem dX0_hasPosition_19 : decode cX0_hasPosition 19 = .ok (.goto 4, 3) := by decide +kernel
theorem dX0_hasPosition_22 : decode cX0_hasPosition 22 = .ok (.iconst 0, 1) := by decide +kernel
theorem dX0_hasPosition_23 : decode cX0_hasPosition 23 = .ok (.ireturn, 1) := by decide +kernel
theorem dX0_strengthOf_0 : decode cX0_strengthOf 0 = .ok (.aload_n 0, 1) := by decide +kernel
theorem dX0_strengthOf_1 : decode cX0_strengthOf 1 = .ok (.iload_n 1, 1) := by decide +kernel
theorem dX0_strengthOf_2 : decode cX0_strengthOf 2 = .ok (.invokevirtual 70, 3) := by decide +kernel
theorem dX0_strengthOf_5 : decode cX0_strengthOf 5 = .ok (.ifCond .eq 13, 3) := by decide +kernel
theorem dX0_strengthOf_8 : decode cX0_strengthOf 8 = .ok (.aload_n 0, 1) := by decide +kernel
theorem dX0_strengthOf_9 : decode cX0_strengthOf 9 = .ok (.getfield 15, 3) := by decide +kernel
theorem dX0_strengthOf_12 : decode cX0_strengthOf 12 = .ok (.iload_n 1, 1) := by decide +kernel
theorem dX0_strengthOf_13 : decode cX0_strengthOf 13 = .ok (.iaload, 1) := by decide +kernel
theorem dX0_strengthOf_14 : decode cX0_strengthOf 14 = .ok (.iconst 1, 1) := by decide +kernel
theorem dX0_strengthOf_15 : decode cX0_strengthOf 15 = .ok (.if_icmp .ge 5, 3) := by decide +kernel
theorem dX0_strengthOf_18 : decode cX0_strengthOf 18 = .ok (.iconst 0, 1) := by decide +kernel
theorem dX0_strengthOf_19 : decode cX0_strengthOf 19 = .ok (.ireturn, 1) := by decide +kernel
theorem dX0_strengthOf_20 : decode cX0_strengthOf 20 = .ok (.aload_n 0, 1) := by decide +kernel
theorem dX0_strengthOf_21 : decode cX0_strengthOf 21 = .ok (.getfield 19, 3) := by decide +kernel
theorem dX0_strengthOf_24 : decode cX0_strengthOf 24 = .ok (.iload_n 1, 1) := by decide +kernel
theorem dX0_strengthOf_25 : decode cX0_strengthOf 25 = .ok (.iaload, 1) := by decide +kernel
theorem dX0_strengthOf_26 : decode cX0_strengthOf 26 = .ok (.aload_n 0, 1) := by decide +kernel
theorem dX0_strengthOf_27 : decode cX0_strengthOf 27 = .ok (.getfield 22, 3) := by decide +kernel
theorem dX0_strengthOf_30 : decode cX0_strengthOf 30 = .ok (.iload_n 1, 1) := by decide +kernel
theorem dX0_strengthOf_31 : decode cX0_strengthOf 31 = .ok (.iaload, 1) := by decide +kernel
theorem dX0_strengthOf_32 : decode cX0_strengthOf 32 = .ok (.bipush 24, 2) := by decide +kernel
theorem dX0_strengthOf_34 : decode cX0_strengthOf 34 = .ok (.invokestatic 74, 3) := by decide +kernel
theorem dX0_strengthOf_37 : decode cX0_strengthOf 37 = .ok (.imul, 1) := by decide +kernel
theorem dX0_strengthOf_38 : decode cX0_strengthOf 38 = .ok (.aload_n 0, 1) := by decide +kernel
theorem dX0_strengthOf_39 : decode cX0_strengthOf 39 = .ok (.getfield 15, 3) := by decide +kernel
theorem dX0_strengthOf_42 : decode cX0_strengthOf 42 = .ok (.iload_n 1, 1) := by decide +kernel
theorem dX0_strengthOf_43 : decode cX0_strengthOf 43 = .ok (.iaload, 1) := by decide +kernel
theorem dX0_strengthOf_44 : decode cX0_strengthOf 44 = .ok (.idiv, 1) := by decide +kernel
theorem dX0_strengthOf_45 : decode cX0_strengthOf 45 = .ok (.istore_n 2, 1) := by decide +kernel
theorem dX0_strengthOf_46 : decode cX0_strengthOf 46 = .ok (.iload_n 2, 1) := by decide +kernel
theorem dX0_strengthOf_47 : decode cX0_strengthOf 47 = .ok (.bipush 10, 2) := by decide +kernel
theorem dX0_strengthOf_49 : decode cX0_strengthOf 49 = .ok (.aload_n 0, 1) := by decide +kernel
theorem dX0_strengthOf_50 : decode cX0_strengthOf 50 = .ok (.getfield 25, 3) := by decide +kernel
theorem dX0_strengthOf_53 : decode cX0_strengthOf 53 = .ok (.iload_n 1, 1) := by decide +kernel
theorem dX0_strengthOf_54 : decode cX0_strengthOf 54 = .ok (.iaload, 1) := by decide +kernel
theorem dX0_strengthOf_55 : decode cX0_strengthOf 55 = .ok (.isub, 1) := by decide +kernel
theorem dX0_strengthOf_56 : decode cX0_strengthOf 56 = .ok (.imul, 1) := by decide +kernel
theorem dX0_strengthOf_57 : decode cX0_strengthOf 57 = .ok (.bipush 10, 2) := by decide +kernel
theorem dX0_strengthOf_59 : decode cX0_strengthOf 59 = .ok (.idiv, 1) := by decide +kernel
theorem dX0_strengthOf_60 : decode cX0_strengthOf 60 = .ok (.ireturn, 1) := by decide +kernel
theorem dX0_loadOf_0 : decode cX0_loadOf 0 = .ok (.iconst 0, 1) := by decide +kernel
theorem dX0_loadOf_1 : decode cX0_loadOf 1 = .ok (.istore_n 2, 1) := by decide +kernel
theorem dX0_loadOf_2 : decode cX0_loadOf 2 = .ok (.iconst 0, 1) := by decide +kernel
theorem dX0_loadOf_3 : decode cX0_loadOf 3 = .ok (.istore_n 3, 1) := by decide +kernel
theorem dX0_loadOf_4 : decode cX0_loadOf 4 = .ok (.iload_n 3, 1) := by decide +kernel
theorem dX0_loadOf_5 : decode cX0_loadOf 5 = .ok (.aload_n 0, 1) := by decide +kernel
theorem dX0_loadOf_6 : decode cX0_loadOf 6 = .ok (.getfield 31, 3) := by decide +kernel
theorem dX0_loadOf_9 : decode cX0_loadOf 9 = .ok (.if_icmp .ge 28, 3) := by decide +kernel
theorem dX0_loadOf_12 : decode cX0_loadOf 12 = .ok (.aload_n 0, 1) := by decide +kernel
theorem dX0_loadOf_13 : decode cX0_loadOf 13 = .ok (.getfield 40, 3) := by decide +kernel
theorem dX0_loadOf_16 : decode cX0_loadOf 16 = .ok (.iload_n 3, 1) := by decide +kernel
theorem dX0_loadOf_17 : decode cX0_loadOf 17 = .ok (.iaload, 1) := by decide +kernel
theorem dX0_loadOf_18 : decode cX0_loadOf 18 = .ok (.iload_n 1, 1) := by decide +kernel
theorem dX0_loadOf_19 : decode cX0_loadOf 19 = .ok (.if_icmp .ne 12, 3) := by decide +kernel
theorem dX0_loadOf_22 : decode cX0_loadOf 22 = .ok (.iload_n 2, 1) := by decide +kernel
theorem dX0_loadOf_23 : decode cX0_loadOf 23 = .ok (.aload_n 0, 1) := by decide +kernel
theorem dX0_loadOf_24 : decode cX0_loadOf 24 = .ok (.getfield 37, 3) := by decide +kernel
theorem dX0_loadOf_27 : decode cX0_loadOf 27 = .ok (.iload_n 3, 1) := by decide +kernel
theorem dX0_loadOf_28 : decode cX0_loadOf 28 = .ok (.iaload, 1) := by decide +kernel
theorem dX0_loadOf_29 : decode cX0_loadOf 29 = .ok (.iadd, 1) := by decide +kernel
theorem dX0_loadOf_30 : decode cX0_loadOf 30 = .ok (.istore_n 2, 1) := by decide +kernel
theorem dX0_loadOf_31 : decode cX0_loadOf 31 = .ok (.iinc 3 1, 3) := by decide +kernel
theorem dX0_loadOf_34 : decode cX0_loadOf 34 = .ok (.goto (-30), 3) := by decide +kernel
theorem dX0_loadOf_37 : decode cX0_loadOf 37 = .ok (.iload_n 2, 1) := by decide +kernel
theorem dX0_loadOf_38 : decode cX0_loadOf 38 = .ok (.ireturn, 1) := by decide +kernel
theorem dX0_strains_0 : decode cX0_strains 0 = .ok (.aload_n 0, 1) := by decide +kernel
theorem dX0_strains_1 : decode cX0_strains 1 = .ok (.iload_n 1, 1) := by decide +kernel
theorem dX0_strains_2 : decode cX0_strains 2 = .ok (.invokevirtual 80, 3) := by decide +kernel
theorem dX0_strains_5 : decode cX0_strains 5 = .ok (.iconst 5, 1) := by decide +kernel
theorem dX0_strains_6 : decode cX0_strains 6 = .ok (.imul, 1) := by decide +kernel
theorem dX0_strains_7 : decode cX0_strains 7 = .ok (.aload_n 0, 1) := by decide +kernel
theorem dX0_strains_8 : decode cX0_strains 8 = .ok (.iload_n 1, 1) := by decide +kernel
theorem dX0_strains_9 : decode cX0_strains 9 = .ok (.invokevirtual 84, 3) := by decide +kernel
theorem dX0_strains_12 : decode cX0_strains 12 = .ok (.iconst 4, 1) := by decide +kernel
theorem dX0_strains_13 : decode cX0_strains 13 = .ok (.imul, 1) := by decide +kernel
theorem dX0_strains_14 : decode cX0_strains 14 = .ok (.if_icmp .le 7, 3) := by decide +kernel
theorem dX0_strains_17 : decode cX0_strains 17 = .ok (.iconst 1, 1) := by decide +kernel
theorem dX0_strains_18 : decode cX0_strains 18 = .ok (.goto 4, 3) := by decide +kernel
theorem dX0_strains_21 : decode cX0_strains 21 = .ok (.iconst 0, 1) := by decide +kernel
theorem dX0_strains_22 : decode cX0_strains 22 = .ok (.ireturn, 1) := by decide +kernel
theorem dX0_rankOf_0 : decode cX0_rankOf 0 = .ok (.iconst 0, 1) := by decide +kernel
theorem dX0_rankOf_1 : decode cX0_rankOf 1 = .ok (.istore_n 2, 1) := by decide +kernel
theorem dX0_rankOf_2 : decode cX0_rankOf 2 = .ok (.iconst 0, 1) := by decide +kernel
theorem dX0_rankOf_3 : decode cX0_rankOf 3 = .ok (.istore_n 3, 1) := by decide +kernel
theorem dX0_rankOf_4 : decode cX0_rankOf 4 = .ok (.iload_n 3, 1) := by decide +kernel
theorem dX0_rankOf_5 : decode cX0_rankOf 5 = .ok (.aload_n 0, 1) := by decide +kernel
theorem dX0_rankOf_6 : decode cX0_rankOf 6 = .ok (.getfield 9, 3) := by decide +kernel
theorem dX0_rankOf_9 : decode cX0_rankOf 9 = .ok (.if_icmp .ge 26, 3) := by decide +kernel
theorem dX0_rankOf_12 : decode cX0_rankOf 12 = .ok (.iload_n 3, 1) := by decide +kernel
theorem dX0_rankOf_13 : decode cX0_rankOf 13 = .ok (.iload_n 1, 1) := by decide +kernel
theorem dX0_rankOf_14 : decode cX0_rankOf 14 = .ok (.if_icmp .eq 15, 3) := by decide +kernel
theorem dX0_rankOf_17 : decode cX0_rankOf 17 = .ok (.aload_n 0, 1) := by decide +kernel
theorem dX0_rankOf_18 : decode cX0_rankOf 18 = .ok (.iload_n 3, 1) := by decide +kernel
theorem dX0_rankOf_19 : decode cX0_rankOf 19 = .ok (.iload_n 1, 1) := by decide +kernel
theorem dX0_rankOf_20 : decode cX0_rankOf 20 = .ok (.invokevirtual 87, 3) := by decide +kernel
theorem dX0_rankOf_23 : decode cX0_rankOf 23 = .ok (.ifCond .eq 6, 3) := by decide +kernel
theorem dX0_rankOf_26 : decode cX0_rankOf 26 = .ok (.iinc 2 1, 3) := by decide +kernel
theorem dX0_rankOf_29 : decode cX0_rankOf 29 = .ok (.iinc 3 1, 3) := by decide +kernel
theorem dX0_rankOf_32 : decode cX0_rankOf 32 = .ok (.goto (-28), 3) := by decide +kernel
theorem dX0_rankOf_35 : decode cX0_rankOf 35 = .ok (.iload_n 2, 1) := by decide +kernel
theorem dX0_rankOf_36 : decode cX0_rankOf 36 = .ok (.ireturn, 1) := by decide +kernel
theorem dX0_comesBefore_0 : decode cX0_comesBefore 0 = .ok (.aload_n 0, 1) := by decide +kernel
theorem dX0_comesBefore_1 : decode cX0_comesBefore 1 = .ok (.iload_n 1, 1) := by decide +kernel
theorem dX0_comesBefore_2 : decode cX0_comesBefore 2 = .ok (.invokevirtual 70, 3) := by decide +kernel
theorem dX0_comesBefore_5 : decode cX0_comesBefore 5 = .ok (.ifCond .eq 11, 3) := by decide +kernel
theorem dX0_comesBefore_8 : decode cX0_comesBefore 8 = .ok (.aload_n 0, 1) := by decide +kernel
theorem dX0_comesBefore_9 : decode cX0_comesBefore 9 = .ok (.iload_n 2, 1) := by decide +kernel
theorem dX0_comesBefore_10 : decode cX0_comesBefore 10 = .ok (.invokevirtual 70, 3) := by decide +kernel
theorem dX0_comesBefore_13 : decode cX0_comesBefore 13 = .ok (.ifCond .ne 5, 3) := by decide +kernel
theorem dX0_comesBefore_16 : decode cX0_comesBefore 16 = .ok (.iconst 0, 1) := by decide +kernel
theorem dX0_comesBefore_17 : decode cX0_comesBefore 17 = .ok (.ireturn, 1) := by decide +kernel
theorem dX0_comesBefore_18 : decode cX0_comesBefore 18 = .ok (.aload_n 0, 1) := by decide +kernel
theorem dX0_comesBefore_19 : decode cX0_comesBefore 19 = .ok (.iload_n 1, 1) := by decide +kernel
theorem dX0_comesBefore_20 : decode cX0_comesBefore 20 = .ok (.invokevirtual 84, 3) := by decide +kernel
theorem dX0_comesBefore_23 : decode cX0_comesBefore 23 = .ok (.istore_n 3, 1) := by decide +kernel
theorem dX0_comesBefore_24 : decode cX0_comesBefore 24 = .ok (.aload_n 0, 1) := by decide +kernel
theorem dX0_comesBefore_25 : decode cX0_comesBefore 25 = .ok (.iload_n 2, 1) := by decide +kernel
theorem dX0_comesBefore_26 : decode cX0_comesBefore 26 = .ok (.invokevirtual 84, 3) := by decide +kernel
theorem dX0_comesBefore_29 : decode cX0_comesBefore 29 = .ok (.istore 4, 2) := by decide +kernel
theorem dX0_comesBefore_31 : decode cX0_comesBefore 31 = .ok (.iload_n 3, 1) := by decide +kernel
theorem dX0_comesBefore_32 : decode cX0_comesBefore 32 = .ok (.iload 4, 2) := by decide +kernel
theorem dX0_comesBefore_34 : decode cX0_comesBefore 34 = .ok (.if_icmp .eq 15, 3) := by decide +kernel
theorem dX0_comesBefore_37 : decode cX0_comesBefore 37 = .ok (.iload_n 3, 1) := by decide +kernel
theorem dX0_comesBefore_38 : decode cX0_comesBefore 38 = .ok (.iload 4, 2) := by decide +kernel
theorem dX0_comesBefore_40 : decode cX0_comesBefore 40 = .ok (.if_icmp .ge 7, 3) := by decide +kernel
theorem dX0_comesBefore_43 : decode cX0_comesBefore 43 = .ok (.iconst 1, 1) := by decide +kernel
theorem dX0_comesBefore_44 : decode cX0_comesBefore 44 = .ok (.goto 4, 3) := by decide +kernel
theorem dX0_comesBefore_47 : decode cX0_comesBefore 47 = .ok (.iconst 0, 1) := by decide +kernel
theorem dX0_comesBefore_48 : decode cX0_comesBefore 48 = .ok (.ireturn, 1) := by decide +kernel
theorem dX0_comesBefore_49 : decode cX0_comesBefore 49 = .ok (.aload_n 0, 1) := by decide +kernel
theorem dX0_comesBefore_50 : decode cX0_comesBefore 50 = .ok (.getfield 25, 3) := by decide +kernel
theorem dX0_comesBefore_53 : decode cX0_comesBefore 53 = .ok (.iload_n 1, 1) := by decide +kernel
theorem dX0_comesBefore_54 : decode cX0_comesBefore 54 = .ok (.iaload, 1) := by decide +kernel
theorem dX0_comesBefore_55 : decode cX0_comesBefore 55 = .ok (.aload_n 0, 1) := by decide +kernel
theorem dX0_comesBefore_56 : decode cX0_comesBefore 56 = .ok (.getfield 25, 3) := by decide +kernel
theorem dX0_comesBefore_59 : decode cX0_comesBefore 59 = .ok (.iload_n 2, 1) := by decide +kernel
theorem dX0_comesBefore_60 : decode cX0_comesBefore 60 = .ok (.iaload, 1) := by decide +kernel
theorem dX0_comesBefore_61 : decode cX0_comesBefore 61 = .ok (.if_icmp .eq 24, 3) := by decide +kernel
theorem dX0_comesBefore_64 : decode cX0_comesBefore 64 = .ok (.aload_n 0, 1) := by decide +kernel
theorem dX0_comesBefore_65 : decode cX0_comesBefore 65 = .ok (.getfield 25, 3) := by decide +kernel
theorem dX0_comesBefore_68 : decode cX0_comesBefore 68 = .ok (.iload_n 1, 1) := by decide +kernel
theorem dX0_comesBefore_69 : decode cX0_comesBefore 69 = .ok (.iaload, 1) := by decide +kernel
theorem dX0_comesBefore_70 : decode cX0_comesBefore 70 = .ok (.aload_n 0, 1) := by decide +kernel
theorem dX0_comesBefore_71 : decode cX0_comesBefore 71 = .ok (.getfield 25, 3) := by decide +kernel
theorem dX0_comesBefore_74 : decode cX0_comesBefore 74 = .ok (.iload_n 2, 1) := by decide +kernel
theorem dX0_comesBefore_75 : decode cX0_comesBefore 75 = .ok (.iaload, 1) := by decide +kernel
theorem dX0_comesBefore_76 : decode cX0_comesBefore 76 = .ok (.if_icmp .le 7, 3) := by decide +kernel
theorem dX0_comesBefore_79 : decode cX0_comesBefore 79 = .ok (.iconst 1, 1) := by decide +kernel
theorem dX0_comesBefore_80 : decode cX0_comesBefore 80 = .ok (.goto 4, 3) := by decide +kernel
theorem dX0_comesBefore_83 : decode cX0_comesBefore 83 = .ok (.iconst 0, 1) := by decide +kernel
theorem dX0_comesBefore_84 : decode cX0_comesBefore 84 = .ok (.ireturn, 1) := by decide +kernel
theorem dX0_comesBefore_85 : decode cX0_comesBefore 85 = .ok (.iload_n 1, 1) := by decide +kernel
theorem dX0_comesBefore_86 : decode cX0_comesBefore 86 = .ok (.iload_n 2, 1) := by decide +kernel
theorem dX0_comesBefore_87 : decode cX0_comesBefore 87 = .ok (.if_icmp .ge 7, 3) := by decide +kernel
theorem dX0_comesBefore_90 : decode cX0_comesBefore 90 = .ok (.iconst 1, 1) := by decide +kernel
theorem dX0_comesBefore_91 : decode cX0_comesBefore 91 = .ok (.goto 4, 3) := by decide +kernel
theorem dX0_comesBefore_94 : decode cX0_comesBefore 94 = .ok (.iconst 0, 1) := by decide +kernel
theorem dX0_comesBefore_95 : decode cX0_comesBefore 95 = .ok (.ireturn, 1) := by decide +kernel
theorem dX0_positionOf_0 : decode cX0_positionOf 0 = .ok (.iconst 0, 1) := by decide +kernel
theorem dX0_positionOf_1 : decode cX0_positionOf 1 = .ok (.istore_n 2, 1) := by decide +kernel
theorem dX0_positionOf_2 : decode cX0_positionOf 2 = .ok (.iload_n 2, 1) := by decide +kernel
theorem dX0_positionOf_3 : decode cX0_positionOf 3 = .ok (.aload_n 0, 1) := by decide +kernel
theorem dX0_positionOf_4 : decode cX0_positionOf 4 = .ok (.getfield 31, 3) := by decide +kernel
theorem dX0_positionOf_7 : decode cX0_positionOf 7 = .ok (.if_icmp .ge 21, 3) := by decide +kernel
theorem dX0_positionOf_10 : decode cX0_positionOf 10 = .ok (.aload_n 0, 1) := by decide +kernel
theorem dX0_positionOf_11 : decode cX0_positionOf 11 = .ok (.getfield 34, 3) := by decide +kernel
theorem dX0_positionOf_14 : decode cX0_positionOf 14 = .ok (.iload_n 2, 1) := by decide +kernel
theorem dX0_positionOf_15 : decode cX0_positionOf 15 = .ok (.iaload, 1) := by decide +kernel
theorem dX0_positionOf_16 : decode cX0_positionOf 16 = .ok (.iload_n 1, 1) := by decide +kernel
theorem dX0_positionOf_17 : decode cX0_positionOf 17 = .ok (.if_icmp .ne 5, 3) := by decide +kernel
theorem dX0_positionOf_20 : decode cX0_positionOf 20 = .ok (.iload_n 2, 1) := by decide +kernel
theorem dX0_positionOf_21 : decode cX0_positionOf 21 = .ok (.ireturn, 1) := by decide +kernel
theorem dX0_positionOf_22 : decode cX0_positionOf 22 = .ok (.iinc 2 1, 3) := by decide +kernel
theorem dX0_positionOf_25 : decode cX0_positionOf 25 = .ok (.goto (-23), 3) := by decide +kernel
theorem dX0_positionOf_28 : decode cX0_positionOf 28 = .ok (.iconst (-1), 1) := by decide +kernel
theorem dX0_positionOf_29 : decode cX0_positionOf 29 = .ok (.ireturn, 1) := by decide +kernel
theorem dX0_isOnLastSpan_0 : decode cX0_isOnLastSpan 0 = .ok (.aload_n 0, 1) := by decide +kernel
theorem dX0_isOnLastSpan_1 : decode cX0_isOnLastSpan 1 = .ok (.iload_n 1, 1) := by decide +kernel
theorem dX0_isOnLastSpan_2 : decode cX0_isOnLastSpan 2 = .ok (.invokevirtual 91, 3) := by decide +kernel
theorem dX0_isOnLastSpan_5 : decode cX0_isOnLastSpan 5 = .ok (.ifCond .eq 22, 3) := by decide +kernel
theorem dX0_isOnLastSpan_8 : decode cX0_isOnLastSpan 8 = .ok (.aload_n 0, 1) := by decide +kernel
theorem dX0_isOnLastSpan_9 : decode cX0_isOnLastSpan 9 = .ok (.getfield 40, 3) := by decide +kernel
theorem dX0_isOnLastSpan_12 : decode cX0_isOnLastSpan 12 = .ok (.iload_n 1, 1) := by decide +kernel
theorem dX0_isOnLastSpan_13 : decode cX0_isOnLastSpan 13 = .ok (.iaload, 1) := by decide +kernel
theorem dX0_isOnLastSpan_14 : decode cX0_isOnLastSpan 14 = .ok (.aload_n 0, 1) := by decide +kernel
theorem dX0_isOnLastSpan_15 : decode cX0_isOnLastSpan 15 = .ok (.getfield 9, 3) := by decide +kernel
theorem dX0_isOnLastSpan_18 : decode cX0_isOnLastSpan 18 = .ok (.iconst 1, 1) := by decide +kernel
theorem dX0_isOnLastSpan_19 : decode cX0_isOnLastSpan 19 = .ok (.isub, 1) := by decide +kernel
theorem dX0_isOnLastSpan_20 : decode cX0_isOnLastSpan 20 = .ok (.if_icmp .ne 7, 3) := by decide +kernel
theorem dX0_isOnLastSpan_23 : decode cX0_isOnLastSpan 23 = .ok (.iconst 1, 1) := by decide +kernel
theorem dX0_isOnLastSpan_24 : decode cX0_isOnLastSpan 24 = .ok (.goto 4, 3) := by decide +kernel
theorem dX0_isOnLastSpan_27 : decode cX0_isOnLastSpan 27 = .ok (.iconst 0, 1) := by decide +kernel
theorem dX0_isOnLastSpan_28 : decode cX0_isOnLastSpan 28 = .ok (.ireturn, 1) := by decide +kernel
theorem dX0_tollAt_0 : decode cX0_tollAt 0 = .ok (.aload_n 0, 1) := by decide +kernel
theorem dX0_tollAt_1 : decode cX0_tollAt 1 = .ok (.iload_n 1, 1) := by decide +kernel
theorem dX0_tollAt_2 : decode cX0_tollAt 2 = .ok (.invokevirtual 91, 3) := by decide +kernel
theorem dX0_tollAt_5 : decode cX0_tollAt 5 = .ok (.ifCond .eq 23, 3) := by decide +kernel
theorem dX0_tollAt_8 : decode cX0_tollAt 8 = .ok (.aload_n 0, 1) := by decide +kernel
theorem dX0_tollAt_9 : decode cX0_tollAt 9 = .ok (.getfield 37, 3) := by decide +kernel
theorem dX0_tollAt_12 : decode cX0_tollAt 12 = .ok (.iload_n 1, 1) := by decide +kernel
theorem dX0_tollAt_13 : decode cX0_tollAt 13 = .ok (.iaload, 1) := by decide +kernel
theorem dX0_tollAt_14 : decode cX0_tollAt 14 = .ok (.aload_n 0, 1) := by decide +kernel
theorem dX0_tollAt_15 : decode cX0_tollAt 15 = .ok (.getfield 49, 3) := by decide +kernel
theorem dX0_tollAt_18 : decode cX0_tollAt 18 = .ok (.imul, 1) := by decide +kernel
theorem dX0_tollAt_19 : decode cX0_tollAt 19 = .ok (.bipush 9, 2) := by decide +kernel
theorem dX0_tollAt_21 : decode cX0_tollAt 21 = .ok (.iadd, 1) := by decide +kernel
theorem dX0_tollAt_22 : decode cX0_tollAt 22 = .ok (.bipush 10, 2) := by decide +kernel
theorem dX0_tollAt_24 : decode cX0_tollAt 24 = .ok (.idiv, 1) := by decide +kernel
theorem dX0_tollAt_25 : decode cX0_tollAt 25 = .ok (.goto 4, 3) := by decide +kernel
theorem dX0_tollAt_28 : decode cX0_tollAt 28 = .ok (.iconst 0, 1) := by decide +kernel
theorem dX0_tollAt_29 : decode cX0_tollAt 29 = .ok (.ireturn, 1) := by decide +kernel
theorem dX0_carryOut_0 : decode cX0_carryOut 0 = .ok (.iload_n 1, 1) := by decide +kernel
theorem dX0_carryOut_1 : decode cX0_carryOut 1 = .ok (.tableswitch 95 0 5 #[39, 48, 58, 67, 77, 86], 39) := by decide +kernel
theorem dX0_carryOut_40 : decode cX0_carryOut 40 = .ok (.aload_n 0, 1) := by decide +kernel
theorem dX0_carryOut_41 : decode cX0_carryOut 41 = .ok (.iload_n 2, 1) := by decide +kernel
theorem dX0_carryOut_42 : decode cX0_carryOut 42 = .ok (.invokevirtual 94, 3) := by decide +kernel
theorem dX0_carryOut_45 : decode cX0_carryOut 45 = .ok (.pop, 1) := by decide +kernel
theorem dX0_carryOut_46 : decode cX0_carryOut 46 = .ok (.goto 55, 3) := by decide +kernel
theorem dX0_carryOut_49 : decode cX0_carryOut 49 = .ok (.aload_n 0, 1) := by decide +kernel
theorem dX0_carryOut_50 : decode cX0_carryOut 50 = .ok (.iload_n 2, 1) := by decide +kernel
theorem dX0_carryOut_51 : decode cX0_carryOut 51 = .ok (.iload_n 3, 1) := by decide +kernel
theorem dX0_carryOut_52 : decode cX0_carryOut 52 = .ok (.invokevirtual 97, 3) := by decide +kernel
theorem dX0_carryOut_55 : decode cX0_carryOut 55 = .ok (.pop, 1) := by decide +kernel
theorem dX0_carryOut_56 : decode cX0_carryOut 56 = .ok (.goto 45, 3) := by decide +kernel
theorem dX0_carryOut_59 : decode cX0_carryOut 59 = .ok (.aload_n 0, 1) := by decide +kernel
theorem dX0_carryOut_60 : decode cX0_carryOut 60 = .ok (.iload_n 2, 1) := by decide +kernel
theorem dX0_carryOut_61 : decode cX0_carryOut 61 = .ok (.invokevirtual 100, 3) := by decide +kernel
theorem dX0_carryOut_64 : decode cX0_carryOut 64 = .ok (.pop, 1) := by decide +kernel
theorem dX0_carryOut_65 : decode cX0_carryOut 65 = .ok (.goto 36, 3) := by decide +kernel
theorem dX0_carryOut_68 : decode cX0_carryOut 68 = .ok (.aload_n 0, 1) := by decide +kernel
theorem dX0_carryOut_69 : decode cX0_carryOut 69 = .ok (.iload_n 2, 1) := by decide +kernel
theorem dX0_carryOut_70 : decode cX0_carryOut 70 = .ok (.iload_n 3, 1) := by decide +kernel
theorem dX0_carryOut_71 : decode cX0_carryOut 71 = .ok (.invokevirtual 103, 3) := by decide +kernel
theorem dX0_carryOut_74 : decode cX0_carryOut 74 = .ok (.pop, 1) := by decide +kernel
theorem dX0_carryOut_75 : decode cX0_carryOut 75 = .ok (.goto 26, 3) := by decide +kernel
theorem dX0_carryOut_78 : decode cX0_carryOut 78 = .ok (.aload_n 0, 1) := by decide +kernel
theorem dX0_carryOut_79 : decode cX0_carryOut 79 = .ok (.iload_n 2, 1) := by decide +kernel
theorem dX0_carryOut_80 : decode cX0_carryOut 80 = .ok (.invokevirtual 106, 3) := by decide +kernel
theorem dX0_carryOut_83 : decode cX0_carryOut 83 = .ok (.pop, 1) := by decide +kernel
theorem dX0_carryOut_84 : decode cX0_carryOut 84 = .ok (.goto 17, 3) := by decide +kernel
theorem dX0_carryOut_87 : decode cX0_carryOut 87 = .ok (.aload_n 0, 1) := by decide +kernel
theorem dX0_carryOut_88 : decode cX0_carryOut 88 = .ok (.iload_n 2, 1) := by decide +kernel
theorem dX0_carryOut_89 : decode cX0_carryOut 89 = .ok (.invokevirtual 109, 3) := by decide +kernel
theorem dX0_carryOut_92 : decode cX0_carryOut 92 = .ok (.pop, 1) := by decide +kernel
theorem dX0_carryOut_93 : decode cX0_carryOut 93 = .ok (.goto 8, 3) := by decide +kernel
theorem dX0_carryOut_96 : decode cX0_carryOut 96 = .ok (.aload_n 0, 1) := by decide +kernel
theorem dX0_carryOut_97 : decode cX0_carryOut 97 = .ok (.invokevirtual 112, 3) := by decide +kernel
theorem dX0_carryOut_100 : decode cX0_carryOut 100 = .ok (.pop, 1) := by decide +kernel
theorem dX0_carryOut_101 : decode cX0_carryOut 101 = .ok (.return_, 1) := by decide +kernel
theorem dX0_appendSpan_0 : decode cX0_appendSpan 0 = .ok (.aload_n 0, 1) := by decide +kernel
theorem dX0_appendSpan_1 : decode cX0_appendSpan 1 = .ok (.getfield 9, 3) := by decide +kernel
theorem dX0_appendSpan_4 : decode cX0_appendSpan 4 = .ok (.istore_n 2, 1) := by decide +kernel
theorem dX0_appendSpan_5 : decode cX0_appendSpan 5 = .ok (.iload_n 2, 1) := by decide +kernel
theorem dX0_appendSpan_6 : decode cX0_appendSpan 6 = .ok (.bipush 10, 2) := by decide +kernel
theorem dX0_appendSpan_8 : decode cX0_appendSpan 8 = .ok (.if_icmp .lt 5, 3) := by decide +kernel
theorem dX0_appendSpan_11 : decode cX0_appendSpan 11 = .ok (.iconst (-1), 1) := by decide +kernel
theorem dX0_appendSpan_12 : decode cX0_appendSpan 12 = .ok (.ireturn, 1) := by decide +kernel
theorem dX0_appendSpan_13 : decode cX0_appendSpan 13 = .ok (.aload_n 0, 1) := by decide +kernel
theorem dX0_appendSpan_14 : decode cX0_appendSpan 14 = .ok (.getfield 15, 3) := by decide +kernel
theorem dX0_appendSpan_17 : decode cX0_appendSpan 17 = .ok (.iload_n 2, 1) := by decide +kernel
theorem dX0_appendSpan_18 : decode cX0_appendSpan 18 = .ok (.iload_n 1, 1) := by decide +kernel
theorem dX0_appendSpan_19 : decode cX0_appendSpan 19 = .ok (.iastore, 1) := by decide +kernel
theorem dX0_appendSpan_20 : decode cX0_appendSpan 20 = .ok (.aload_n 0, 1) := by decide +kernel
theorem dX0_appendSpan_21 : decode cX0_appendSpan 21 = .ok (.getfield 19, 3) := by decide +kernel
theorem dX0_appendSpan_24 : decode cX0_appendSpan 24 = .ok (.iload_n 2, 1) := by decide +kernel
theorem dX0_appendSpan_25 : decode cX0_appendSpan 25 = .ok (.iconst 0, 1) := by decide +kernel
theorem dX0_appendSpan_26 : decode cX0_appendSpan 26 = .ok (.iastore, 1) := by decide +kernel
theorem dX0_appendSpan_27 : decode cX0_appendSpan 27 = .ok (.aload_n 0, 1) := by decide +kernel
theorem dX0_appendSpan_28 : decode cX0_appendSpan 28 = .ok (.getfield 22, 3) := by decide +kernel
theorem dX0_appendSpan_31 : decode cX0_appendSpan 31 = .ok (.iload_n 2, 1) := by decide +kernel
theorem dX0_appendSpan_32 : decode cX0_appendSpan 32 = .ok (.iconst 0, 1) := by decide +kernel
theorem dX0_appendSpan_33 : decode cX0_appendSpan 33 = .ok (.iastore, 1) := by decide +kernel
theorem dX0_appendSpan_34 : decode cX0_appendSpan 34 = .ok (.aload_n 0, 1) := by decide +kernel
theorem dX0_appendSpan_35 : decode cX0_appendSpan 35 = .ok (.getfield 25, 3) := by decide +kernel
theorem dX0_appendSpan_38 : decode cX0_appendSpan 38 = .ok (.iload_n 2, 1) := by decide +kernel
theorem dX0_appendSpan_39 : decode cX0_appendSpan 39 = .ok (.iconst 0, 1) := by decide +kernel
theorem dX0_appendSpan_40 : decode cX0_appendSpan 40 = .ok (.iastore, 1) := by decide +kernel
theorem dX0_appendSpan_41 : decode cX0_appendSpan 41 = .ok (.aload_n 0, 1) := by decide +kernel
theorem dX0_appendSpan_42 : decode cX0_appendSpan 42 = .ok (.getfield 28, 3) := by decide +kernel
theorem dX0_appendSpan_45 : decode cX0_appendSpan 45 = .ok (.iload_n 2, 1) := by decide +kernel
theorem dX0_appendSpan_46 : decode cX0_appendSpan 46 = .ok (.iconst 0, 1) := by decide +kernel
theorem dX0_appendSpan_47 : decode cX0_appendSpan 47 = .ok (.iastore, 1) := by decide +kernel
theorem dX0_appendSpan_48 : decode cX0_appendSpan 48 = .ok (.aload_n 0, 1) := by decide +kernel
theorem dX0_appendSpan_49 : decode cX0_appendSpan 49 = .ok (.iload_n 2, 1) := by decide +kernel
theorem dX0_appendSpan_50 : decode cX0_appendSpan 50 = .ok (.iconst 1, 1) := by decide +kernel
theorem dX0_appendSpan_51 : decode cX0_appendSpan 51 = .ok (.iadd, 1) := by decide +kernel
theorem dX0_appendSpan_52 : decode cX0_appendSpan 52 = .ok (.putfield 9, 3) := by decide +kernel
theorem dX0_appendSpan_55 : decode cX0_appendSpan 55 = .ok (.iload_n 2, 1) := by decide +kernel
theorem dX0_appendSpan_56 : decode cX0_appendSpan 56 = .ok (.ireturn, 1) := by decide +kernel
theorem dX0_dropLastSpan_0 : decode cX0_dropLastSpan 0 = .ok (.aload_n 0, 1) := by decide +kernel
theorem dX0_dropLastSpan_1 : decode cX0_dropLastSpan 1 = .ok (.getfield 9, 3) := by decide +kernel
theorem dX0_dropLastSpan_4 : decode cX0_dropLastSpan 4 = .ok (.iconst 1, 1) := by decide +kernel
theorem dX0_dropLastSpan_5 : decode cX0_dropLastSpan 5 = .ok (.isub, 1) := by decide +kernel
theorem dX0_dropLastSpan_6 : decode cX0_dropLastSpan 6 = .ok (.istore_n 1, 1) := by decide +kernel
theorem dX0_dropLastSpan_7 : decode cX0_dropLastSpan 7 = .ok (.aload_n 0, 1) := by decide +kernel
theorem dX0_dropLastSpan_8 : decode cX0_dropLastSpan 8 = .ok (.iload_n 1, 1) := by decide +kernel
theorem dX0_dropLastSpan_9 : decode cX0_dropLastSpan 9 = .ok (.invokevirtual 70, 3) := by decide +kernel
theorem dX0_dropLastSpan_12 : decode cX0_dropLastSpan 12 = .ok (.ifCond .ne 5, 3) := by decide +kernel
theorem dX0_dropLastSpan_15 : decode cX0_dropLastSpan 15 = .ok (.iconst 0, 1) := by decide +kernel
theorem dX0_dropLastSpan_16 : decode cX0_dropLastSpan 16 = .ok (.ireturn, 1) := by decide +kernel
theorem dX0_dropLastSpan_17 : decode cX0_dropLastSpan 17 = .ok (.aload_n 0, 1) := by decide +kernel
theorem dX0_dropLastSpan_18 : decode cX0_dropLastSpan 18 = .ok (.iload_n 1, 1) := by decide +kernel
theorem dX0_dropLastSpan_19 : decode cX0_dropLastSpan 19 = .ok (.putfield 9, 3) := by decide +kernel
theorem dX0_dropLastSpan_22 : decode cX0_dropLastSpan 22 = .ok (.aload_n 0, 1) := by decide +kernel
theorem dX0_dropLastSpan_23 : decode cX0_dropLastSpan 23 = .ok (.getfield 19, 3) := by decide +kernel
theorem dX0_dropLastSpan_26 : decode cX0_dropLastSpan 26 = .ok (.iload_n 1, 1) := by decide +kernel
theorem dX0_dropLastSpan_27 : decode cX0_dropLastSpan 27 = .ok (.iaload, 1) := by decide +kernel
theorem dX0_dropLastSpan_28 : decode cX0_dropLastSpan 28 = .ok (.ireturn, 1) := by decide +kernel
theorem dX0_addJars_0 : decode cX0_addJars 0 = .ok (.aload_n 0, 1) := by decide +kernel
theorem dX0_addJars_1 : decode cX0_addJars 1 = .ok (.iload_n 1, 1) := by decide +kernel
theorem dX0_addJars_2 : decode cX0_addJars 2 = .ok (.invokevirtual 70, 3) := by decide +kernel
theorem dX0_addJars_5 : decode cX0_addJars 5 = .ok (.ifCond .ne 5, 3) := by decide +kernel
theorem dX0_addJars_8 : decode cX0_addJars 8 = .ok (.iconst 0, 1) := by decide +kernel
theorem dX0_addJars_9 : decode cX0_addJars 9 = .ok (.ireturn, 1) := by decide +kernel
theorem dX0_addJars_10 : decode cX0_addJars 10 = .ok (.aload_n 0, 1) := by decide +kernel
theorem dX0_addJars_11 : decode cX0_addJars 11 = .ok (.getfield 19, 3) := by decide +kernel
theorem dX0_addJars_14 : decode cX0_addJars 14 = .ok (.iload_n 1, 1) := by decide +kernel
theorem dX0_addJars_15 : decode cX0_addJars 15 = .ok (.iaload, 1) := by decide +kernel
theorem dX0_addJars_16 : decode cX0_addJars 16 = .ok (.istore_n 3, 1) := by decide +kernel
theorem dX0_addJars_17 : decode cX0_addJars 17 = .ok (.iload_n 3, 1) := by decide +kernel
theorem dX0_addJars_18 : decode cX0_addJars 18 = .ok (.iload_n 2, 1) := by decide +kernel
theorem dX0_addJars_19 : decode cX0_addJars 19 = .ok (.iadd, 1) := by decide +kernel
theorem dX0_addJars_20 : decode cX0_addJars 20 = .ok (.istore 4, 2) := by decide +kernel
theorem dX0_addJars_22 : decode cX0_addJars 22 = .ok (.iload 4, 2) := by decide +kernel
theorem dX0_addJars_24 : decode cX0_addJars 24 = .ok (.iconst 1, 1) := by decide +kernel
theorem dX0_addJars_25 : decode cX0_addJars 25 = .ok (.if_icmp .ge 10, 3) := by decide +kernel
theorem dX0_addJars_28 : decode cX0_addJars 28 = .ok (.aload_n 0, 1) := by decide +kernel
theorem dX0_addJars_29 : decode cX0_addJars 29 = .ok (.getfield 22, 3) := by decide +kernel
theorem dX0_addJars_32 : decode cX0_addJars 32 = .ok (.iload_n 1, 1) := by decide +kernel
theorem dX0_addJars_33 : decode cX0_addJars 33 = .ok (.iaload, 1) := by decide +kernel
theorem dX0_addJars_34 : decode cX0_addJars 34 = .ok (.ireturn, 1) := by decide +kernel
theorem dX0_addJars_35 : decode cX0_addJars 35 = .ok (.aload_n 0, 1) := by decide +kernel
theorem dX0_addJars_36 : decode cX0_addJars 36 = .ok (.getfield 19, 3) := by decide +kernel
theorem dX0_addJars_39 : decode cX0_addJars 39 = .ok (.iload_n 1, 1) := by decide +kernel
theorem dX0_addJars_40 : decode cX0_addJars 40 = .ok (.iload 4, 2) := by decide +kernel
theorem dX0_addJars_42 : decode cX0_addJars 42 = .ok (.iastore, 1) := by decide +kernel
theorem dX0_addJars_43 : decode cX0_addJars 43 = .ok (.aload_n 0, 1) := by decide +kernel
theorem dX0_addJars_44 : decode cX0_addJars 44 = .ok (.getfield 22, 3) := by decide +kernel
theorem dX0_addJars_47 : decode cX0_addJars 47 = .ok (.iload_n 1, 1) := by decide +kernel
theorem dX0_addJars_48 : decode cX0_addJars 48 = .ok (.aload_n 0, 1) := by decide +kernel
theorem dX0_addJars_49 : decode cX0_addJars 49 = .ok (.getfield 22, 3) := by decide +kernel
theorem dX0_addJars_52 : decode cX0_addJars 52 = .ok (.iload_n 1, 1) := by decide +kernel
theorem dX0_addJars_53 : decode cX0_addJars 53 = .ok (.iaload, 1) := by decide +kernel
theorem dX0_addJars_54 : decode cX0_addJars 54 = .ok (.iload_n 3, 1) := by decide +kernel
theorem dX0_addJars_55 : decode cX0_addJars 55 = .ok (.imul, 1) := by decide +kernel
theorem dX0_addJars_56 : decode cX0_addJars 56 = .ok (.iload 4, 2) := by decide +kernel
theorem dX0_addJars_58 : decode cX0_addJars 58 = .ok (.idiv, 1) := by decide +kernel
theorem dX0_addJars_59 : decode cX0_addJars 59 = .ok (.iastore, 1) := by decide +kernel
theorem dX0_addJars_60 : decode cX0_addJars 60 = .ok (.aload_n 0, 1) := by decide +kernel
theorem dX0_addJars_61 : decode cX0_addJars 61 = .ok (.getfield 22, 3) := by decide +kernel
theorem dX0_addJars_64 : decode cX0_addJars 64 = .ok (.iload_n 1, 1) := by decide +kernel
theorem dX0_addJars_65 : decode cX0_addJars 65 = .ok (.iaload, 1) := by decide +kernel
theorem dX0_addJars_66 : decode cX0_addJars 66 = .ok (.ireturn, 1) := by decide +kernel
theorem dX0_repair_0 : decode cX0_repair 0 = .ok (.aload_n 0, 1) := by decide +kernel
theorem dX0_repair_1 : decode cX0_repair 1 = .ok (.iload_n 1, 1) := by decide +kernel
theorem dX0_repair_2 : decode cX0_repair 2 = .ok (.invokevirtual 70, 3) := by decide +kernel
theorem dX0_repair_5 : decode cX0_repair 5 = .ok (.ifCond .eq 25, 3) := by decide +kernel
theorem dX0_repair_8 : decode cX0_repair 8 = .ok (.aload_n 0, 1) := by decide +kernel
theorem dX0_repair_9 : decode cX0_repair 9 = .ok (.getfield 25, 3) := by decide +kernel
theorem dX0_repair_12 : decode cX0_repair 12 = .ok (.iload_n 1, 1) := by decide +kernel
theorem dX0_repair_13 : decode cX0_repair 13 = .ok (.dup2, 1) := by decide +kernel
theorem dX0_repair_14 : decode cX0_repair 14 = .ok (.iaload, 1) := by decide +kernel
theorem dX0_repair_15 : decode cX0_repair 15 = .ok (.iload_n 2, 1) := by decide +kernel
theorem dX0_repair_16 : decode cX0_repair 16 = .ok (.isub, 1) := by decide +kernel
theorem dX0_repair_17 : decode cX0_repair 17 = .ok (.iastore, 1) := by decide +kernel
theorem dX0_repair_18 : decode cX0_repair 18 = .ok (.aload_n 0, 1) := by decide +kernel
theorem dX0_repair_19 : decode cX0_repair 19 = .ok (.dup, 1) := by decide +kernel
theorem dX0_repair_20 : decode cX0_repair 20 = .ok (.getfield 52, 3) := by decide +kernel
theorem dX0_repair_23 : decode cX0_repair 23 = .ok (.iload_n 2, 1) := by decide +kernel
theorem dX0_repair_24 : decode cX0_repair 24 = .ok (.iconst 5, 1) := by decide +kernel
theorem dX0_repair_25 : decode cX0_repair 25 = .ok (.imul, 1) := by decide +kernel
theorem dX0_repair_26 : decode cX0_repair 26 = .ok (.isub, 1) := by decide +kernel
theorem dX0_repair_27 : decode cX0_repair 27 = .ok (.putfield 52, 3) := by decide +kernel
theorem dX0_repair_30 : decode cX0_repair 30 = .ok (.aload_n 0, 1) := by decide +kernel
theorem dX0_repair_31 : decode cX0_repair 31 = .ok (.getfield 52, 3) := by decide +kernel
theorem dX0_repair_34 : decode cX0_repair 34 = .ok (.ireturn, 1) := by decide +kernel
theorem dX0_replaceRate_0 : decode cX0_replaceRate 0 = .ok (.aload_n 0, 1) := by decide +kernel
theorem dX0_replaceRate_1 : decode cX0_replaceRate 1 = .ok (.getfield 49, 3) := by decide +kernel
theorem dX0_replaceRate_4 : decode cX0_replaceRate 4 = .ok (.istore_n 2, 1) := by decide +kernel
theorem dX0_replaceRate_5 : decode cX0_replaceRate 5 = .ok (.aload_n 0, 1) := by decide +kernel
theorem dX0_replaceRate_6 : decode cX0_replaceRate 6 = .ok (.iload_n 1, 1) := by decide +kernel
theorem dX0_replaceRate_7 : decode cX0_replaceRate 7 = .ok (.putfield 49, 3) := by decide +kernel
theorem dX0_replaceRate_10 : decode cX0_replaceRate 10 = .ok (.iload_n 2, 1) := by decide +kernel
theorem dX0_replaceRate_11 : decode cX0_replaceRate 11 = .ok (.ireturn, 1) := by decide +kernel
theorem dX0_appendVehicle_0 : decode cX0_appendVehicle 0 = .ok (.aload_n 0, 1) := by decide +kernel
theorem dX0_appendVehicle_1 : decode cX0_appendVehicle 1 = .ok (.getfield 31, 3) := by decide +kernel
theorem dX0_appendVehicle_4 : decode cX0_appendVehicle 4 = .ok (.istore_n 2, 1) := by decide +kernel
theorem dX0_appendVehicle_5 : decode cX0_appendVehicle 5 = .ok (.iload_n 2, 1) := by decide +kernel
theorem dX0_appendVehicle_6 : decode cX0_appendVehicle 6 = .ok (.bipush 8, 2) := by decide +kernel
theorem dX0_appendVehicle_8 : decode cX0_appendVehicle 8 = .ok (.if_icmp .lt 5, 3) := by decide +kernel
theorem dX0_appendVehicle_11 : decode cX0_appendVehicle 11 = .ok (.iconst (-1), 1) := by decide +kernel
theorem dX0_appendVehicle_12 : decode cX0_appendVehicle 12 = .ok (.ireturn, 1) := by decide +kernel
theorem dX0_appendVehicle_13 : decode cX0_appendVehicle 13 = .ok (.aload_n 0, 1) := by decide +kernel
theorem dX0_appendVehicle_14 : decode cX0_appendVehicle 14 = .ok (.getfield 34, 3) := by decide +kernel
theorem dX0_appendVehicle_17 : decode cX0_appendVehicle 17 = .ok (.iload_n 2, 1) := by decide +kernel
theorem dX0_appendVehicle_18 : decode cX0_appendVehicle 18 = .ok (.aload_n 0, 1) := by decide +kernel
theorem dX0_appendVehicle_19 : decode cX0_appendVehicle 19 = .ok (.getfield 43, 3) := by decide +kernel
theorem dX0_appendVehicle_22 : decode cX0_appendVehicle 22 = .ok (.iastore, 1) := by decide +kernel
theorem dX0_appendVehicle_23 : decode cX0_appendVehicle 23 = .ok (.aload_n 0, 1) := by decide +kernel
theorem dX0_appendVehicle_24 : decode cX0_appendVehicle 24 = .ok (.getfield 37, 3) := by decide +kernel
theorem dX0_appendVehicle_27 : decode cX0_appendVehicle 27 = .ok (.iload_n 2, 1) := by decide +kernel
theorem dX0_appendVehicle_28 : decode cX0_appendVehicle 28 = .ok (.iload_n 1, 1) := by decide +kernel
theorem dX0_appendVehicle_29 : decode cX0_appendVehicle 29 = .ok (.iastore, 1) := by decide +kernel
theorem dX0_appendVehicle_30 : decode cX0_appendVehicle 30 = .ok (.aload_n 0, 1) := by decide +kernel
theorem dX0_appendVehicle_31 : decode cX0_appendVehicle 31 = .ok (.getfield 40, 3) := by decide +kernel
theorem dX0_appendVehicle_34 : decode cX0_appendVehicle 34 = .ok (.iload_n 2, 1) := by decide +kernel
theorem dX0_appendVehicle_35 : decode cX0_appendVehicle 35 = .ok (.iconst 0, 1) := by decide +kernel
theorem dX0_appendVehicle_36 : decode cX0_appendVehicle 36 = .ok (.iastore, 1) := by decide +kernel
theorem dX0_appendVehicle_37 : decode cX0_appendVehicle 37 = .ok (.aload_n 0, 1) := by decide +kernel
theorem dX0_appendVehicle_38 : decode cX0_appendVehicle 38 = .ok (.iload_n 2, 1) := by decide +kernel
theorem dX0_appendVehicle_39 : decode cX0_appendVehicle 39 = .ok (.iconst 1, 1) := by decide +kernel
theorem dX0_appendVehicle_40 : decode cX0_appendVehicle 40 = .ok (.iadd, 1) := by decide +kernel
theorem dX0_appendVehicle_41 : decode cX0_appendVehicle 41 = .ok (.putfield 31, 3) := by decide +kernel
theorem dX0_appendVehicle_44 : decode cX0_appendVehicle 44 = .ok (.aload_n 0, 1) := by decide +kernel
theorem dX0_appendVehicle_45 : decode cX0_appendVehicle 45 = .ok (.dup, 1) := by decide +kernel
theorem dX0_appendVehicle_46 : decode cX0_appendVehicle 46 = .ok (.getfield 43, 3) := by decide +kernel
theorem dX0_appendVehicle_49 : decode cX0_appendVehicle 49 = .ok (.iconst 1, 1) := by decide +kernel
theorem dX0_appendVehicle_50 : decode cX0_appendVehicle 50 = .ok (.iadd, 1) := by decide +kernel
theorem dX0_appendVehicle_51 : decode cX0_appendVehicle 51 = .ok (.putfield 43, 3) := by decide +kernel
theorem dX0_appendVehicle_54 : decode cX0_appendVehicle 54 = .ok (.aload_n 0, 1) := by decide +kernel
theorem dX0_appendVehicle_55 : decode cX0_appendVehicle 55 = .ok (.getfield 34, 3) := by decide +kernel
theorem dX0_appendVehicle_58 : decode cX0_appendVehicle 58 = .ok (.iload_n 2, 1) := by decide +kernel
theorem dX0_appendVehicle_59 : decode cX0_appendVehicle 59 = .ok (.iaload, 1) := by decide +kernel
theorem dX0_appendVehicle_60 : decode cX0_appendVehicle 60 = .ok (.ireturn, 1) := by decide +kernel
theorem dX0_removeVehicle_0 : decode cX0_removeVehicle 0 = .ok (.aload_n 0, 1) := by decide +kernel
theorem dX0_removeVehicle_1 : decode cX0_removeVehicle 1 = .ok (.iload_n 1, 1) := by decide +kernel
theorem dX0_removeVehicle_2 : decode cX0_removeVehicle 2 = .ok (.invokevirtual 91, 3) := by decide +kernel
theorem dX0_removeVehicle_5 : decode cX0_removeVehicle 5 = .ok (.ifCond .ne 4, 3) := by decide +kernel
theorem dX0_removeVehicle_8 : decode cX0_removeVehicle 8 = .ok (.return_, 1) := by decide +kernel
theorem dX0_removeVehicle_9 : decode cX0_removeVehicle 9 = .ok (.iload_n 1, 1) := by decide +kernel
theorem dX0_removeVehicle_10 : decode cX0_removeVehicle 10 = .ok (.istore_n 2, 1) := by decide +kernel
theorem dX0_removeVehicle_11 : decode cX0_removeVehicle 11 = .ok (.iload_n 2, 1) := by decide +kernel
theorem dX0_removeVehicle_12 : decode cX0_removeVehicle 12 = .ok (.iconst 1, 1) := by decide +kernel
theorem dX0_removeVehicle_13 : decode cX0_removeVehicle 13 = .ok (.iadd, 1) := by decide +kernel
theorem dX0_removeVehicle_14 : decode cX0_removeVehicle 14 = .ok (.aload_n 0, 1) := by decide +kernel
theorem dX0_removeVehicle_15 : decode cX0_removeVehicle 15 = .ok (.getfield 31, 3) := by decide +kernel
theorem dX0_removeVehicle_18 : decode cX0_removeVehicle 18 = .ok (.if_icmp .ge 51, 3) := by decide +kernel
theorem dX0_removeVehicle_21 : decode cX0_removeVehicle 21 = .ok (.aload_n 0, 1) := by decide +kernel
theorem dX0_removeVehicle_22 : decode cX0_removeVehicle 22 = .ok (.getfield 34, 3) := by decide +kernel
theorem dX0_removeVehicle_25 : decode cX0_removeVehicle 25 = .ok (.iload_n 2, 1) := by decide +kernel
theorem dX0_removeVehicle_26 : decode cX0_removeVehicle 26 = .ok (.aload_n 0, 1) := by decide +kernel
theorem dX0_removeVehicle_27 : decode cX0_removeVehicle 27 = .ok (.getfield 34, 3) := by decide +kernel
theorem dX0_removeVehicle_30 : decode cX0_removeVehicle 30 = .ok (.iload_n 2, 1) := by decide +kernel
theorem dX0_removeVehicle_31 : decode cX0_removeVehicle 31 = .ok (.iconst 1, 1) := by decide +kernel
theorem dX0_removeVehicle_32 : decode cX0_removeVehicle 32 = .ok (.iadd, 1) := by decide +kernel
theorem dX0_removeVehicle_33 : decode cX0_removeVehicle 33 = .ok (.iaload, 1) := by decide +kernel
theorem dX0_removeVehicle_34 : decode cX0_removeVehicle 34 = .ok (.iastore, 1) := by decide +kernel
theorem dX0_removeVehicle_35 : decode cX0_removeVehicle 35 = .ok (.aload_n 0, 1) := by decide +kernel
theorem dX0_removeVehicle_36 : decode cX0_removeVehicle 36 = .ok (.getfield 37, 3) := by decide +kernel
theorem dX0_removeVehicle_39 : decode cX0_removeVehicle 39 = .ok (.iload_n 2, 1) := by decide +kernel
theorem dX0_removeVehicle_40 : decode cX0_removeVehicle 40 = .ok (.aload_n 0, 1) := by decide +kernel
theorem dX0_removeVehicle_41 : decode cX0_removeVehicle 41 = .ok (.getfield 37, 3) := by decide +kernel
theorem dX0_removeVehicle_44 : decode cX0_removeVehicle 44 = .ok (.iload_n 2, 1) := by decide +kernel
theorem dX0_removeVehicle_45 : decode cX0_removeVehicle 45 = .ok (.iconst 1, 1) := by decide +kernel
theorem dX0_removeVehicle_46 : decode cX0_removeVehicle 46 = .ok (.iadd, 1) := by decide +kernel
theorem dX0_removeVehicle_47 : decode cX0_removeVehicle 47 = .ok (.iaload, 1) := by decide +kernel
theorem dX0_removeVehicle_48 : decode cX0_removeVehicle 48 = .ok (.iastore, 1) := by decide +kernel
theorem dX0_removeVehicle_49 : decode cX0_removeVehicle 49 = .ok (.aload_n 0, 1) := by decide +kernel
theorem dX0_removeVehicle_50 : decode cX0_removeVehicle 50 = .ok (.getfield 40, 3) := by decide +kernel
theorem dX0_removeVehicle_53 : decode cX0_removeVehicle 53 = .ok (.iload_n 2, 1) := by decide +kernel
theorem dX0_removeVehicle_54 : decode cX0_removeVehicle 54 = .ok (.aload_n 0, 1) := by decide +kernel
theorem dX0_removeVehicle_55 : decode cX0_removeVehicle 55 = .ok (.getfield 40, 3) := by decide +kernel
theorem dX0_removeVehicle_58 : decode cX0_removeVehicle 58 = .ok (.iload_n 2, 1) := by decide +kernel
theorem dX0_removeVehicle_59 : decode cX0_removeVehicle 59 = .ok (.iconst 1, 1) := by decide +kernel
theorem dX0_removeVehicle_60 : decode cX0_removeVehicle 60 = .ok (.iadd, 1) := by decide +kernel
theorem dX0_removeVehicle_61 : decode cX0_removeVehicle 61 = .ok (.iaload, 1) := by decide +kernel
theorem dX0_removeVehicle_62 : decode cX0_removeVehicle 62 = .ok (.iastore, 1) := by decide +kernel
theorem dX0_removeVehicle_63 : decode cX0_removeVehicle 63 = .ok (.iinc 2 1, 3) := by decide +kernel
theorem dX0_removeVehicle_66 : decode cX0_removeVehicle 66 = .ok (.goto (-55), 3) := by decide +kernel
theorem dX0_removeVehicle_69 : decode cX0_removeVehicle 69 = .ok (.aload_n 0, 1) := by decide +kernel
theorem dX0_removeVehicle_70 : decode cX0_removeVehicle 70 = .ok (.dup, 1) := by decide +kernel
theorem dX0_removeVehicle_71 : decode cX0_removeVehicle 71 = .ok (.getfield 31, 3) := by decide +kernel
theorem dX0_removeVehicle_74 : decode cX0_removeVehicle 74 = .ok (.iconst 1, 1) := by decide +kernel
theorem dX0_removeVehicle_75 : decode cX0_removeVehicle 75 = .ok (.isub, 1) := by decide +kernel
theorem dX0_removeVehicle_76 : decode cX0_removeVehicle 76 = .ok (.putfield 31, 3) := by decide +kernel
theorem dX0_removeVehicle_79 : decode cX0_removeVehicle 79 = .ok (.return_, 1) := by decide +kernel
theorem dX0_letHoursPass_0 : decode cX0_letHoursPass 0 = .ok (.aload_n 0, 1) := by decide +kernel
theorem dX0_letHoursPass_1 : decode cX0_letHoursPass 1 = .ok (.getfield 58, 3) := by decide +kernel
theorem dX0_letHoursPass_4 : decode cX0_letHoursPass 4 = .ok (.istore_n 2, 1) := by decide +kernel
theorem dX0_letHoursPass_5 : decode cX0_letHoursPass 5 = .ok (.iconst 0, 1) := by decide +kernel
theorem dX0_letHoursPass_6 : decode cX0_letHoursPass 6 = .ok (.istore_n 3, 1) := by decide +kernel
theorem dX0_letHoursPass_7 : decode cX0_letHoursPass 7 = .ok (.iload_n 3, 1) := by decide +kernel
theorem dX0_letHoursPass_8 : decode cX0_letHoursPass 8 = .ok (.iload_n 1, 1) := by decide +kernel
theorem dX0_letHoursPass_9 : decode cX0_letHoursPass 9 = .ok (.if_icmp .ge 49, 3) := by decide +kernel
theorem dX0_letHoursPass_12 : decode cX0_letHoursPass 12 = .ok (.aload_n 0, 1) := by decide +kernel
theorem dX0_letHoursPass_13 : decode cX0_letHoursPass 13 = .ok (.dup, 1) := by decide +kernel
theorem dX0_letHoursPass_14 : decode cX0_letHoursPass 14 = .ok (.getfield 46, 3) := by decide +kernel
theorem dX0_letHoursPass_17 : decode cX0_letHoursPass 17 = .ok (.iconst 1, 1) := by decide +kernel
theorem dX0_letHoursPass_18 : decode cX0_letHoursPass 18 = .ok (.iadd, 1) := by decide +kernel
theorem dX0_letHoursPass_19 : decode cX0_letHoursPass 19 = .ok (.putfield 46, 3) := by decide +kernel
theorem dX0_letHoursPass_22 : decode cX0_letHoursPass 22 = .ok (.aload_n 0, 1) := by decide +kernel
theorem dX0_letHoursPass_23 : decode cX0_letHoursPass 23 = .ok (.invokevirtual 116, 3) := by decide +kernel
theorem dX0_letHoursPass_26 : decode cX0_letHoursPass 26 = .ok (.aload_n 0, 1) := by decide +kernel
theorem dX0_letHoursPass_27 : decode cX0_letHoursPass 27 = .ok (.invokevirtual 119, 3) := by decide +kernel
theorem dX0_letHoursPass_30 : decode cX0_letHoursPass 30 = .ok (.aload_n 0, 1) := by decide +kernel
theorem dX0_letHoursPass_31 : decode cX0_letHoursPass 31 = .ok (.invokevirtual 122, 3) := by decide +kernel
theorem dX0_letHoursPass_34 : decode cX0_letHoursPass 34 = .ok (.aload_n 0, 1) := by decide +kernel
theorem dX0_letHoursPass_35 : decode cX0_letHoursPass 35 = .ok (.getfield 46, 3) := by decide +kernel
theorem dX0_letHoursPass_38 : decode cX0_letHoursPass 38 = .ok (.bipush 6, 2) := by decide +kernel
theorem dX0_letHoursPass_40 : decode cX0_letHoursPass 40 = .ok (.irem, 1) := by decide +kernel
theorem dX0_letHoursPass_41 : decode cX0_letHoursPass 41 = .ok (.ifCond .ne 7, 3) := by decide +kernel
theorem dX0_letHoursPass_44 : decode cX0_letHoursPass 44 = .ok (.aload_n 0, 1) := by decide +kernel
theorem dX0_letHoursPass_45 : decode cX0_letHoursPass 45 = .ok (.invokevirtual 125, 3) := by decide +kernel
theorem dX0_letHoursPass_48 : decode cX0_letHoursPass 48 = .ok (.aload_n 0, 1) := by decide +kernel
theorem dX0_letHoursPass_49 : decode cX0_letHoursPass 49 = .ok (.invokevirtual 128, 3) := by decide +kernel
theorem dX0_letHoursPass_52 : decode cX0_letHoursPass 52 = .ok (.iinc 3 1, 3) := by decide +kernel
theorem dX0_letHoursPass_55 : decode cX0_letHoursPass 55 = .ok (.goto (-48), 3) := by decide +kernel
theorem dX0_letHoursPass_58 : decode cX0_letHoursPass 58 = .ok (.aload_n 0, 1) := by decide +kernel
theorem dX0_letHoursPass_59 : decode cX0_letHoursPass 59 = .ok (.getfield 58, 3) := by decide +kernel
theorem dX0_letHoursPass_62 : decode cX0_letHoursPass 62 = .ok (.iload_n 2, 1) := by decide +kernel
theorem dX0_letHoursPass_63 : decode cX0_letHoursPass 63 = .ok (.isub, 1) := by decide +kernel
theorem dX0_letHoursPass_64 : decode cX0_letHoursPass 64 = .ok (.ireturn, 1) := by decide +kernel
theorem dX0_ageSpans_0 : decode cX0_ageSpans 0 = .ok (.iconst 0, 1) := by decide +kernel
theorem dX0_ageSpans_1 : decode cX0_ageSpans 1 = .ok (.istore_n 1, 1) := by decide +kernel
theorem dX0_ageSpans_2 : decode cX0_ageSpans 2 = .ok (.iload_n 1, 1) := by decide +kernel
theorem dX0_ageSpans_3 : decode cX0_ageSpans 3 = .ok (.aload_n 0, 1) := by decide +kernel
theorem dX0_ageSpans_4 : decode cX0_ageSpans 4 = .ok (.getfield 9, 3) := by decide +kernel
theorem dX0_ageSpans_7 : decode cX0_ageSpans 7 = .ok (.if_icmp .ge 28, 3) := by decide +kernel
theorem dX0_ageSpans_10 : decode cX0_ageSpans 10 = .ok (.aload_n 0, 1) := by decide +kernel
theorem dX0_ageSpans_11 : decode cX0_ageSpans 11 = .ok (.getfield 19, 3) := by decide +kernel
theorem dX0_ageSpans_14 : decode cX0_ageSpans 14 = .ok (.iload_n 1, 1) := by decide +kernel
theorem dX0_ageSpans_15 : decode cX0_ageSpans 15 = .ok (.iaload, 1) := by decide +kernel
theorem dX0_ageSpans_16 : decode cX0_ageSpans 16 = .ok (.ifCond .le 13, 3) := by decide +kernel
theorem dX0_ageSpans_19 : decode cX0_ageSpans 19 = .ok (.aload_n 0, 1) := by decide +kernel
theorem dX0_ageSpans_20 : decode cX0_ageSpans 20 = .ok (.getfield 22, 3) := by decide +kernel
theorem dX0_ageSpans_23 : decode cX0_ageSpans 23 = .ok (.iload_n 1, 1) := by decide +kernel
theorem dX0_ageSpans_24 : decode cX0_ageSpans 24 = .ok (.dup2, 1) := by decide +kernel
theorem dX0_ageSpans_25 : decode cX0_ageSpans 25 = .ok (.iaload, 1) := by decide +kernel
theorem dX0_ageSpans_26 : decode cX0_ageSpans 26 = .ok (.iconst 1, 1) := by decide +kernel
theorem dX0_ageSpans_27 : decode cX0_ageSpans 27 = .ok (.iadd, 1) := by decide +kernel
theorem dX0_ageSpans_28 : decode cX0_ageSpans 28 = .ok (.iastore, 1) := by decide +kernel
theorem dX0_ageSpans_29 : decode cX0_ageSpans 29 = .ok (.iinc 1 1, 3) := by decide +kernel
theorem dX0_ageSpans_32 : decode cX0_ageSpans 32 = .ok (.goto (-30), 3) := by decide +kernel
theorem dX0_ageSpans_35 : decode cX0_ageSpans 35 = .ok (.return_, 1) := by decide +kernel
theorem dX0_moveVehicles_0 : decode cX0_moveVehicles 0 = .ok (.aload_n 0, 1) := by decide +kernel
theorem dX0_moveVehicles_1 : decode cX0_moveVehicles 1 = .ok (.getfield 31, 3) := by decide +kernel
theorem dX0_moveVehicles_4 : decode cX0_moveVehicles 4 = .ok (.istore_n 1, 1) := by decide +kernel
theorem dX0_moveVehicles_5 : decode cX0_moveVehicles 5 = .ok (.iconst 0, 1) := by decide +kernel
theorem dX0_moveVehicles_6 : decode cX0_moveVehicles 6 = .ok (.istore_n 2, 1) := by decide +kernel
theorem dX0_moveVehicles_7 : decode cX0_moveVehicles 7 = .ok (.iconst 0, 1) := by decide +kernel
theorem dX0_moveVehicles_8 : decode cX0_moveVehicles 8 = .ok (.istore_n 3, 1) := by decide +kernel
theorem dX0_moveVehicles_9 : decode cX0_moveVehicles 9 = .ok (.iload_n 3, 1) := by decide +kernel
theorem dX0_moveVehicles_10 : decode cX0_moveVehicles 10 = .ok (.iload_n 1, 1) := by decide +kernel
theorem dX0_moveVehicles_11 : decode cX0_moveVehicles 11 = .ok (.if_icmp .ge 51, 3) := by decide +kernel
theorem dX0_moveVehicles_14 : decode cX0_moveVehicles 14 = .ok (.aload_n 0, 1) := by decide +kernel
theorem dX0_moveVehicles_15 : decode cX0_moveVehicles 15 = .ok (.iload_n 2, 1) := by decide +kernel
theorem dX0_moveVehicles_16 : decode cX0_moveVehicles 16 = .ok (.invokevirtual 131, 3) := by decide +kernel
theorem dX0_moveVehicles_19 : decode cX0_moveVehicles 19 = .ok (.ifCond .eq 16, 3) := by decide +kernel
theorem dX0_moveVehicles_22 : decode cX0_moveVehicles 22 = .ok (.aload_n 0, 1) := by decide +kernel
theorem dX0_moveVehicles_23 : decode cX0_moveVehicles 23 = .ok (.iload_n 2, 1) := by decide +kernel
theorem dX0_moveVehicles_24 : decode cX0_moveVehicles 24 = .ok (.invokevirtual 134, 3) := by decide +kernel
theorem dX0_moveVehicles_27 : decode cX0_moveVehicles 27 = .ok (.aload_n 0, 1) := by decide +kernel
theorem dX0_moveVehicles_28 : decode cX0_moveVehicles 28 = .ok (.iload_n 2, 1) := by decide +kernel
theorem dX0_moveVehicles_29 : decode cX0_moveVehicles 29 = .ok (.invokevirtual 138, 3) := by decide +kernel
theorem dX0_moveVehicles_32 : decode cX0_moveVehicles 32 = .ok (.goto 24, 3) := by decide +kernel
theorem dX0_moveVehicles_35 : decode cX0_moveVehicles 35 = .ok (.aload_n 0, 1) := by decide +kernel
theorem dX0_moveVehicles_36 : decode cX0_moveVehicles 36 = .ok (.iload_n 2, 1) := by decide +kernel
theorem dX0_moveVehicles_37 : decode cX0_moveVehicles 37 = .ok (.invokevirtual 141, 3) := by decide +kernel
theorem dX0_moveVehicles_40 : decode cX0_moveVehicles 40 = .ok (.ifCond .eq 13, 3) := by decide +kernel
theorem dX0_moveVehicles_43 : decode cX0_moveVehicles 43 = .ok (.aload_n 0, 1) := by decide +kernel
theorem dX0_moveVehicles_44 : decode cX0_moveVehicles 44 = .ok (.getfield 40, 3) := by decide +kernel
theorem dX0_moveVehicles_47 : decode cX0_moveVehicles 47 = .ok (.iload_n 2, 1) := by decide +kernel
theorem dX0_moveVehicles_48 : decode cX0_moveVehicles 48 = .ok (.dup2, 1) := by decide +kernel
theorem dX0_moveVehicles_49 : decode cX0_moveVehicles 49 = .ok (.iaload, 1) := by decide +kernel
theorem dX0_moveVehicles_50 : decode cX0_moveVehicles 50 = .ok (.iconst 1, 1) := by decide +kernel
theorem dX0_moveVehicles_51 : decode cX0_moveVehicles 51 = .ok (.iadd, 1) := by decide +kernel
theorem dX0_moveVehicles_52 : decode cX0_moveVehicles 52 = .ok (.iastore, 1) := by decide +kernel
theorem dX0_moveVehicles_53 : decode cX0_moveVehicles 53 = .ok (.iinc 2 1, 3) := by decide +kernel
theorem dX0_moveVehicles_56 : decode cX0_moveVehicles 56 = .ok (.iinc 3 1, 3) := by decide +kernel
theorem dX0_moveVehicles_59 : decode cX0_moveVehicles 59 = .ok (.goto (-50), 3) := by decide +kernel
theorem dX0_moveVehicles_62 : decode cX0_moveVehicles 62 = .ok (.return_, 1) := by decide +kernel
theorem dX0_payToll_0 : decode cX0_payToll 0 = .ok (.aload_n 0, 1) := by decide +kernel
theorem dX0_payToll_1 : decode cX0_payToll 1 = .ok (.iload_n 1, 1) := by decide +kernel
theorem dX0_payToll_2 : decode cX0_payToll 2 = .ok (.invokevirtual 144, 3) := by decide +kernel
theorem dX0_payToll_5 : decode cX0_payToll 5 = .ok (.istore_n 2, 1) := by decide +kernel
theorem dX0_payToll_6 : decode cX0_payToll 6 = .ok (.aload_n 0, 1) := by decide +kernel
theorem dX0_payToll_7 : decode cX0_payToll 7 = .ok (.dup, 1) := by decide +kernel
theorem dX0_payToll_8 : decode cX0_payToll 8 = .ok (.getfield 52, 3) := by decide +kernel
theorem dX0_payToll_11 : decode cX0_payToll 11 = .ok (.iload_n 2, 1) := by decide +kernel
theorem dX0_payToll_12 : decode cX0_payToll 12 = .ok (.iadd, 1) := by decide +kernel
theorem dX0_payToll_13 : decode cX0_payToll 13 = .ok (.putfield 52, 3) := by decide +kernel
theorem dX0_payToll_16 : decode cX0_payToll 16 = .ok (.aload_n 0, 1) := by decide +kernel
theorem dX0_payToll_17 : decode cX0_payToll 17 = .ok (.dup, 1) := by decide +kernel
theorem dX0_payToll_18 : decode cX0_payToll 18 = .ok (.getfield 55, 3) := by decide +kernel
theorem dX0_payToll_21 : decode cX0_payToll 21 = .ok (.iload_n 2, 1) := by decide +kernel
theorem dX0_payToll_22 : decode cX0_payToll 22 = .ok (.iadd, 1) := by decide +kernel
theorem dX0_payToll_23 : decode cX0_payToll 23 = .ok (.putfield 55, 3) := by decide +kernel
theorem dX0_payToll_26 : decode cX0_payToll 26 = .ok (.aload_n 0, 1) := by decide +kernel
theorem dX0_payToll_27 : decode cX0_payToll 27 = .ok (.dup, 1) := by decide +kernel
theorem dX0_payToll_28 : decode cX0_payToll 28 = .ok (.getfield 58, 3) := by decide +kernel
theorem dX0_payToll_31 : decode cX0_payToll 31 = .ok (.iconst 1, 1) := by decide +kernel
theorem dX0_payToll_32 : decode cX0_payToll 32 = .ok (.iadd, 1) := by decide +kernel
theorem dX0_payToll_33 : decode cX0_payToll 33 = .ok (.putfield 58, 3) := by decide +kernel
theorem dX0_payToll_36 : decode cX0_payToll 36 = .ok (.return_, 1) := by decide +kernel
theorem dX0_mayMove_0 : decode cX0_mayMove 0 = .ok (.aload_n 0, 1) := by decide +kernel
theorem dX0_mayMove_1 : decode cX0_mayMove 1 = .ok (.iload_n 1, 1) := by decide +kernel
theorem dX0_mayMove_2 : decode cX0_mayMove 2 = .ok (.invokevirtual 91, 3) := by decide +kernel
theorem dX0_mayMove_5 : decode cX0_mayMove 5 = .ok (.ifCond .ne 5, 3) := by decide +kernel
theorem dX0_mayMove_8 : decode cX0_mayMove 8 = .ok (.iconst 0, 1) := by decide +kernel
theorem dX0_mayMove_9 : decode cX0_mayMove 9 = .ok (.ireturn, 1) := by decide +kernel
theorem dX0_mayMove_10 : decode cX0_mayMove 10 = .ok (.aload_n 0, 1) := by decide +kernel
theorem dX0_mayMove_11 : decode cX0_mayMove 11 = .ok (.getfield 40, 3) := by decide +kernel
theorem dX0_mayMove_14 : decode cX0_mayMove 14 = .ok (.iload_n 1, 1) := by decide +kernel
theorem dX0_mayMove_15 : decode cX0_mayMove 15 = .ok (.iaload, 1) := by decide +kernel
theorem dX0_mayMove_16 : decode cX0_mayMove 16 = .ok (.istore_n 2, 1) := by decide +kernel
theorem dX0_mayMove_17 : decode cX0_mayMove 17 = .ok (.iconst 0, 1) := by decide +kernel
theorem dX0_mayMove_18 : decode cX0_mayMove 18 = .ok (.istore_n 3, 1) := by decide +kernel
theorem dX0_mayMove_19 : decode cX0_mayMove 19 = .ok (.iload_n 3, 1) := by decide +kernel
theorem dX0_mayMove_20 : decode cX0_mayMove 20 = .ok (.iload_n 1, 1) := by decide +kernel
theorem dX0_mayMove_21 : decode cX0_mayMove 21 = .ok (.if_icmp .ge 21, 3) := by decide +kernel
theorem dX0_mayMove_24 : decode cX0_mayMove 24 = .ok (.aload_n 0, 1) := by decide +kernel
theorem dX0_mayMove_25 : decode cX0_mayMove 25 = .ok (.getfield 40, 3) := by decide +kernel
theorem dX0_mayMove_28 : decode cX0_mayMove 28 = .ok (.iload_n 3, 1) := by decide +kernel
theorem dX0_mayMove_29 : decode cX0_mayMove 29 = .ok (.iaload, 1) := by decide +kernel
theorem dX0_mayMove_30 : decode cX0_mayMove 30 = .ok (.iload_n 2, 1) := by decide +kernel
theorem dX0_mayMove_31 : decode cX0_mayMove 31 = .ok (.if_icmp .ne 5, 3) := by decide +kernel
theorem dX0_mayMove_34 : decode cX0_mayMove 34 = .ok (.iconst 0, 1) := by decide +kernel
theorem dX0_mayMove_35 : decode cX0_mayMove 35 = .ok (.ireturn, 1) := by decide +kernel
theorem dX0_mayMove_36 : decode cX0_mayMove 36 = .ok (.iinc 3 1, 3) := by decide +kernel
theorem dX0_mayMove_39 : decode cX0_mayMove 39 = .ok (.goto (-20), 3) := by decide +kernel
theorem dX0_mayMove_42 : decode cX0_mayMove 42 = .ok (.aload_n 0, 1) := by decide +kernel
theorem dX0_mayMove_43 : decode cX0_mayMove 43 = .ok (.iload_n 2, 1) := by decide +kernel
theorem dX0_mayMove_44 : decode cX0_mayMove 44 = .ok (.iconst 1, 1) := by decide +kernel
theorem dX0_mayMove_45 : decode cX0_mayMove 45 = .ok (.iadd, 1) := by decide +kernel
theorem dX0_mayMove_46 : decode cX0_mayMove 46 = .ok (.invokevirtual 80, 3) := by decide +kernel
theorem dX0_mayMove_49 : decode cX0_mayMove 49 = .ok (.aload_n 0, 1) := by decide +kernel
theorem dX0_mayMove_50 : decode cX0_mayMove 50 = .ok (.getfield 37, 3) := by decide +kernel
theorem dX0_mayMove_53 : decode cX0_mayMove 53 = .ok (.iload_n 1, 1) := by decide +kernel
theorem dX0_mayMove_54 : decode cX0_mayMove 54 = .ok (.iaload, 1) := by decide +kernel
theorem dX0_mayMove_55 : decode cX0_mayMove 55 = .ok (.iadd, 1) := by decide +kernel
theorem dX0_mayMove_56 : decode cX0_mayMove 56 = .ok (.aload_n 0, 1) := by decide +kernel
theorem dX0_mayMove_57 : decode cX0_mayMove 57 = .ok (.iload_n 2, 1) := by decide +kernel
theorem dX0_mayMove_58 : decode cX0_mayMove 58 = .ok (.iconst 1, 1) := by decide +kernel
theorem dX0_mayMove_59 : decode cX0_mayMove 59 = .ok (.iadd, 1) := by decide +kernel
theorem dX0_mayMove_60 : decode cX0_mayMove 60 = .ok (.invokevirtual 84, 3) := by decide +kernel
theorem dX0_mayMove_63 : decode cX0_mayMove 63 = .ok (.if_icmp .gt 7, 3) := by decide +kernel
theorem dX0_mayMove_66 : decode cX0_mayMove 66 = .ok (.iconst 1, 1) := by decide +kernel
theorem dX0_mayMove_67 : decode cX0_mayMove 67 = .ok (.goto 4, 3) := by decide +kernel
theorem dX0_mayMove_70 : decode cX0_mayMove 70 = .ok (.iconst 0, 1) := by decide +kernel
theorem dX0_mayMove_71 : decode cX0_mayMove 71 = .ok (.ireturn, 1) := by decide +kernel
theorem dX0_stressSpans_0 : decode cX0_stressSpans 0 = .ok (.iconst 0, 1) := by decide +kernel
theorem dX0_stressSpans_1 : decode cX0_stressSpans 1 = .ok (.istore_n 1, 1) := by decide +kernel
theorem dX0_stressSpans_2 : decode cX0_stressSpans 2 = .ok (.iload_n 1, 1) := by decide +kernel
theorem dX0_stressSpans_3 : decode cX0_stressSpans 3 = .ok (.aload_n 0, 1) := by decide +kernel
theorem dX0_stressSpans_4 : decode cX0_stressSpans 4 = .ok (.getfield 9, 3) := by decide +kernel
theorem dX0_stressSpans_7 : decode cX0_stressSpans 7 = .ok (.if_icmp .ge 57, 3) := by decide +kernel
theorem dX0_stressSpans_10 : decode cX0_stressSpans 10 = .ok (.aload_n 0, 1) := by decide +kernel
theorem dX0_stressSpans_11 : decode cX0_stressSpans 11 = .ok (.getfield 28, 3) := by decide +kernel
theorem dX0_stressSpans_14 : decode cX0_stressSpans 14 = .ok (.iload_n 1, 1) := by decide +kernel
theorem dX0_stressSpans_15 : decode cX0_stressSpans 15 = .ok (.aload_n 0, 1) := by decide +kernel
theorem dX0_stressSpans_16 : decode cX0_stressSpans 16 = .ok (.iload_n 1, 1) := by decide +kernel
theorem dX0_stressSpans_17 : decode cX0_stressSpans 17 = .ok (.invokevirtual 147, 3) := by decide +kernel
theorem dX0_stressSpans_20 : decode cX0_stressSpans 20 = .ok (.ifCond .eq 14, 3) := by decide +kernel
theorem dX0_stressSpans_23 : decode cX0_stressSpans 23 = .ok (.aload_n 0, 1) := by decide +kernel
theorem dX0_stressSpans_24 : decode cX0_stressSpans 24 = .ok (.getfield 28, 3) := by decide +kernel
theorem dX0_stressSpans_27 : decode cX0_stressSpans 27 = .ok (.iload_n 1, 1) := by decide +kernel
theorem dX0_stressSpans_28 : decode cX0_stressSpans 28 = .ok (.iaload, 1) := by decide +kernel
theorem dX0_stressSpans_29 : decode cX0_stressSpans 29 = .ok (.iconst 1, 1) := by decide +kernel
theorem dX0_stressSpans_30 : decode cX0_stressSpans 30 = .ok (.iadd, 1) := by decide +kernel
theorem dX0_stressSpans_31 : decode cX0_stressSpans 31 = .ok (.goto 4, 3) := by decide +kernel
theorem dX0_stressSpans_34 : decode cX0_stressSpans 34 = .ok (.iconst 0, 1) := by decide +kernel
theorem dX0_stressSpans_35 : decode cX0_stressSpans 35 = .ok (.iastore, 1) := by decide +kernel
theorem dX0_stressSpans_36 : decode cX0_stressSpans 36 = .ok (.aload_n 0, 1) := by decide +kernel
theorem dX0_stressSpans_37 : decode cX0_stressSpans 37 = .ok (.getfield 28, 3) := by decide +kernel
theorem dX0_stressSpans_40 : decode cX0_stressSpans 40 = .ok (.iload_n 1, 1) := by decide +kernel
theorem dX0_stressSpans_41 : decode cX0_stressSpans 41 = .ok (.iaload, 1) := by decide +kernel
theorem dX0_stressSpans_42 : decode cX0_stressSpans 42 = .ok (.iconst 3, 1) := by decide +kernel
theorem dX0_stressSpans_43 : decode cX0_stressSpans 43 = .ok (.if_icmp .ne 15, 3) := by decide +kernel
theorem dX0_stressSpans_46 : decode cX0_stressSpans 46 = .ok (.aload_n 0, 1) := by decide +kernel
theorem dX0_stressSpans_47 : decode cX0_stressSpans 47 = .ok (.getfield 28, 3) := by decide +kernel
theorem dX0_stressSpans_50 : decode cX0_stressSpans 50 = .ok (.iload_n 1, 1) := by decide +kernel
theorem dX0_stressSpans_51 : decode cX0_stressSpans 51 = .ok (.iconst 0, 1) := by decide +kernel
theorem dX0_stressSpans_52 : decode cX0_stressSpans 52 = .ok (.iastore, 1) := by decide +kernel
theorem dX0_stressSpans_53 : decode cX0_stressSpans 53 = .ok (.aload_n 0, 1) := by decide +kernel
theorem dX0_stressSpans_54 : decode cX0_stressSpans 54 = .ok (.iload_n 1, 1) := by decide +kernel
theorem dX0_stressSpans_55 : decode cX0_stressSpans 55 = .ok (.invokevirtual 150, 3) := by decide +kernel
theorem dX0_stressSpans_58 : decode cX0_stressSpans 58 = .ok (.iinc 1 1, 3) := by decide +kernel
theorem dX0_stressSpans_61 : decode cX0_stressSpans 61 = .ok (.goto (-59), 3) := by decide +kernel
theorem dX0_stressSpans_64 : decode cX0_stressSpans 64 = .ok (.return_, 1) := by decide +kernel
theorem dX0_crack_0 : decode cX0_crack 0 = .ok (.aload_n 0, 1) := by decide +kernel
theorem dX0_crack_1 : decode cX0_crack 1 = .ok (.iload_n 1, 1) := by decide +kernel
theorem dX0_crack_2 : decode cX0_crack 2 = .ok (.invokevirtual 70, 3) := by decide +kernel
theorem dX0_crack_5 : decode cX0_crack 5 = .ok (.ifCond .eq 24, 3) := by decide +kernel
theorem dX0_crack_8 : decode cX0_crack 8 = .ok (.aload_n 0, 1) := by decide +kernel
theorem dX0_crack_9 : decode cX0_crack 9 = .ok (.getfield 25, 3) := by decide +kernel
theorem dX0_crack_12 : decode cX0_crack 12 = .ok (.iload_n 1, 1) := by decide +kernel
theorem dX0_crack_13 : decode cX0_crack 13 = .ok (.iaload, 1) := by decide +kernel
theorem dX0_crack_14 : decode cX0_crack 14 = .ok (.bipush 9, 2) := by decide +kernel
theorem dX0_crack_16 : decode cX0_crack 16 = .ok (.if_icmp .ge 13, 3) := by decide +kernel
theorem dX0_crack_19 : decode cX0_crack 19 = .ok (.aload_n 0, 1) := by decide +kernel
theorem dX0_crack_20 : decode cX0_crack 20 = .ok (.getfield 25, 3) := by decide +kernel
theorem dX0_crack_23 : decode cX0_crack 23 = .ok (.iload_n 1, 1) := by decide +kernel
theorem dX0_crack_24 : decode cX0_crack 24 = .ok (.dup2, 1) := by decide +kernel
theorem dX0_crack_25 : decode cX0_crack 25 = .ok (.iaload, 1) := by decide +kernel
theorem dX0_crack_26 : decode cX0_crack 26 = .ok (.iconst 1, 1) := by decide +kernel
theorem dX0_crack_27 : decode cX0_crack 27 = .ok (.iadd, 1) := by decide +kernel
theorem dX0_crack_28 : decode cX0_crack 28 = .ok (.iastore, 1) := by decide +kernel
theorem dX0_crack_29 : decode cX0_crack 29 = .ok (.return_, 1) := by decide +kernel
theorem dX0_spreadCracks_0 : decode cX0_spreadCracks 0 = .ok (.iconst 0, 1) := by decide +kernel
theorem dX0_spreadCracks_1 : decode cX0_spreadCracks 1 = .ok (.istore_n 1, 1) := by decide +kernel
theorem dX0_spreadCracks_2 : decode cX0_spreadCracks 2 = .ok (.iconst 0, 1) := by decide +kernel
theorem dX0_spreadCracks_3 : decode cX0_spreadCracks 3 = .ok (.istore_n 2, 1) := by decide +kernel
theorem dX0_spreadCracks_4 : decode cX0_spreadCracks 4 = .ok (.iload_n 2, 1) := by decide +kernel
theorem dX0_spreadCracks_5 : decode cX0_spreadCracks 5 = .ok (.aload_n 0, 1) := by decide +kernel
theorem dX0_spreadCracks_6 : decode cX0_spreadCracks 6 = .ok (.getfield 9, 3) := by decide +kernel
theorem dX0_spreadCracks_9 : decode cX0_spreadCracks 9 = .ok (.if_icmp .ge 67, 3) := by decide +kernel
theorem dX0_spreadCracks_12 : decode cX0_spreadCracks 12 = .ok (.aload_n 0, 1) := by decide +kernel
theorem dX0_spreadCracks_13 : decode cX0_spreadCracks 13 = .ok (.getfield 25, 3) := by decide +kernel
theorem dX0_spreadCracks_16 : decode cX0_spreadCracks 16 = .ok (.iload_n 2, 1) := by decide +kernel
theorem dX0_spreadCracks_17 : decode cX0_spreadCracks 17 = .ok (.iaload, 1) := by decide +kernel
theorem dX0_spreadCracks_18 : decode cX0_spreadCracks 18 = .ok (.istore_n 3, 1) := by decide +kernel
theorem dX0_spreadCracks_19 : decode cX0_spreadCracks 19 = .ok (.aload_n 0, 1) := by decide +kernel
theorem dX0_spreadCracks_20 : decode cX0_spreadCracks 20 = .ok (.iload_n 2, 1) := by decide +kernel
theorem dX0_spreadCracks_21 : decode cX0_spreadCracks 21 = .ok (.iconst 1, 1) := by decide +kernel
theorem dX0_spreadCracks_22 : decode cX0_spreadCracks 22 = .ok (.iadd, 1) := by decide +kernel
theorem dX0_spreadCracks_23 : decode cX0_spreadCracks 23 = .ok (.invokevirtual 70, 3) := by decide +kernel
theorem dX0_spreadCracks_26 : decode cX0_spreadCracks 26 = .ok (.ifCond .eq 14, 3) := by decide +kernel
theorem dX0_spreadCracks_29 : decode cX0_spreadCracks 29 = .ok (.aload_n 0, 1) := by decide +kernel
theorem dX0_spreadCracks_30 : decode cX0_spreadCracks 30 = .ok (.getfield 25, 3) := by decide +kernel
theorem dX0_spreadCracks_33 : decode cX0_spreadCracks 33 = .ok (.iload_n 2, 1) := by decide +kernel
theorem dX0_spreadCracks_34 : decode cX0_spreadCracks 34 = .ok (.iconst 1, 1) := by decide +kernel
theorem dX0_spreadCracks_35 : decode cX0_spreadCracks 35 = .ok (.iadd, 1) := by decide +kernel
theorem dX0_spreadCracks_36 : decode cX0_spreadCracks 36 = .ok (.iaload, 1) := by decide +kernel
theorem dX0_spreadCracks_37 : decode cX0_spreadCracks 37 = .ok (.goto 4, 3) := by decide +kernel
theorem dX0_spreadCracks_40 : decode cX0_spreadCracks 40 = .ok (.iconst 0, 1) := by decide +kernel
theorem dX0_spreadCracks_41 : decode cX0_spreadCracks 41 = .ok (.istore 4, 2) := by decide +kernel
theorem dX0_spreadCracks_43 : decode cX0_spreadCracks 43 = .ok (.iload_n 1, 1) := by decide +kernel
theorem dX0_spreadCracks_44 : decode cX0_spreadCracks 44 = .ok (.iload 4, 2) := by decide +kernel
theorem dX0_spreadCracks_46 : decode cX0_spreadCracks 46 = .ok (.invokestatic 153, 3) := by decide +kernel
theorem dX0_spreadCracks_49 : decode cX0_spreadCracks 49 = .ok (.istore 5, 2) := by decide +kernel
theorem dX0_spreadCracks_51 : decode cX0_spreadCracks 51 = .ok (.iload 5, 2) := by decide +kernel
theorem dX0_spreadCracks_53 : decode cX0_spreadCracks 53 = .ok (.iconst 5, 1) := by decide +kernel
theorem dX0_spreadCracks_54 : decode cX0_spreadCracks 54 = .ok (.if_icmp .lt 14, 3) := by decide +kernel
theorem dX0_spreadCracks_57 : decode cX0_spreadCracks 57 = .ok (.iload 5, 2) := by decide +kernel
theorem dX0_spreadCracks_59 : decode cX0_spreadCracks 59 = .ok (.iload_n 3, 1) := by decide +kernel
theorem dX0_spreadCracks_60 : decode cX0_spreadCracks 60 = .ok (.if_icmp .le 8, 3) := by decide +kernel
theorem dX0_spreadCracks_63 : decode cX0_spreadCracks 63 = .ok (.aload_n 0, 1) := by decide +kernel
theorem dX0_spreadCracks_64 : decode cX0_spreadCracks 64 = .ok (.iload_n 2, 1) := by decide +kernel
theorem dX0_spreadCracks_65 : decode cX0_spreadCracks 65 = .ok (.invokevirtual 150, 3) := by decide +kernel
theorem dX0_spreadCracks_68 : decode cX0_spreadCracks 68 = .ok (.iload_n 3, 1) := by decide +kernel
theorem dX0_spreadCracks_69 : decode cX0_spreadCracks 69 = .ok (.istore_n 1, 1) := by decide +kernel
theorem dX0_spreadCracks_70 : decode cX0_spreadCracks 70 = .ok (.iinc 2 1, 3) := by decide +kernel
theorem dX0_spreadCracks_73 : decode cX0_spreadCracks 73 = .ok (.goto (-69), 3) := by decide +kernel
theorem dX0_spreadCracks_76 : decode cX0_spreadCracks 76 = .ok (.return_, 1) := by decide +kernel
theorem dX0_sinkVehicles_0 : decode cX0_sinkVehicles 0 = .ok (.iconst 0, 1) := by decide +kernel
theorem dX0_sinkVehicles_1 : decode cX0_sinkVehicles 1 = .ok (.istore_n 1, 1) := by decide +kernel
theorem dX0_sinkVehicles_2 : decode cX0_sinkVehicles 2 = .ok (.iload_n 1, 1) := by decide +kernel
theorem dX0_sinkVehicles_3 : decode cX0_sinkVehicles 3 = .ok (.aload_n 0, 1) := by decide +kernel
theorem dX0_sinkVehicles_4 : decode cX0_sinkVehicles 4 = .ok (.getfield 9, 3) := by decide +kernel
theorem dX0_sinkVehicles_7 : decode cX0_sinkVehicles 7 = .ok (.if_icmp .ge 66, 3) := by decide +kernel
theorem dX0_sinkVehicles_10 : decode cX0_sinkVehicles 10 = .ok (.aload_n 0, 1) := by decide +kernel
theorem dX0_sinkVehicles_11 : decode cX0_sinkVehicles 11 = .ok (.iload_n 1, 1) := by decide +kernel
theorem dX0_sinkVehicles_12 : decode cX0_sinkVehicles 12 = .ok (.invokevirtual 84, 3) := by decide +kernel
theorem dX0_sinkVehicles_15 : decode cX0_sinkVehicles 15 = .ok (.istore_n 2, 1) := by decide +kernel
theorem dX0_sinkVehicles_16 : decode cX0_sinkVehicles 16 = .ok (.aload_n 0, 1) := by decide +kernel
theorem dX0_sinkVehicles_17 : decode cX0_sinkVehicles 17 = .ok (.getfield 31, 3) := by decide +kernel
theorem dX0_sinkVehicles_20 : decode cX0_sinkVehicles 20 = .ok (.iconst 1, 1) := by decide +kernel
theorem dX0_sinkVehicles_21 : decode cX0_sinkVehicles 21 = .ok (.isub, 1) := by decide +kernel
theorem dX0_sinkVehicles_22 : decode cX0_sinkVehicles 22 = .ok (.istore_n 3, 1) := by decide +kernel
theorem dX0_sinkVehicles_23 : decode cX0_sinkVehicles 23 = .ok (.iload_n 3, 1) := by decide +kernel
theorem dX0_sinkVehicles_24 : decode cX0_sinkVehicles 24 = .ok (.ifCond .lt 43, 3) := by decide +kernel
theorem dX0_sinkVehicles_27 : decode cX0_sinkVehicles 27 = .ok (.aload_n 0, 1) := by decide +kernel
theorem dX0_sinkVehicles_28 : decode cX0_sinkVehicles 28 = .ok (.iload_n 1, 1) := by decide +kernel
theorem dX0_sinkVehicles_29 : decode cX0_sinkVehicles 29 = .ok (.invokevirtual 80, 3) := by decide +kernel
theorem dX0_sinkVehicles_32 : decode cX0_sinkVehicles 32 = .ok (.iload_n 2, 1) := by decide +kernel
theorem dX0_sinkVehicles_33 : decode cX0_sinkVehicles 33 = .ok (.if_icmp .le 34, 3) := by decide +kernel
theorem dX0_sinkVehicles_36 : decode cX0_sinkVehicles 36 = .ok (.aload_n 0, 1) := by decide +kernel
theorem dX0_sinkVehicles_37 : decode cX0_sinkVehicles 37 = .ok (.getfield 40, 3) := by decide +kernel
theorem dX0_sinkVehicles_40 : decode cX0_sinkVehicles 40 = .ok (.iload_n 3, 1) := by decide +kernel
theorem dX0_sinkVehicles_41 : decode cX0_sinkVehicles 41 = .ok (.iaload, 1) := by decide +kernel
theorem dX0_sinkVehicles_42 : decode cX0_sinkVehicles 42 = .ok (.iload_n 1, 1) := by decide +kernel
theorem dX0_sinkVehicles_43 : decode cX0_sinkVehicles 43 = .ok (.if_icmp .ne 18, 3) := by decide +kernel
theorem dX0_sinkVehicles_46 : decode cX0_sinkVehicles 46 = .ok (.aload_n 0, 1) := by decide +kernel
theorem dX0_sinkVehicles_47 : decode cX0_sinkVehicles 47 = .ok (.iload_n 3, 1) := by decide +kernel
theorem dX0_sinkVehicles_48 : decode cX0_sinkVehicles 48 = .ok (.invokevirtual 138, 3) := by decide +kernel
theorem dX0_sinkVehicles_51 : decode cX0_sinkVehicles 51 = .ok (.aload_n 0, 1) := by decide +kernel
theorem dX0_sinkVehicles_52 : decode cX0_sinkVehicles 52 = .ok (.dup, 1) := by decide +kernel
theorem dX0_sinkVehicles_53 : decode cX0_sinkVehicles 53 = .ok (.getfield 61, 3) := by decide +kernel
theorem dX0_sinkVehicles_56 : decode cX0_sinkVehicles 56 = .ok (.iconst 1, 1) := by decide +kernel
theorem dX0_sinkVehicles_57 : decode cX0_sinkVehicles 57 = .ok (.iadd, 1) := by decide +kernel
theorem dX0_sinkVehicles_58 : decode cX0_sinkVehicles 58 = .ok (.putfield 61, 3) := by decide +kernel
theorem dX0_sinkVehicles_61 : decode cX0_sinkVehicles 61 = .ok (.iinc 3 (-1), 3) := by decide +kernel
theorem dX0_sinkVehicles_64 : decode cX0_sinkVehicles 64 = .ok (.goto (-41), 3) := by decide +kernel
theorem dX0_sinkVehicles_67 : decode cX0_sinkVehicles 67 = .ok (.iinc 1 1, 3) := by decide +kernel
theorem dX0_sinkVehicles_70 : decode cX0_sinkVehicles 70 = .ok (.goto (-68), 3) := by decide +kernel
theorem dX0_sinkVehicles_73 : decode cX0_sinkVehicles 73 = .ok (.return_, 1) := by decide +kernel
theorem dX1_init_0 : decode cX1_init 0 = .ok (.aload_n 0, 1) := by decide +kernel
theorem dX1_init_1 : decode cX1_init 1 = .ok (.invokespecial 3, 3) := by decide +kernel
theorem dX1_init_4 : decode cX1_init 4 = .ok (.aload_n 0, 1) := by decide +kernel
theorem dX1_init_5 : decode cX1_init 5 = .ok (.bipush 8, 2) := by decide +kernel
theorem dX1_init_7 : decode cX1_init 7 = .ok (.anewarray 9, 3) := by decide +kernel
theorem dX1_init_10 : decode cX1_init 10 = .ok (.putfield 11, 3) := by decide +kernel
theorem dX1_init_13 : decode cX1_init 13 = .ok (.aload_n 0, 1) := by decide +kernel
theorem dX1_init_14 : decode cX1_init 14 = .ok (.iconst 0, 1) := by decide +kernel
theorem dX1_init_15 : decode cX1_init 15 = .ok (.putfield 17, 3) := by decide +kernel
theorem dX1_init_18 : decode cX1_init 18 = .ok (.aload_n 0, 1) := by decide +kernel
theorem dX1_init_19 : decode cX1_init 19 = .ok (.iconst 0, 1) := by decide +kernel
theorem dX1_init_20 : decode cX1_init 20 = .ok (.putfield 21, 3) := by decide +kernel
theorem dX1_init_23 : decode cX1_init 23 = .ok (.iconst 0, 1) := by decide +kernel
theorem dX1_init_24 : decode cX1_init 24 = .ok (.istore_n 1, 1) := by decide +kernel
theorem dX1_init_25 : decode cX1_init 25 = .ok (.iload_n 1, 1) := by decide +kernel
theorem dX1_init_26 : decode cX1_init 26 = .ok (.bipush 8, 2) := by decide +kernel
theorem dX1_init_28 : decode cX1_init 28 = .ok (.if_icmp .ge 22, 3) := by decide +kernel
theorem dX1_init_31 : decode cX1_init 31 = .ok (.aload_n 0, 1) := by decide +kernel
theorem dX1_init_32 : decode cX1_init 32 = .ok (.getfield 11, 3) := by decide +kernel
theorem dX1_init_35 : decode cX1_init 35 = .ok (.iload_n 1, 1) := by decide +kernel
theorem dX1_init_36 : decode cX1_init 36 = .ok (.new 9, 3) := by decide +kernel
theorem dX1_init_39 : decode cX1_init 39 = .ok (.dup, 1) := by decide +kernel
theorem dX1_init_40 : decode cX1_init 40 = .ok (.invokespecial 24, 3) := by decide +kernel
theorem dX1_init_43 : decode cX1_init 43 = .ok (.aastore, 1) := by decide +kernel
theorem dX1_init_44 : decode cX1_init 44 = .ok (.iinc 1 1, 3) := by decide +kernel
theorem dX1_init_47 : decode cX1_init 47 = .ok (.goto (-22), 3) := by decide +kernel
theorem dX1_init_50 : decode cX1_init 50 = .ok (.return_, 1) := by decide +kernel
theorem dX1_keep_0 : decode cX1_keep 0 = .ok (.aload_n 0, 1) := by decide +kernel
theorem dX1_keep_1 : decode cX1_keep 1 = .ok (.aload_n 0, 1) := by decide +kernel
theorem dX1_keep_2 : decode cX1_keep 2 = .ok (.getfield 17, 3) := by decide +kernel
theorem dX1_keep_5 : decode cX1_keep 5 = .ok (.iconst 1, 1) := by decide +kernel
theorem dX1_keep_6 : decode cX1_keep 6 = .ok (.iadd, 1) := by decide +kernel
theorem dX1_keep_7 : decode cX1_keep 7 = .ok (.bipush 8, 2) := by decide +kernel
theorem dX1_keep_9 : decode cX1_keep 9 = .ok (.irem, 1) := by decide +kernel
theorem dX1_keep_10 : decode cX1_keep 10 = .ok (.putfield 17, 3) := by decide +kernel
theorem dX1_keep_13 : decode cX1_keep 13 = .ok (.aload_n 0, 1) := by decide +kernel
theorem dX1_keep_14 : decode cX1_keep 14 = .ok (.getfield 11, 3) := by decide +kernel
theorem dX1_keep_17 : decode cX1_keep 17 = .ok (.aload_n 0, 1) := by decide +kernel
theorem dX1_keep_18 : decode cX1_keep 18 = .ok (.getfield 17, 3) := by decide +kernel
theorem dX1_keep_21 : decode cX1_keep 21 = .ok (.aaload, 1) := by decide +kernel
theorem dX1_keep_22 : decode cX1_keep 22 = .ok (.aload_n 1, 1) := by decide +kernel
theorem dX1_keep_23 : decode cX1_keep 23 = .ok (.invokevirtual 25, 3) := by decide +kernel
theorem dX1_keep_26 : decode cX1_keep 26 = .ok (.aload_n 0, 1) := by decide +kernel
theorem dX1_keep_27 : decode cX1_keep 27 = .ok (.aload_n 0, 1) := by decide +kernel
theorem dX1_keep_28 : decode cX1_keep 28 = .ok (.getfield 21, 3) := by decide +kernel
theorem dX1_keep_31 : decode cX1_keep 31 = .ok (.iconst 1, 1) := by decide +kernel
theorem dX1_keep_32 : decode cX1_keep 32 = .ok (.iadd, 1) := by decide +kernel
theorem dX1_keep_33 : decode cX1_keep 33 = .ok (.bipush 8, 2) := by decide +kernel
theorem dX1_keep_35 : decode cX1_keep 35 = .ok (.invokestatic 29, 3) := by decide +kernel
theorem dX1_keep_38 : decode cX1_keep 38 = .ok (.putfield 21, 3) := by decide +kernel
theorem dX1_keep_41 : decode cX1_keep 41 = .ok (.return_, 1) := by decide +kernel
theorem dX1_giveBack_0 : decode cX1_giveBack 0 = .ok (.aload_n 0, 1) := by decide +kernel
theorem dX1_giveBack_1 : decode cX1_giveBack 1 = .ok (.getfield 21, 3) := by decide +kernel
theorem dX1_giveBack_4 : decode cX1_giveBack 4 = .ok (.ifCond .le 42, 3) := by decide +kernel
theorem dX1_giveBack_7 : decode cX1_giveBack 7 = .ok (.aload_n 1, 1) := by decide +kernel
theorem dX1_giveBack_8 : decode cX1_giveBack 8 = .ok (.aload_n 0, 1) := by decide +kernel
theorem dX1_giveBack_9 : decode cX1_giveBack 9 = .ok (.getfield 11, 3) := by decide +kernel
theorem dX1_giveBack_12 : decode cX1_giveBack 12 = .ok (.aload_n 0, 1) := by decide +kernel
theorem dX1_giveBack_13 : decode cX1_giveBack 13 = .ok (.getfield 17, 3) := by decide +kernel
theorem dX1_giveBack_16 : decode cX1_giveBack 16 = .ok (.aaload, 1) := by decide +kernel
theorem dX1_giveBack_17 : decode cX1_giveBack 17 = .ok (.invokevirtual 25, 3) := by decide +kernel
theorem dX1_giveBack_20 : decode cX1_giveBack 20 = .ok (.aload_n 0, 1) := by decide +kernel
theorem dX1_giveBack_21 : decode cX1_giveBack 21 = .ok (.aload_n 0, 1) := by decide +kernel
theorem dX1_giveBack_22 : decode cX1_giveBack 22 = .ok (.getfield 17, 3) := by decide +kernel
theorem dX1_giveBack_25 : decode cX1_giveBack 25 = .ok (.bipush 8, 2) := by decide +kernel
theorem dX1_giveBack_27 : decode cX1_giveBack 27 = .ok (.iadd, 1) := by decide +kernel
theorem dX1_giveBack_28 : decode cX1_giveBack 28 = .ok (.iconst 1, 1) := by decide +kernel
theorem dX1_giveBack_29 : decode cX1_giveBack 29 = .ok (.isub, 1) := by decide +kernel
theorem dX1_giveBack_30 : decode cX1_giveBack 30 = .ok (.bipush 8, 2) := by decide +kernel
theorem dX1_giveBack_32 : decode cX1_giveBack 32 = .ok (.irem, 1) := by decide +kernel
theorem dX1_giveBack_33 : decode cX1_giveBack 33 = .ok (.putfield 17, 3) := by decide +kernel
theorem dX1_giveBack_36 : decode cX1_giveBack 36 = .ok (.aload_n 0, 1) := by decide +kernel
theorem dX1_giveBack_37 : decode cX1_giveBack 37 = .ok (.dup, 1) := by decide +kernel
theorem dX1_giveBack_38 : decode cX1_giveBack 38 = .ok (.getfield 21, 3) := by decide +kernel
theorem dX1_giveBack_41 : decode cX1_giveBack 41 = .ok (.iconst 1, 1) := by decide +kernel
theorem dX1_giveBack_42 : decode cX1_giveBack 42 = .ok (.isub, 1) := by decide +kernel
theorem dX1_giveBack_43 : decode cX1_giveBack 43 = .ok (.putfield 21, 3) := by decide +kernel
theorem dX1_giveBack_46 : decode cX1_giveBack 46 = .ok (.return_, 1) := by decide +kernel
theorem dX2_init_0 : decode cX2_init 0 = .ok (.aload_n 0, 1) := by decide +kernel
theorem dX2_init_1 : decode cX2_init 1 = .ok (.invokespecial 3, 3) := by decide +kernel
theorem dX2_init_4 : decode cX2_init 4 = .ok (.aload_n 0, 1) := by decide +kernel
theorem dX2_init_5 : decode cX2_init 5 = .ok (.iconst 0, 1) := by decide +kernel
theorem dX2_init_6 : decode cX2_init 6 = .ok (.putfield 9, 3) := by decide +kernel
theorem dX2_init_9 : decode cX2_init 9 = .ok (.aload_n 0, 1) := by decide +kernel
theorem dX2_init_10 : decode cX2_init 10 = .ok (.iconst 0, 1) := by decide +kernel
theorem dX2_init_11 : decode cX2_init 11 = .ok (.putfield 15, 3) := by decide +kernel
theorem dX2_init_14 : decode cX2_init 14 = .ok (.return_, 1) := by decide +kernel
theorem dX2_allows_0 : decode cX2_allows 0 = .ok (.aload_n 0, 1) := by decide +kernel
theorem dX2_allows_1 : decode cX2_allows 1 = .ok (.iconst 0, 1) := by decide +kernel
theorem dX2_allows_2 : decode cX2_allows 2 = .ok (.putfield 9, 3) := by decide +kernel
theorem dX2_allows_5 : decode cX2_allows 5 = .ok (.aload_n 0, 1) := by decide +kernel
theorem dX2_allows_6 : decode cX2_allows 6 = .ok (.iconst 0, 1) := by decide +kernel
theorem dX2_allows_7 : decode cX2_allows 7 = .ok (.putfield 15, 3) := by decide +kernel
theorem dX2_allows_10 : decode cX2_allows 10 = .ok (.iload_n 2, 1) := by decide +kernel
theorem dX2_allows_11 : decode cX2_allows 11 = .ok (.tableswitch 94 0 5 #[37, 46, 57, 66, 77, 86], 37) := by decide +kernel
theorem dX2_allows_48 : decode cX2_allows 48 = .ok (.aload_n 0, 1) := by decide +kernel
theorem dX2_allows_49 : decode cX2_allows 49 = .ok (.aload_n 1, 1) := by decide +kernel
theorem dX2_allows_50 : decode cX2_allows 50 = .ok (.iload_n 3, 1) := by decide +kernel
theorem dX2_allows_51 : decode cX2_allows 51 = .ok (.invokevirtual 18, 3) := by decide +kernel
theorem dX2_allows_54 : decode cX2_allows 54 = .ok (.goto 56, 3) := by decide +kernel
theorem dX2_allows_57 : decode cX2_allows 57 = .ok (.aload_n 0, 1) := by decide +kernel
theorem dX2_allows_58 : decode cX2_allows 58 = .ok (.aload_n 1, 1) := by decide +kernel
theorem dX2_allows_59 : decode cX2_allows 59 = .ok (.iload_n 3, 1) := by decide +kernel
theorem dX2_allows_60 : decode cX2_allows 60 = .ok (.iload 4, 2) := by decide +kernel
theorem dX2_allows_62 : decode cX2_allows 62 = .ok (.invokevirtual 22, 3) := by decide +kernel
theorem dX2_allows_65 : decode cX2_allows 65 = .ok (.goto 45, 3) := by decide +kernel
theorem dX2_allows_68 : decode cX2_allows 68 = .ok (.aload_n 0, 1) := by decide +kernel
theorem dX2_allows_69 : decode cX2_allows 69 = .ok (.aload_n 1, 1) := by decide +kernel
theorem dX2_allows_70 : decode cX2_allows 70 = .ok (.iload_n 3, 1) := by decide +kernel
theorem dX2_allows_71 : decode cX2_allows 71 = .ok (.invokevirtual 26, 3) := by decide +kernel
theorem dX2_allows_74 : decode cX2_allows 74 = .ok (.goto 36, 3) := by decide +kernel
theorem dX2_allows_77 : decode cX2_allows 77 = .ok (.aload_n 0, 1) := by decide +kernel
theorem dX2_allows_78 : decode cX2_allows 78 = .ok (.aload_n 1, 1) := by decide +kernel
theorem dX2_allows_79 : decode cX2_allows 79 = .ok (.iload_n 3, 1) := by decide +kernel
theorem dX2_allows_80 : decode cX2_allows 80 = .ok (.iload 4, 2) := by decide +kernel
theorem dX2_allows_82 : decode cX2_allows 82 = .ok (.invokevirtual 29, 3) := by decide +kernel
theorem dX2_allows_85 : decode cX2_allows 85 = .ok (.goto 25, 3) := by decide +kernel
theorem dX2_allows_88 : decode cX2_allows 88 = .ok (.aload_n 0, 1) := by decide +kernel
theorem dX2_allows_89 : decode cX2_allows 89 = .ok (.aload_n 1, 1) := by decide +kernel
theorem dX2_allows_90 : decode cX2_allows 90 = .ok (.iload_n 3, 1) := by decide +kernel
theorem dX2_allows_91 : decode cX2_allows 91 = .ok (.invokevirtual 32, 3) := by decide +kernel
theorem dX2_allows_94 : decode cX2_allows 94 = .ok (.goto 16, 3) := by decide +kernel
theorem dX2_allows_97 : decode cX2_allows 97 = .ok (.aload_n 0, 1) := by decide +kernel
theorem dX2_allows_98 : decode cX2_allows 98 = .ok (.iload_n 3, 1) := by decide +kernel
theorem dX2_allows_99 : decode cX2_allows 99 = .ok (.invokevirtual 35, 3) := by decide +kernel
theorem dX2_allows_102 : decode cX2_allows 102 = .ok (.goto 8, 3) := by decide +kernel
theorem dX2_allows_105 : decode cX2_allows 105 = .ok (.aload_n 0, 1) := by decide +kernel
theorem dX2_allows_106 : decode cX2_allows 106 = .ok (.aload_n 1, 1) := by decide +kernel
theorem dX2_allows_107 : decode cX2_allows 107 = .ok (.invokevirtual 39, 3) := by decide +kernel
theorem dX2_allows_110 : decode cX2_allows 110 = .ok (.aload_n 0, 1) := by decide +kernel
theorem dX2_allows_111 : decode cX2_allows 111 = .ok (.getfield 9, 3) := by decide +kernel
theorem dX2_allows_114 : decode cX2_allows 114 = .ok (.ifCond .ne 7, 3) := by decide +kernel
theorem dX2_allows_117 : decode cX2_allows 117 = .ok (.iconst 1, 1) := by decide +kernel
theorem dX2_allows_118 : decode cX2_allows 118 = .ok (.goto 4, 3) := by decide +kernel
theorem dX2_allows_121 : decode cX2_allows 121 = .ok (.iconst 0, 1) := by decide +kernel
theorem dX2_allows_122 : decode cX2_allows 122 = .ok (.ireturn, 1) := by decide +kernel
theorem dX2_because_0 : decode cX2_because 0 = .ok (.aload_n 0, 1) := by decide +kernel
theorem dX2_because_1 : decode cX2_because 1 = .ok (.iload_n 1, 1) := by decide +kernel
theorem dX2_because_2 : decode cX2_because 2 = .ok (.putfield 9, 3) := by decide +kernel
theorem dX2_because_5 : decode cX2_because 5 = .ok (.aload_n 0, 1) := by decide +kernel
theorem dX2_because_6 : decode cX2_because 6 = .ok (.iload_n 2, 1) := by decide +kernel
theorem dX2_because_7 : decode cX2_because 7 = .ok (.putfield 15, 3) := by decide +kernel
theorem dX2_because_10 : decode cX2_because 10 = .ok (.return_, 1) := by decide +kernel
theorem dX2_judgeNewSpan_0 : decode cX2_judgeNewSpan 0 = .ok (.iload_n 2, 1) := by decide +kernel
theorem dX2_judgeNewSpan_1 : decode cX2_judgeNewSpan 1 = .ok (.iconst 1, 1) := by decide +kernel
theorem dX2_judgeNewSpan_2 : decode cX2_judgeNewSpan 2 = .ok (.if_icmp .lt 9, 3) := by decide +kernel
theorem dX2_judgeNewSpan_5 : decode cX2_judgeNewSpan 5 = .ok (.iload_n 2, 1) := by decide +kernel
theorem dX2_judgeNewSpan_6 : decode cX2_judgeNewSpan 6 = .ok (.bipush 20, 2) := by decide +kernel
theorem dX2_judgeNewSpan_8 : decode cX2_judgeNewSpan 8 = .ok (.if_icmp .le 13, 3) := by decide +kernel
theorem dX2_judgeNewSpan_11 : decode cX2_judgeNewSpan 11 = .ok (.aload_n 0, 1) := by decide +kernel
theorem dX2_judgeNewSpan_12 : decode cX2_judgeNewSpan 12 = .ok (.bipush 9, 2) := by decide +kernel
theorem dX2_judgeNewSpan_14 : decode cX2_judgeNewSpan 14 = .ok (.iconst 0, 1) := by decide +kernel
theorem dX2_judgeNewSpan_15 : decode cX2_judgeNewSpan 15 = .ok (.invokevirtual 43, 3) := by decide +kernel
theorem dX2_judgeNewSpan_18 : decode cX2_judgeNewSpan 18 = .ok (.goto 38, 3) := by decide +kernel
theorem dX2_judgeNewSpan_21 : decode cX2_judgeNewSpan 21 = .ok (.aload_n 1, 1) := by decide +kernel
theorem dX2_judgeNewSpan_22 : decode cX2_judgeNewSpan 22 = .ok (.getfield 47, 3) := by decide +kernel
theorem dX2_judgeNewSpan_25 : decode cX2_judgeNewSpan 25 = .ok (.ifCond .le 15, 3) := by decide +kernel
theorem dX2_judgeNewSpan_28 : decode cX2_judgeNewSpan 28 = .ok (.aload_n 0, 1) := by decide +kernel
theorem dX2_judgeNewSpan_29 : decode cX2_judgeNewSpan 29 = .ok (.iconst 4, 1) := by decide +kernel
theorem dX2_judgeNewSpan_30 : decode cX2_judgeNewSpan 30 = .ok (.aload_n 1, 1) := by decide +kernel
theorem dX2_judgeNewSpan_31 : decode cX2_judgeNewSpan 31 = .ok (.getfield 47, 3) := by decide +kernel
theorem dX2_judgeNewSpan_34 : decode cX2_judgeNewSpan 34 = .ok (.invokevirtual 43, 3) := by decide +kernel
theorem dX2_judgeNewSpan_37 : decode cX2_judgeNewSpan 37 = .ok (.goto 19, 3) := by decide +kernel
theorem dX2_judgeNewSpan_40 : decode cX2_judgeNewSpan 40 = .ok (.aload_n 1, 1) := by decide +kernel
theorem dX2_judgeNewSpan_41 : decode cX2_judgeNewSpan 41 = .ok (.getfield 52, 3) := by decide +kernel
theorem dX2_judgeNewSpan_44 : decode cX2_judgeNewSpan 44 = .ok (.bipush 10, 2) := by decide +kernel
theorem dX2_judgeNewSpan_46 : decode cX2_judgeNewSpan 46 = .ok (.if_icmp .lt 10, 3) := by decide +kernel
theorem dX2_judgeNewSpan_49 : decode cX2_judgeNewSpan 49 = .ok (.aload_n 0, 1) := by decide +kernel
theorem dX2_judgeNewSpan_50 : decode cX2_judgeNewSpan 50 = .ok (.iconst 1, 1) := by decide +kernel
theorem dX2_judgeNewSpan_51 : decode cX2_judgeNewSpan 51 = .ok (.bipush 10, 2) := by decide +kernel
theorem dX2_judgeNewSpan_53 : decode cX2_judgeNewSpan 53 = .ok (.invokevirtual 43, 3) := by decide +kernel
theorem dX2_judgeNewSpan_56 : decode cX2_judgeNewSpan 56 = .ok (.return_, 1) := by decide +kernel
theorem dX2_judgeRemoval_0 : decode cX2_judgeRemoval 0 = .ok (.aload_n 1, 1) := by decide +kernel
theorem dX2_judgeRemoval_1 : decode cX2_judgeRemoval 1 = .ok (.getfield 52, 3) := by decide +kernel
theorem dX2_judgeRemoval_4 : decode cX2_judgeRemoval 4 = .ok (.ifCond .ne 15, 3) := by decide +kernel
theorem dX2_judgeRemoval_7 : decode cX2_judgeRemoval 7 = .ok (.aload_n 0, 1) := by decide +kernel
theorem dX2_judgeRemoval_8 : decode cX2_judgeRemoval 8 = .ok (.iconst 3, 1) := by decide +kernel
theorem dX2_judgeRemoval_9 : decode cX2_judgeRemoval 9 = .ok (.aload_n 1, 1) := by decide +kernel
theorem dX2_judgeRemoval_10 : decode cX2_judgeRemoval 10 = .ok (.getfield 55, 3) := by decide +kernel
theorem dX2_judgeRemoval_13 : decode cX2_judgeRemoval 13 = .ok (.invokevirtual 43, 3) := by decide +kernel
theorem dX2_judgeRemoval_16 : decode cX2_judgeRemoval 16 = .ok (.goto 19, 3) := by decide +kernel
theorem dX2_judgeRemoval_19 : decode cX2_judgeRemoval 19 = .ok (.aload_n 1, 1) := by decide +kernel
theorem dX2_judgeRemoval_20 : decode cX2_judgeRemoval 20 = .ok (.getfield 47, 3) := by decide +kernel
theorem dX2_judgeRemoval_23 : decode cX2_judgeRemoval 23 = .ok (.ifCond .le 12, 3) := by decide +kernel
theorem dX2_judgeRemoval_26 : decode cX2_judgeRemoval 26 = .ok (.aload_n 0, 1) := by decide +kernel
theorem dX2_judgeRemoval_27 : decode cX2_judgeRemoval 27 = .ok (.iconst 4, 1) := by decide +kernel
theorem dX2_judgeRemoval_28 : decode cX2_judgeRemoval 28 = .ok (.aload_n 1, 1) := by decide +kernel
theorem dX2_judgeRemoval_29 : decode cX2_judgeRemoval 29 = .ok (.getfield 47, 3) := by decide +kernel
theorem dX2_judgeRemoval_32 : decode cX2_judgeRemoval 32 = .ok (.invokevirtual 43, 3) := by decide +kernel
theorem dX2_judgeRemoval_35 : decode cX2_judgeRemoval 35 = .ok (.return_, 1) := by decide +kernel
theorem dX2_judgeJars_0 : decode cX2_judgeJars 0 = .ok (.aload_n 1, 1) := by decide +kernel
theorem dX2_judgeJars_1 : decode cX2_judgeJars 1 = .ok (.iload_n 2, 1) := by decide +kernel
theorem dX2_judgeJars_2 : decode cX2_judgeJars 2 = .ok (.invokevirtual 58, 3) := by decide +kernel
theorem dX2_judgeJars_5 : decode cX2_judgeJars 5 = .ok (.ifCond .ne 13, 3) := by decide +kernel
theorem dX2_judgeJars_8 : decode cX2_judgeJars 8 = .ok (.aload_n 0, 1) := by decide +kernel
theorem dX2_judgeJars_9 : decode cX2_judgeJars 9 = .ok (.bipush 10, 2) := by decide +kernel
theorem dX2_judgeJars_11 : decode cX2_judgeJars 11 = .ok (.iconst 0, 1) := by decide +kernel
theorem dX2_judgeJars_12 : decode cX2_judgeJars 12 = .ok (.invokevirtual 43, 3) := by decide +kernel
theorem dX2_judgeJars_15 : decode cX2_judgeJars 15 = .ok (.goto 63, 3) := by decide +kernel
theorem dX2_judgeJars_18 : decode cX2_judgeJars 18 = .ok (.iload_n 3, 1) := by decide +kernel
theorem dX2_judgeJars_19 : decode cX2_judgeJars 19 = .ok (.iconst 1, 1) := by decide +kernel
theorem dX2_judgeJars_20 : decode cX2_judgeJars 20 = .ok (.if_icmp .lt 9, 3) := by decide +kernel
theorem dX2_judgeJars_23 : decode cX2_judgeJars 23 = .ok (.iload_n 3, 1) := by decide +kernel
theorem dX2_judgeJars_24 : decode cX2_judgeJars 24 = .ok (.bipush 50, 2) := by decide +kernel
theorem dX2_judgeJars_26 : decode cX2_judgeJars 26 = .ok (.if_icmp .le 13, 3) := by decide +kernel
theorem dX2_judgeJars_29 : decode cX2_judgeJars 29 = .ok (.aload_n 0, 1) := by decide +kernel
theorem dX2_judgeJars_30 : decode cX2_judgeJars 30 = .ok (.bipush 9, 2) := by decide +kernel
theorem dX2_judgeJars_32 : decode cX2_judgeJars 32 = .ok (.iconst 0, 1) := by decide +kernel
theorem dX2_judgeJars_33 : decode cX2_judgeJars 33 = .ok (.invokevirtual 43, 3) := by decide +kernel
theorem dX2_judgeJars_36 : decode cX2_judgeJars 36 = .ok (.goto 42, 3) := by decide +kernel
theorem dX2_judgeJars_39 : decode cX2_judgeJars 39 = .ok (.aload_n 1, 1) := by decide +kernel
theorem dX2_judgeJars_40 : decode cX2_judgeJars 40 = .ok (.getfield 47, 3) := by decide +kernel
theorem dX2_judgeJars_43 : decode cX2_judgeJars 43 = .ok (.ifCond .le 15, 3) := by decide +kernel
theorem dX2_judgeJars_46 : decode cX2_judgeJars 46 = .ok (.aload_n 0, 1) := by decide +kernel
theorem dX2_judgeJars_47 : decode cX2_judgeJars 47 = .ok (.iconst 4, 1) := by decide +kernel
theorem dX2_judgeJars_48 : decode cX2_judgeJars 48 = .ok (.aload_n 1, 1) := by decide +kernel
theorem dX2_judgeJars_49 : decode cX2_judgeJars 49 = .ok (.getfield 47, 3) := by decide +kernel
theorem dX2_judgeJars_52 : decode cX2_judgeJars 52 = .ok (.invokevirtual 43, 3) := by decide +kernel
theorem dX2_judgeJars_55 : decode cX2_judgeJars 55 = .ok (.goto 23, 3) := by decide +kernel
theorem dX2_judgeJars_58 : decode cX2_judgeJars 58 = .ok (.aload_n 1, 1) := by decide +kernel
theorem dX2_judgeJars_59 : decode cX2_judgeJars 59 = .ok (.getfield 62, 3) := by decide +kernel
theorem dX2_judgeJars_62 : decode cX2_judgeJars 62 = .ok (.iload_n 2, 1) := by decide +kernel
theorem dX2_judgeJars_63 : decode cX2_judgeJars 63 = .ok (.iaload, 1) := by decide +kernel
theorem dX2_judgeJars_64 : decode cX2_judgeJars 64 = .ok (.iload_n 3, 1) := by decide +kernel
theorem dX2_judgeJars_65 : decode cX2_judgeJars 65 = .ok (.iadd, 1) := by decide +kernel
theorem dX2_judgeJars_66 : decode cX2_judgeJars 66 = .ok (.bipush 50, 2) := by decide +kernel
theorem dX2_judgeJars_68 : decode cX2_judgeJars 68 = .ok (.if_icmp .le 10, 3) := by decide +kernel
theorem dX2_judgeJars_71 : decode cX2_judgeJars 71 = .ok (.aload_n 0, 1) := by decide +kernel
theorem dX2_judgeJars_72 : decode cX2_judgeJars 72 = .ok (.iconst 1, 1) := by decide +kernel
theorem dX2_judgeJars_73 : decode cX2_judgeJars 73 = .ok (.bipush 50, 2) := by decide +kernel
theorem dX2_judgeJars_75 : decode cX2_judgeJars 75 = .ok (.invokevirtual 43, 3) := by decide +kernel
theorem dX2_judgeJars_78 : decode cX2_judgeJars 78 = .ok (.return_, 1) := by decide +kernel
theorem dX2_judgeRepair_0 : decode cX2_judgeRepair 0 = .ok (.aload_n 1, 1) := by decide +kernel
theorem dX2_judgeRepair_1 : decode cX2_judgeRepair 1 = .ok (.iload_n 2, 1) := by decide +kernel
theorem dX2_judgeRepair_2 : decode cX2_judgeRepair 2 = .ok (.invokevirtual 58, 3) := by decide +kernel
theorem dX2_judgeRepair_5 : decode cX2_judgeRepair 5 = .ok (.ifCond .ne 13, 3) := by decide +kernel
theorem dX2_judgeRepair_8 : decode cX2_judgeRepair 8 = .ok (.aload_n 0, 1) := by decide +kernel
theorem dX2_judgeRepair_9 : decode cX2_judgeRepair 9 = .ok (.bipush 10, 2) := by decide +kernel
theorem dX2_judgeRepair_11 : decode cX2_judgeRepair 11 = .ok (.iconst 0, 1) := by decide +kernel
theorem dX2_judgeRepair_12 : decode cX2_judgeRepair 12 = .ok (.invokevirtual 43, 3) := by decide +kernel
theorem dX2_judgeRepair_15 : decode cX2_judgeRepair 15 = .ok (.goto 68, 3) := by decide +kernel
theorem dX2_judgeRepair_18 : decode cX2_judgeRepair 18 = .ok (.iload_n 3, 1) := by decide +kernel
theorem dX2_judgeRepair_19 : decode cX2_judgeRepair 19 = .ok (.iconst 1, 1) := by decide +kernel
theorem dX2_judgeRepair_20 : decode cX2_judgeRepair 20 = .ok (.if_icmp .lt 9, 3) := by decide +kernel
theorem dX2_judgeRepair_23 : decode cX2_judgeRepair 23 = .ok (.iload_n 3, 1) := by decide +kernel
theorem dX2_judgeRepair_24 : decode cX2_judgeRepair 24 = .ok (.bipush 9, 2) := by decide +kernel
theorem dX2_judgeRepair_26 : decode cX2_judgeRepair 26 = .ok (.if_icmp .le 13, 3) := by decide +kernel
theorem dX2_judgeRepair_29 : decode cX2_judgeRepair 29 = .ok (.aload_n 0, 1) := by decide +kernel
theorem dX2_judgeRepair_30 : decode cX2_judgeRepair 30 = .ok (.bipush 9, 2) := by decide +kernel
theorem dX2_judgeRepair_32 : decode cX2_judgeRepair 32 = .ok (.iconst 0, 1) := by decide +kernel
theorem dX2_judgeRepair_33 : decode cX2_judgeRepair 33 = .ok (.invokevirtual 43, 3) := by decide +kernel
theorem dX2_judgeRepair_36 : decode cX2_judgeRepair 36 = .ok (.goto 47, 3) := by decide +kernel
theorem dX2_judgeRepair_39 : decode cX2_judgeRepair 39 = .ok (.aload_n 1, 1) := by decide +kernel
theorem dX2_judgeRepair_40 : decode cX2_judgeRepair 40 = .ok (.getfield 66, 3) := by decide +kernel
theorem dX2_judgeRepair_43 : decode cX2_judgeRepair 43 = .ok (.iload_n 2, 1) := by decide +kernel
theorem dX2_judgeRepair_44 : decode cX2_judgeRepair 44 = .ok (.iaload, 1) := by decide +kernel
theorem dX2_judgeRepair_45 : decode cX2_judgeRepair 45 = .ok (.iload_n 3, 1) := by decide +kernel
theorem dX2_judgeRepair_46 : decode cX2_judgeRepair 46 = .ok (.if_icmp .ge 18, 3) := by decide +kernel
theorem dX2_judgeRepair_49 : decode cX2_judgeRepair 49 = .ok (.aload_n 0, 1) := by decide +kernel
theorem dX2_judgeRepair_50 : decode cX2_judgeRepair 50 = .ok (.bipush 6, 2) := by decide +kernel
theorem dX2_judgeRepair_52 : decode cX2_judgeRepair 52 = .ok (.aload_n 1, 1) := by decide +kernel
theorem dX2_judgeRepair_53 : decode cX2_judgeRepair 53 = .ok (.getfield 66, 3) := by decide +kernel
theorem dX2_judgeRepair_56 : decode cX2_judgeRepair 56 = .ok (.iload_n 2, 1) := by decide +kernel
theorem dX2_judgeRepair_57 : decode cX2_judgeRepair 57 = .ok (.iaload, 1) := by decide +kernel
theorem dX2_judgeRepair_58 : decode cX2_judgeRepair 58 = .ok (.invokevirtual 43, 3) := by decide +kernel
theorem dX2_judgeRepair_61 : decode cX2_judgeRepair 61 = .ok (.goto 22, 3) := by decide +kernel
theorem dX2_judgeRepair_64 : decode cX2_judgeRepair 64 = .ok (.aload_n 1, 1) := by decide +kernel
theorem dX2_judgeRepair_65 : decode cX2_judgeRepair 65 = .ok (.getfield 69, 3) := by decide +kernel
theorem dX2_judgeRepair_68 : decode cX2_judgeRepair 68 = .ok (.iload_n 3, 1) := by decide +kernel
theorem dX2_judgeRepair_69 : decode cX2_judgeRepair 69 = .ok (.iconst 5, 1) := by decide +kernel
theorem dX2_judgeRepair_70 : decode cX2_judgeRepair 70 = .ok (.imul, 1) := by decide +kernel
theorem dX2_judgeRepair_71 : decode cX2_judgeRepair 71 = .ok (.if_icmp .ge 12, 3) := by decide +kernel
theorem dX2_judgeRepair_74 : decode cX2_judgeRepair 74 = .ok (.aload_n 0, 1) := by decide +kernel
theorem dX2_judgeRepair_75 : decode cX2_judgeRepair 75 = .ok (.iconst 5, 1) := by decide +kernel
theorem dX2_judgeRepair_76 : decode cX2_judgeRepair 76 = .ok (.aload_n 1, 1) := by decide +kernel
theorem dX2_judgeRepair_77 : decode cX2_judgeRepair 77 = .ok (.getfield 69, 3) := by decide +kernel
theorem dX2_judgeRepair_80 : decode cX2_judgeRepair 80 = .ok (.invokevirtual 43, 3) := by decide +kernel
theorem dX2_judgeRepair_83 : decode cX2_judgeRepair 83 = .ok (.return_, 1) := by decide +kernel
theorem dX2_judgeVehicle_0 : decode cX2_judgeVehicle 0 = .ok (.aload_n 1, 1) := by decide +kernel
theorem dX2_judgeVehicle_1 : decode cX2_judgeVehicle 1 = .ok (.iconst 0, 1) := by decide +kernel
theorem dX2_judgeVehicle_2 : decode cX2_judgeVehicle 2 = .ok (.invokevirtual 72, 3) := by decide +kernel
theorem dX2_judgeVehicle_5 : decode cX2_judgeVehicle 5 = .ok (.aload_n 1, 1) := by decide +kernel
theorem dX2_judgeVehicle_6 : decode cX2_judgeVehicle 6 = .ok (.iconst 0, 1) := by decide +kernel
theorem dX2_judgeVehicle_7 : decode cX2_judgeVehicle 7 = .ok (.invokevirtual 76, 3) := by decide +kernel
theorem dX2_judgeVehicle_10 : decode cX2_judgeVehicle 10 = .ok (.isub, 1) := by decide +kernel
theorem dX2_judgeVehicle_11 : decode cX2_judgeVehicle 11 = .ok (.istore_n 3, 1) := by decide +kernel
theorem dX2_judgeVehicle_12 : decode cX2_judgeVehicle 12 = .ok (.iload_n 2, 1) := by decide +kernel
theorem dX2_judgeVehicle_13 : decode cX2_judgeVehicle 13 = .ok (.iconst 1, 1) := by decide +kernel
theorem dX2_judgeVehicle_14 : decode cX2_judgeVehicle 14 = .ok (.if_icmp .lt 9, 3) := by decide +kernel
theorem dX2_judgeVehicle_17 : decode cX2_judgeVehicle 17 = .ok (.iload_n 2, 1) := by decide +kernel
theorem dX2_judgeVehicle_18 : decode cX2_judgeVehicle 18 = .ok (.bipush 99, 2) := by decide +kernel
theorem dX2_judgeVehicle_20 : decode cX2_judgeVehicle 20 = .ok (.if_icmp .le 13, 3) := by decide +kernel
theorem dX2_judgeVehicle_23 : decode cX2_judgeVehicle 23 = .ok (.aload_n 0, 1) := by decide +kernel
theorem dX2_judgeVehicle_24 : decode cX2_judgeVehicle 24 = .ok (.bipush 9, 2) := by decide +kernel
theorem dX2_judgeVehicle_26 : decode cX2_judgeVehicle 26 = .ok (.iconst 0, 1) := by decide +kernel
theorem dX2_judgeVehicle_27 : decode cX2_judgeVehicle 27 = .ok (.invokevirtual 43, 3) := by decide +kernel
theorem dX2_judgeVehicle_30 : decode cX2_judgeVehicle 30 = .ok (.goto 52, 3) := by decide +kernel
theorem dX2_judgeVehicle_33 : decode cX2_judgeVehicle 33 = .ok (.aload_n 1, 1) := by decide +kernel
theorem dX2_judgeVehicle_34 : decode cX2_judgeVehicle 34 = .ok (.getfield 52, 3) := by decide +kernel
theorem dX2_judgeVehicle_37 : decode cX2_judgeVehicle 37 = .ok (.ifCond .ne 15, 3) := by decide +kernel
theorem dX2_judgeVehicle_40 : decode cX2_judgeVehicle 40 = .ok (.aload_n 0, 1) := by decide +kernel
theorem dX2_judgeVehicle_41 : decode cX2_judgeVehicle 41 = .ok (.iconst 3, 1) := by decide +kernel
theorem dX2_judgeVehicle_42 : decode cX2_judgeVehicle 42 = .ok (.aload_n 1, 1) := by decide +kernel
theorem dX2_judgeVehicle_43 : decode cX2_judgeVehicle 43 = .ok (.getfield 55, 3) := by decide +kernel
theorem dX2_judgeVehicle_46 : decode cX2_judgeVehicle 46 = .ok (.invokevirtual 43, 3) := by decide +kernel
theorem dX2_judgeVehicle_49 : decode cX2_judgeVehicle 49 = .ok (.goto 33, 3) := by decide +kernel
theorem dX2_judgeVehicle_52 : decode cX2_judgeVehicle 52 = .ok (.aload_n 1, 1) := by decide +kernel
theorem dX2_judgeVehicle_53 : decode cX2_judgeVehicle 53 = .ok (.getfield 47, 3) := by decide +kernel
theorem dX2_judgeVehicle_56 : decode cX2_judgeVehicle 56 = .ok (.bipush 8, 2) := by decide +kernel
theorem dX2_judgeVehicle_58 : decode cX2_judgeVehicle 58 = .ok (.if_icmp .lt 13, 3) := by decide +kernel
theorem dX2_judgeVehicle_61 : decode cX2_judgeVehicle 61 = .ok (.aload_n 0, 1) := by decide +kernel
theorem dX2_judgeVehicle_62 : decode cX2_judgeVehicle 62 = .ok (.iconst 1, 1) := by decide +kernel
theorem dX2_judgeVehicle_63 : decode cX2_judgeVehicle 63 = .ok (.bipush 8, 2) := by decide +kernel
theorem dX2_judgeVehicle_65 : decode cX2_judgeVehicle 65 = .ok (.invokevirtual 43, 3) := by decide +kernel
theorem dX2_judgeVehicle_68 : decode cX2_judgeVehicle 68 = .ok (.goto 14, 3) := by decide +kernel
theorem dX2_judgeVehicle_71 : decode cX2_judgeVehicle 71 = .ok (.iload_n 2, 1) := by decide +kernel
theorem dX2_judgeVehicle_72 : decode cX2_judgeVehicle 72 = .ok (.iload_n 3, 1) := by decide +kernel
theorem dX2_judgeVehicle_73 : decode cX2_judgeVehicle 73 = .ok (.if_icmp .le 9, 3) := by decide +kernel
theorem dX2_judgeVehicle_76 : decode cX2_judgeVehicle 76 = .ok (.aload_n 0, 1) := by decide +kernel
theorem dX2_judgeVehicle_77 : decode cX2_judgeVehicle 77 = .ok (.iconst 2, 1) := by decide +kernel
theorem dX2_judgeVehicle_78 : decode cX2_judgeVehicle 78 = .ok (.iload_n 3, 1) := by decide +kernel
theorem dX2_judgeVehicle_79 : decode cX2_judgeVehicle 79 = .ok (.invokevirtual 43, 3) := by decide +kernel
theorem dX2_judgeVehicle_82 : decode cX2_judgeVehicle 82 = .ok (.return_, 1) := by decide +kernel
theorem dX2_judgeRate_0 : decode cX2_judgeRate 0 = .ok (.iload_n 2, 1) := by decide +kernel
theorem dX2_judgeRate_1 : decode cX2_judgeRate 1 = .ok (.ifCond .lt 9, 3) := by decide +kernel
theorem dX2_judgeRate_4 : decode cX2_judgeRate 4 = .ok (.iload_n 2, 1) := by decide +kernel
theorem dX2_judgeRate_5 : decode cX2_judgeRate 5 = .ok (.bipush 20, 2) := by decide +kernel
theorem dX2_judgeRate_7 : decode cX2_judgeRate 7 = .ok (.if_icmp .le 13, 3) := by decide +kernel
theorem dX2_judgeRate_10 : decode cX2_judgeRate 10 = .ok (.aload_n 0, 1) := by decide +kernel
theorem dX2_judgeRate_11 : decode cX2_judgeRate 11 = .ok (.bipush 9, 2) := by decide +kernel
theorem dX2_judgeRate_13 : decode cX2_judgeRate 13 = .ok (.iconst 0, 1) := by decide +kernel
theorem dX2_judgeRate_14 : decode cX2_judgeRate 14 = .ok (.invokevirtual 43, 3) := by decide +kernel
theorem dX2_judgeRate_17 : decode cX2_judgeRate 17 = .ok (.goto 18, 3) := by decide +kernel
theorem dX2_judgeRate_20 : decode cX2_judgeRate 20 = .ok (.iload_n 2, 1) := by decide +kernel
theorem dX2_judgeRate_21 : decode cX2_judgeRate 21 = .ok (.aload_n 1, 1) := by decide +kernel
theorem dX2_judgeRate_22 : decode cX2_judgeRate 22 = .ok (.getfield 79, 3) := by decide +kernel
theorem dX2_judgeRate_25 : decode cX2_judgeRate 25 = .ok (.if_icmp .ne 10, 3) := by decide +kernel
theorem dX2_judgeRate_28 : decode cX2_judgeRate 28 = .ok (.aload_n 0, 1) := by decide +kernel
theorem dX2_judgeRate_29 : decode cX2_judgeRate 29 = .ok (.bipush 7, 2) := by decide +kernel
theorem dX2_judgeRate_31 : decode cX2_judgeRate 31 = .ok (.iload_n 2, 1) := by decide +kernel
theorem dX2_judgeRate_32 : decode cX2_judgeRate 32 = .ok (.invokevirtual 43, 3) := by decide +kernel
theorem dX2_judgeRate_35 : decode cX2_judgeRate 35 = .ok (.return_, 1) := by decide +kernel
theorem dX2_judgeHours_0 : decode cX2_judgeHours 0 = .ok (.iload_n 1, 1) := by decide +kernel
theorem dX2_judgeHours_1 : decode cX2_judgeHours 1 = .ok (.iconst 1, 1) := by decide +kernel
theorem dX2_judgeHours_2 : decode cX2_judgeHours 2 = .ok (.if_icmp .lt 9, 3) := by decide +kernel
theorem dX2_judgeHours_5 : decode cX2_judgeHours 5 = .ok (.iload_n 1, 1) := by decide +kernel
theorem dX2_judgeHours_6 : decode cX2_judgeHours 6 = .ok (.bipush 48, 2) := by decide +kernel
theorem dX2_judgeHours_8 : decode cX2_judgeHours 8 = .ok (.if_icmp .le 10, 3) := by decide +kernel
theorem dX2_judgeHours_11 : decode cX2_judgeHours 11 = .ok (.aload_n 0, 1) := by decide +kernel
theorem dX2_judgeHours_12 : decode cX2_judgeHours 12 = .ok (.bipush 9, 2) := by decide +kernel
theorem dX2_judgeHours_14 : decode cX2_judgeHours 14 = .ok (.iconst 0, 1) := by decide +kernel
theorem dX2_judgeHours_15 : decode cX2_judgeHours 15 = .ok (.invokevirtual 43, 3) := by decide +kernel
theorem dX2_judgeHours_18 : decode cX2_judgeHours 18 = .ok (.return_, 1) := by decide +kernel
theorem dX3_init_0 : decode cX3_init 0 = .ok (.aload_n 0, 1) := by decide +kernel
theorem dX3_init_1 : decode cX3_init 1 = .ok (.invokespecial 3, 3) := by decide +kernel
theorem dX3_init_4 : decode cX3_init 4 = .ok (.aload_n 0, 1) := by decide +kernel
theorem dX3_init_5 : decode cX3_init 5 = .ok (.bipush 60, 2) := by decide +kernel
theorem dX3_init_7 : decode cX3_init 7 = .ok (.newarray .char, 2) := by decide +kernel
theorem dX3_init_9 : decode cX3_init 9 = .ok (.putfield 9, 3) := by decide +kernel
theorem dX3_init_12 : decode cX3_init 12 = .ok (.aload_n 0, 1) := by decide +kernel
theorem dX3_init_13 : decode cX3_init 13 = .ok (.iconst 0, 1) := by decide +kernel
theorem dX3_init_14 : decode cX3_init 14 = .ok (.putfield 15, 3) := by decide +kernel
theorem dX3_init_17 : decode cX3_init 17 = .ok (.aload_n 0, 1) := by decide +kernel
theorem dX3_init_18 : decode cX3_init 18 = .ok (.iconst 0, 1) := by decide +kernel
theorem dX3_init_19 : decode cX3_init 19 = .ok (.putfield 19, 3) := by decide +kernel
theorem dX3_init_22 : decode cX3_init 22 = .ok (.aload_n 0, 1) := by decide +kernel
theorem dX3_init_23 : decode cX3_init 23 = .ok (.bipush 60, 2) := by decide +kernel
theorem dX3_init_25 : decode cX3_init 25 = .ok (.newarray .int, 2) := by decide +kernel
theorem dX3_init_27 : decode cX3_init 27 = .ok (.putfield 22, 3) := by decide +kernel
theorem dX3_init_30 : decode cX3_init 30 = .ok (.aload_n 0, 1) := by decide +kernel
theorem dX3_init_31 : decode cX3_init 31 = .ok (.bipush 60, 2) := by decide +kernel
theorem dX3_init_33 : decode cX3_init 33 = .ok (.newarray .int, 2) := by decide +kernel
theorem dX3_init_35 : decode cX3_init 35 = .ok (.putfield 26, 3) := by decide +kernel
theorem dX3_init_38 : decode cX3_init 38 = .ok (.aload_n 0, 1) := by decide +kernel
theorem dX3_init_39 : decode cX3_init 39 = .ok (.bipush 60, 2) := by decide +kernel
theorem dX3_init_41 : decode cX3_init 41 = .ok (.newarray .int, 2) := by decide +kernel
theorem dX3_init_43 : decode cX3_init 43 = .ok (.putfield 29, 3) := by decide +kernel
theorem dX3_init_46 : decode cX3_init 46 = .ok (.aload_n 0, 1) := by decide +kernel
theorem dX3_init_47 : decode cX3_init 47 = .ok (.iconst 0, 1) := by decide +kernel
theorem dX3_init_48 : decode cX3_init 48 = .ok (.putfield 32, 3) := by decide +kernel
theorem dX3_init_51 : decode cX3_init 51 = .ok (.return_, 1) := by decide +kernel
theorem dX3_append_0 : decode cX3_append 0 = .ok (.aload_n 0, 1) := by decide +kernel
theorem dX3_append_1 : decode cX3_append 1 = .ok (.getfield 15, 3) := by decide +kernel
theorem dX3_append_4 : decode cX3_append 4 = .ok (.bipush 60, 2) := by decide +kernel
theorem dX3_append_6 : decode cX3_append 6 = .ok (.if_icmp .ge 23, 3) := by decide +kernel
theorem dX3_append_9 : decode cX3_append 9 = .ok (.aload_n 0, 1) := by decide +kernel
theorem dX3_append_10 : decode cX3_append 10 = .ok (.getfield 9, 3) := by decide +kernel
theorem dX3_append_13 : decode cX3_append 13 = .ok (.aload_n 0, 1) := by decide +kernel
theorem dX3_append_14 : decode cX3_append 14 = .ok (.getfield 15, 3) := by decide +kernel
theorem dX3_append_17 : decode cX3_append 17 = .ok (.iload_n 1, 1) := by decide +kernel
theorem dX3_append_18 : decode cX3_append 18 = .ok (.castore, 1) := by decide +kernel
theorem dX3_append_19 : decode cX3_append 19 = .ok (.aload_n 0, 1) := by decide +kernel
theorem dX3_append_20 : decode cX3_append 20 = .ok (.dup, 1) := by decide +kernel
theorem dX3_append_21 : decode cX3_append 21 = .ok (.getfield 15, 3) := by decide +kernel
theorem dX3_append_24 : decode cX3_append 24 = .ok (.iconst 1, 1) := by decide +kernel
theorem dX3_append_25 : decode cX3_append 25 = .ok (.iadd, 1) := by decide +kernel
theorem dX3_append_26 : decode cX3_append 26 = .ok (.putfield 15, 3) := by decide +kernel
theorem dX3_append_29 : decode cX3_append 29 = .ok (.return_, 1) := by decide +kernel
theorem dX3_parse_0 : decode cX3_parse 0 = .ok (.aload_n 0, 1) := by decide +kernel
theorem dX3_parse_1 : decode cX3_parse 1 = .ok (.iconst 0, 1) := by decide +kernel
theorem dX3_parse_2 : decode cX3_parse 2 = .ok (.putfield 19, 3) := by decide +kernel
theorem dX3_parse_5 : decode cX3_parse 5 = .ok (.aload_n 0, 1) := by decide +kernel
theorem dX3_parse_6 : decode cX3_parse 6 = .ok (.iconst 0, 1) := by decide +kernel
theorem dX3_parse_7 : decode cX3_parse 7 = .ok (.putfield 32, 3) := by decide +kernel
theorem dX3_parse_10 : decode cX3_parse 10 = .ok (.aload_n 0, 1) := by decide +kernel
theorem dX3_parse_11 : decode cX3_parse 11 = .ok (.invokevirtual 35, 3) := by decide +kernel
theorem dX3_parse_14 : decode cX3_parse 14 = .ok (.istore_n 1, 1) := by decide +kernel
theorem dX3_parse_15 : decode cX3_parse 15 = .ok (.iconst 1, 1) := by decide +kernel
theorem dX3_parse_16 : decode cX3_parse 16 = .ok (.istore_n 2, 1) := by decide +kernel
theorem dX3_parse_17 : decode cX3_parse 17 = .ok (.iload_n 2, 1) := by decide +kernel
theorem dX3_parse_18 : decode cX3_parse 18 = .ok (.bipush 60, 2) := by decide +kernel
theorem dX3_parse_20 : decode cX3_parse 20 = .ok (.if_icmp .ge 46, 3) := by decide +kernel
theorem dX3_parse_23 : decode cX3_parse 23 = .ok (.iload_n 1, 1) := by decide +kernel
theorem dX3_parse_24 : decode cX3_parse 24 = .ok (.ifCond .eq 42, 3) := by decide +kernel
theorem dX3_parse_27 : decode cX3_parse 27 = .ok (.aload_n 0, 1) := by decide +kernel
theorem dX3_parse_28 : decode cX3_parse 28 = .ok (.getfield 19, 3) := by decide +kernel
theorem dX3_parse_31 : decode cX3_parse 31 = .ok (.aload_n 0, 1) := by decide +kernel
theorem dX3_parse_32 : decode cX3_parse 32 = .ok (.getfield 15, 3) := by decide +kernel
theorem dX3_parse_35 : decode cX3_parse 35 = .ok (.if_icmp .ge 31, 3) := by decide +kernel
theorem dX3_parse_38 : decode cX3_parse 38 = .ok (.aload_n 0, 1) := by decide +kernel
theorem dX3_parse_39 : decode cX3_parse 39 = .ok (.bipush 59, 2) := by decide +kernel
theorem dX3_parse_41 : decode cX3_parse 41 = .ok (.invokevirtual 39, 3) := by decide +kernel
theorem dX3_parse_44 : decode cX3_parse 44 = .ok (.ifCond .eq 14, 3) := by decide +kernel
theorem dX3_parse_47 : decode cX3_parse 47 = .ok (.aload_n 0, 1) := by decide +kernel
theorem dX3_parse_48 : decode cX3_parse 48 = .ok (.invokevirtual 35, 3) := by decide +kernel
theorem dX3_parse_51 : decode cX3_parse 51 = .ok (.ifCond .eq 7, 3) := by decide +kernel
theorem dX3_parse_54 : decode cX3_parse 54 = .ok (.iconst 1, 1) := by decide +kernel
theorem dX3_parse_55 : decode cX3_parse 55 = .ok (.goto 4, 3) := by decide +kernel
theorem dX3_parse_58 : decode cX3_parse 58 = .ok (.iconst 0, 1) := by decide +kernel
theorem dX3_parse_59 : decode cX3_parse 59 = .ok (.istore_n 1, 1) := by decide +kernel
theorem dX3_parse_60 : decode cX3_parse 60 = .ok (.iinc 2 1, 3) := by decide +kernel
theorem dX3_parse_63 : decode cX3_parse 63 = .ok (.goto (-46), 3) := by decide +kernel
theorem dX3_parse_66 : decode cX3_parse 66 = .ok (.iload_n 1, 1) := by decide +kernel
theorem dX3_parse_67 : decode cX3_parse 67 = .ok (.ireturn, 1) := by decide +kernel
theorem dX3_readCommand_0 : decode cX3_readCommand 0 = .ok (.aload_n 0, 1) := by decide +kernel
theorem dX3_readCommand_1 : decode cX3_readCommand 1 = .ok (.invokevirtual 43, 3) := by decide +kernel
theorem dX3_readCommand_4 : decode cX3_readCommand 4 = .ok (.istore_n 1, 1) := by decide +kernel
theorem dX3_readCommand_5 : decode cX3_readCommand 5 = .ok (.iload_n 1, 1) := by decide +kernel
theorem dX3_readCommand_6 : decode cX3_readCommand 6 = .ok (.iconst (-1), 1) := by decide +kernel
theorem dX3_readCommand_7 : decode cX3_readCommand 7 = .ok (.if_icmp .eq 12, 3) := by decide +kernel
theorem dX3_readCommand_10 : decode cX3_readCommand 10 = .ok (.aload_n 0, 1) := by decide +kernel
theorem dX3_readCommand_11 : decode cX3_readCommand 11 = .ok (.getfield 32, 3) := by decide +kernel
theorem dX3_readCommand_14 : decode cX3_readCommand 14 = .ok (.bipush 60, 2) := by decide +kernel
theorem dX3_readCommand_16 : decode cX3_readCommand 16 = .ok (.if_icmp .lt 5, 3) := by decide +kernel
theorem dX3_readCommand_19 : decode cX3_readCommand 19 = .ok (.iconst 0, 1) := by decide +kernel
theorem dX3_readCommand_20 : decode cX3_readCommand 20 = .ok (.ireturn, 1) := by decide +kernel
theorem dX3_readCommand_21 : decode cX3_readCommand 21 = .ok (.aload_n 0, 1) := by decide +kernel
theorem dX3_readCommand_22 : decode cX3_readCommand 22 = .ok (.getfield 22, 3) := by decide +kernel
theorem dX3_readCommand_25 : decode cX3_readCommand 25 = .ok (.aload_n 0, 1) := by decide +kernel
theorem dX3_readCommand_26 : decode cX3_readCommand 26 = .ok (.getfield 32, 3) := by decide +kernel
theorem dX3_readCommand_29 : decode cX3_readCommand 29 = .ok (.iload_n 1, 1) := by decide +kernel
theorem dX3_readCommand_30 : decode cX3_readCommand 30 = .ok (.iastore, 1) := by decide +kernel
theorem dX3_readCommand_31 : decode cX3_readCommand 31 = .ok (.aload_n 0, 1) := by decide +kernel
theorem dX3_readCommand_32 : decode cX3_readCommand 32 = .ok (.getfield 26, 3) := by decide +kernel
theorem dX3_readCommand_35 : decode cX3_readCommand 35 = .ok (.aload_n 0, 1) := by decide +kernel
theorem dX3_readCommand_36 : decode cX3_readCommand 36 = .ok (.getfield 32, 3) := by decide +kernel
theorem dX3_readCommand_39 : decode cX3_readCommand 39 = .ok (.iconst 0, 1) := by decide +kernel
theorem dX3_readCommand_40 : decode cX3_readCommand 40 = .ok (.iastore, 1) := by decide +kernel
theorem dX3_readCommand_41 : decode cX3_readCommand 41 = .ok (.aload_n 0, 1) := by decide +kernel
theorem dX3_readCommand_42 : decode cX3_readCommand 42 = .ok (.getfield 29, 3) := by decide +kernel
theorem dX3_readCommand_45 : decode cX3_readCommand 45 = .ok (.aload_n 0, 1) := by decide +kernel
theorem dX3_readCommand_46 : decode cX3_readCommand 46 = .ok (.getfield 32, 3) := by decide +kernel
theorem dX3_readCommand_49 : decode cX3_readCommand 49 = .ok (.iconst 0, 1) := by decide +kernel
theorem dX3_readCommand_50 : decode cX3_readCommand 50 = .ok (.iastore, 1) := by decide +kernel
theorem dX3_readCommand_51 : decode cX3_readCommand 51 = .ok (.aload_n 0, 1) := by decide +kernel
theorem dX3_readCommand_52 : decode cX3_readCommand 52 = .ok (.iload_n 1, 1) := by decide +kernel
theorem dX3_readCommand_53 : decode cX3_readCommand 53 = .ok (.invokestatic 47, 3) := by decide +kernel
theorem dX3_readCommand_56 : decode cX3_readCommand 56 = .ok (.invokevirtual 51, 3) := by decide +kernel
theorem dX3_readCommand_59 : decode cX3_readCommand 59 = .ok (.ifCond .ne 5, 3) := by decide +kernel
theorem dX3_readCommand_62 : decode cX3_readCommand 62 = .ok (.iconst 0, 1) := by decide +kernel
theorem dX3_readCommand_63 : decode cX3_readCommand 63 = .ok (.ireturn, 1) := by decide +kernel
theorem dX3_readCommand_64 : decode cX3_readCommand 64 = .ok (.aload_n 0, 1) := by decide +kernel
theorem dX3_readCommand_65 : decode cX3_readCommand 65 = .ok (.dup, 1) := by decide +kernel
theorem dX3_readCommand_66 : decode cX3_readCommand 66 = .ok (.getfield 32, 3) := by decide +kernel
theorem dX3_readCommand_69 : decode cX3_readCommand 69 = .ok (.iconst 1, 1) := by decide +kernel
theorem dX3_readCommand_70 : decode cX3_readCommand 70 = .ok (.iadd, 1) := by decide +kernel
theorem dX3_readCommand_71 : decode cX3_readCommand 71 = .ok (.putfield 32, 3) := by decide +kernel
theorem dX3_readCommand_74 : decode cX3_readCommand 74 = .ok (.iconst 1, 1) := by decide +kernel
theorem dX3_readCommand_75 : decode cX3_readCommand 75 = .ok (.ireturn, 1) := by decide +kernel
theorem dX3_kindHere_0 : decode cX3_kindHere 0 = .ok (.aload_n 0, 1) := by decide +kernel
theorem dX3_kindHere_1 : decode cX3_kindHere 1 = .ok (.getfield 19, 3) := by decide +kernel
theorem dX3_kindHere_4 : decode cX3_kindHere 4 = .ok (.aload_n 0, 1) := by decide +kernel
theorem dX3_kindHere_5 : decode cX3_kindHere 5 = .ok (.getfield 15, 3) := by decide +kernel
theorem dX3_kindHere_8 : decode cX3_kindHere 8 = .ok (.if_icmp .lt 5, 3) := by decide +kernel
theorem dX3_kindHere_11 : decode cX3_kindHere 11 = .ok (.iconst (-1), 1) := by decide +kernel
theorem dX3_kindHere_12 : decode cX3_kindHere 12 = .ok (.ireturn, 1) := by decide +kernel
theorem dX3_kindHere_13 : decode cX3_kindHere 13 = .ok (.aload_n 0, 1) := by decide +kernel
theorem dX3_kindHere_14 : decode cX3_kindHere 14 = .ok (.getfield 9, 3) := by decide +kernel
theorem dX3_kindHere_17 : decode cX3_kindHere 17 = .ok (.aload_n 0, 1) := by decide +kernel
theorem dX3_kindHere_18 : decode cX3_kindHere 18 = .ok (.getfield 19, 3) := by decide +kernel
theorem dX3_kindHere_21 : decode cX3_kindHere 21 = .ok (.caload, 1) := by decide +kernel
theorem dX3_kindHere_22 : decode cX3_kindHere 22 = .ok (.tableswitch 113 99 119 #[110, 113, 102, 113, 113, 113, 113, 113, 113, 113, 104, 113, 113, 100, 113, 106, 98, 113, 113, 113, 108], 98) := by decide +kernel
theorem dX3_kindHere_120 : decode cX3_kindHere 120 = .ok (.iconst 0, 1) := by decide +kernel
theorem dX3_kindHere_121 : decode cX3_kindHere 121 = .ok (.ireturn, 1) := by decide +kernel
theorem dX3_kindHere_122 : decode cX3_kindHere 122 = .ok (.iconst 1, 1) := by decide +kernel
theorem dX3_kindHere_123 : decode cX3_kindHere 123 = .ok (.ireturn, 1) := by decide +kernel
theorem dX3_kindHere_124 : decode cX3_kindHere 124 = .ok (.iconst 2, 1) := by decide +kernel
theorem dX3_kindHere_125 : decode cX3_kindHere 125 = .ok (.ireturn, 1) := by decide +kernel
theorem dX3_kindHere_126 : decode cX3_kindHere 126 = .ok (.iconst 3, 1) := by decide +kernel
theorem dX3_kindHere_127 : decode cX3_kindHere 127 = .ok (.ireturn, 1) := by decide +kernel
theorem dX3_kindHere_128 : decode cX3_kindHere 128 = .ok (.iconst 4, 1) := by decide +kernel
theorem dX3_kindHere_129 : decode cX3_kindHere 129 = .ok (.ireturn, 1) := by decide +kernel
theorem dX3_kindHere_130 : decode cX3_kindHere 130 = .ok (.iconst 5, 1) := by decide +kernel
theorem dX3_kindHere_131 : decode cX3_kindHere 131 = .ok (.ireturn, 1) := by decide +kernel
theorem dX3_kindHere_132 : decode cX3_kindHere 132 = .ok (.bipush 6, 2) := by decide +kernel
theorem dX3_kindHere_134 : decode cX3_kindHere 134 = .ok (.ireturn, 1) := by decide +kernel
theorem dX3_kindHere_135 : decode cX3_kindHere 135 = .ok (.iconst (-1), 1) := by decide +kernel
theorem dX3_kindHere_136 : decode cX3_kindHere 136 = .ok (.ireturn, 1) := by decide +kernel
theorem dX3_patternOf_0 : decode cX3_patternOf 0 = .ok (.iload_n 0, 1) := by decide +kernel
theorem dX3_patternOf_1 : decode cX3_patternOf 1 = .ok (.tableswitch 57 0 5 #[39, 42, 45, 48, 51, 54], 39) := by decide +kernel
theorem dX3_patternOf_40 : decode cX3_patternOf 40 = .ok (.ldc 55, 2) := by decide +kernel
theorem dX3_patternOf_42 : decode cX3_patternOf 42 = .ok (.areturn, 1) := by decide +kernel
theorem dX3_patternOf_43 : decode cX3_patternOf 43 = .ok (.ldc 57, 2) := by decide +kernel
theorem dX3_patternOf_45 : decode cX3_patternOf 45 = .ok (.areturn, 1) := by decide +kernel
theorem dX3_patternOf_46 : decode cX3_patternOf 46 = .ok (.ldc 59, 2) := by decide +kernel
theorem dX3_patternOf_48 : decode cX3_patternOf 48 = .ok (.areturn, 1) := by decide +kernel
theorem dX3_patternOf_49 : decode cX3_patternOf 49 = .ok (.ldc 61, 2) := by decide +kernel
theorem dX3_patternOf_51 : decode cX3_patternOf 51 = .ok (.areturn, 1) := by decide +kernel
theorem dX3_patternOf_52 : decode cX3_patternOf 52 = .ok (.ldc 63, 2) := by decide +kernel
theorem dX3_patternOf_54 : decode cX3_patternOf 54 = .ok (.areturn, 1) := by decide +kernel
theorem dX3_patternOf_55 : decode cX3_patternOf 55 = .ok (.ldc 65, 2) := by decide +kernel
theorem dX3_patternOf_57 : decode cX3_patternOf 57 = .ok (.areturn, 1) := by decide +kernel
theorem dX3_patternOf_58 : decode cX3_patternOf 58 = .ok (.ldc 67, 2) := by decide +kernel
theorem dX3_patternOf_60 : decode cX3_patternOf 60 = .ok (.areturn, 1) := by decide +kernel
theorem dX3_readPattern_0 : decode cX3_readPattern 0 = .ok (.iconst 0, 1) := by decide +kernel
theorem dX3_readPattern_1 : decode cX3_readPattern 1 = .ok (.istore_n 2, 1) := by decide +kernel
theorem dX3_readPattern_2 : decode cX3_readPattern 2 = .ok (.iconst 0, 1) := by decide +kernel
theorem dX3_readPattern_3 : decode cX3_readPattern 3 = .ok (.istore_n 3, 1) := by decide +kernel
theorem dX3_readPattern_4 : decode cX3_readPattern 4 = .ok (.iload_n 3, 1) := by decide +kernel
theorem dX3_readPattern_5 : decode cX3_readPattern 5 = .ok (.aload_n 1, 1) := by decide +kernel
theorem dX3_readPattern_6 : decode cX3_readPattern 6 = .ok (.invokevirtual 69, 3) := by decide +kernel
theorem dX3_readPattern_9 : decode cX3_readPattern 9 = .ok (.if_icmp .ge 80, 3) := by decide +kernel
theorem dX3_readPattern_12 : decode cX3_readPattern 12 = .ok (.aload_n 1, 1) := by decide +kernel
theorem dX3_readPattern_13 : decode cX3_readPattern 13 = .ok (.iload_n 3, 1) := by decide +kernel
theorem dX3_readPattern_14 : decode cX3_readPattern 14 = .ok (.invokevirtual 73, 3) := by decide +kernel
theorem dX3_readPattern_17 : decode cX3_readPattern 17 = .ok (.istore 4, 2) := by decide +kernel
theorem dX3_readPattern_19 : decode cX3_readPattern 19 = .ok (.iload 4, 2) := by decide +kernel
theorem dX3_readPattern_21 : decode cX3_readPattern 21 = .ok (.bipush 68, 2) := by decide +kernel
theorem dX3_readPattern_23 : decode cX3_readPattern 23 = .ok (.if_icmp .eq 10, 3) := by decide +kernel
theorem dX3_readPattern_26 : decode cX3_readPattern 26 = .ok (.iload 4, 2) := by decide +kernel
theorem dX3_readPattern_28 : decode cX3_readPattern 28 = .ok (.bipush 78, 2) := by decide +kernel
theorem dX3_readPattern_30 : decode cX3_readPattern 30 = .ok (.if_icmp .ne 42, 3) := by decide +kernel
theorem dX3_readPattern_33 : decode cX3_readPattern 33 = .ok (.aload_n 0, 1) := by decide +kernel
theorem dX3_readPattern_34 : decode cX3_readPattern 34 = .ok (.iload 4, 2) := by decide +kernel
theorem dX3_readPattern_36 : decode cX3_readPattern 36 = .ok (.bipush 78, 2) := by decide +kernel
theorem dX3_readPattern_38 : decode cX3_readPattern 38 = .ok (.if_icmp .ne 7, 3) := by decide +kernel
theorem dX3_readPattern_41 : decode cX3_readPattern 41 = .ok (.iconst 2, 1) := by decide +kernel
theorem dX3_readPattern_42 : decode cX3_readPattern 42 = .ok (.goto 4, 3) := by decide +kernel
theorem dX3_readPattern_45 : decode cX3_readPattern 45 = .ok (.iconst 1, 1) := by decide +kernel
theorem dX3_readPattern_46 : decode cX3_readPattern 46 = .ok (.invokevirtual 77, 3) := by decide +kernel
theorem dX3_readPattern_49 : decode cX3_readPattern 49 = .ok (.istore 5, 2) := by decide +kernel
theorem dX3_readPattern_51 : decode cX3_readPattern 51 = .ok (.iload 5, 2) := by decide +kernel
theorem dX3_readPattern_53 : decode cX3_readPattern 53 = .ok (.iconst (-1), 1) := by decide +kernel
theorem dX3_readPattern_54 : decode cX3_readPattern 54 = .ok (.if_icmp .ne 5, 3) := by decide +kernel
theorem dX3_readPattern_57 : decode cX3_readPattern 57 = .ok (.iconst 0, 1) := by decide +kernel
theorem dX3_readPattern_58 : decode cX3_readPattern 58 = .ok (.ireturn, 1) := by decide +kernel
theorem dX3_readPattern_59 : decode cX3_readPattern 59 = .ok (.aload_n 0, 1) := by decide +kernel
theorem dX3_readPattern_60 : decode cX3_readPattern 60 = .ok (.iload_n 2, 1) := by decide +kernel
theorem dX3_readPattern_61 : decode cX3_readPattern 61 = .ok (.iload 5, 2) := by decide +kernel
theorem dX3_readPattern_63 : decode cX3_readPattern 63 = .ok (.invokevirtual 81, 3) := by decide +kernel
theorem dX3_readPattern_66 : decode cX3_readPattern 66 = .ok (.iinc 2 1, 3) := by decide +kernel
theorem dX3_readPattern_69 : decode cX3_readPattern 69 = .ok (.goto 14, 3) := by decide +kernel
theorem dX3_readPattern_72 : decode cX3_readPattern 72 = .ok (.aload_n 0, 1) := by decide +kernel
theorem dX3_readPattern_73 : decode cX3_readPattern 73 = .ok (.iload 4, 2) := by decide +kernel
theorem dX3_readPattern_75 : decode cX3_readPattern 75 = .ok (.invokevirtual 39, 3) := by decide +kernel
theorem dX3_readPattern_78 : decode cX3_readPattern 78 = .ok (.ifCond .ne 5, 3) := by decide +kernel
theorem dX3_readPattern_81 : decode cX3_readPattern 81 = .ok (.iconst 0, 1) := by decide +kernel
theorem dX3_readPattern_82 : decode cX3_readPattern 82 = .ok (.ireturn, 1) := by decide +kernel
theorem dX3_readPattern_83 : decode cX3_readPattern 83 = .ok (.iinc 3 1, 3) := by decide +kernel
theorem dX3_readPattern_86 : decode cX3_readPattern 86 = .ok (.goto (-82), 3) := by decide +kernel
theorem dX3_readPattern_89 : decode cX3_readPattern 89 = .ok (.iconst 1, 1) := by decide +kernel
theorem dX3_readPattern_90 : decode cX3_readPattern 90 = .ok (.ireturn, 1) := by decide +kernel
theorem dX3_putValue_0 : decode cX3_putValue 0 = .ok (.aload_n 0, 1) := by decide +kernel
theorem dX3_putValue_1 : decode cX3_putValue 1 = .ok (.getfield 32, 3) := by decide +kernel
theorem dX3_putValue_4 : decode cX3_putValue 4 = .ok (.bipush 60, 2) := by decide +kernel
theorem dX3_putValue_6 : decode cX3_putValue 6 = .ok (.if_icmp .lt 4, 3) := by decide +kernel
theorem dX3_putValue_9 : decode cX3_putValue 9 = .ok (.return_, 1) := by decide +kernel
theorem dX3_putValue_10 : decode cX3_putValue 10 = .ok (.iload_n 1, 1) := by decide +kernel
theorem dX3_putValue_11 : decode cX3_putValue 11 = .ok (.ifCond .ne 16, 3) := by decide +kernel
theorem dX3_putValue_14 : decode cX3_putValue 14 = .ok (.aload_n 0, 1) := by decide +kernel
theorem dX3_putValue_15 : decode cX3_putValue 15 = .ok (.getfield 26, 3) := by decide +kernel
theorem dX3_putValue_18 : decode cX3_putValue 18 = .ok (.aload_n 0, 1) := by decide +kernel
theorem dX3_putValue_19 : decode cX3_putValue 19 = .ok (.getfield 32, 3) := by decide +kernel
theorem dX3_putValue_22 : decode cX3_putValue 22 = .ok (.iload_n 2, 1) := by decide +kernel
theorem dX3_putValue_23 : decode cX3_putValue 23 = .ok (.iastore, 1) := by decide +kernel
theorem dX3_putValue_24 : decode cX3_putValue 24 = .ok (.goto 13, 3) := by decide +kernel
theorem dX3_putValue_27 : decode cX3_putValue 27 = .ok (.aload_n 0, 1) := by decide +kernel
theorem dX3_putValue_28 : decode cX3_putValue 28 = .ok (.getfield 29, 3) := by decide +kernel
theorem dX3_putValue_31 : decode cX3_putValue 31 = .ok (.aload_n 0, 1) := by decide +kernel
theorem dX3_putValue_32 : decode cX3_putValue 32 = .ok (.getfield 32, 3) := by decide +kernel
theorem dX3_putValue_35 : decode cX3_putValue 35 = .ok (.iload_n 2, 1) := by decide +kernel
theorem dX3_putValue_36 : decode cX3_putValue 36 = .ok (.iastore, 1) := by decide +kernel
theorem dX3_putValue_37 : decode cX3_putValue 37 = .ok (.return_, 1) := by decide +kernel
theorem dX3_readValue_0 : decode cX3_readValue 0 = .ok (.iconst (-1), 1) := by decide +kernel
theorem dX3_readValue_1 : decode cX3_readValue 1 = .ok (.istore_n 2, 1) := by decide +kernel
theorem dX3_readValue_2 : decode cX3_readValue 2 = .ok (.iconst 0, 1) := by decide +kernel
theorem dX3_readValue_3 : decode cX3_readValue 3 = .ok (.istore_n 3, 1) := by decide +kernel
theorem dX3_readValue_4 : decode cX3_readValue 4 = .ok (.iload_n 3, 1) := by decide +kernel
theorem dX3_readValue_5 : decode cX3_readValue 5 = .ok (.iload_n 1, 1) := by decide +kernel
theorem dX3_readValue_6 : decode cX3_readValue 6 = .ok (.if_icmp .ge 48, 3) := by decide +kernel
theorem dX3_readValue_9 : decode cX3_readValue 9 = .ok (.aload_n 0, 1) := by decide +kernel
theorem dX3_readValue_10 : decode cX3_readValue 10 = .ok (.invokevirtual 85, 3) := by decide +kernel
theorem dX3_readValue_13 : decode cX3_readValue 13 = .ok (.ifCond .eq 41, 3) := by decide +kernel
theorem dX3_readValue_16 : decode cX3_readValue 16 = .ok (.iload_n 2, 1) := by decide +kernel
theorem dX3_readValue_17 : decode cX3_readValue 17 = .ok (.iconst 0, 1) := by decide +kernel
theorem dX3_readValue_18 : decode cX3_readValue 18 = .ok (.invokestatic 88, 3) := by decide +kernel
theorem dX3_readValue_21 : decode cX3_readValue 21 = .ok (.bipush 10, 2) := by decide +kernel
theorem dX3_readValue_23 : decode cX3_readValue 23 = .ok (.imul, 1) := by decide +kernel
theorem dX3_readValue_24 : decode cX3_readValue 24 = .ok (.aload_n 0, 1) := by decide +kernel
theorem dX3_readValue_25 : decode cX3_readValue 25 = .ok (.getfield 9, 3) := by decide +kernel
theorem dX3_readValue_28 : decode cX3_readValue 28 = .ok (.aload_n 0, 1) := by decide +kernel
theorem dX3_readValue_29 : decode cX3_readValue 29 = .ok (.getfield 19, 3) := by decide +kernel
theorem dX3_readValue_32 : decode cX3_readValue 32 = .ok (.caload, 1) := by decide +kernel
theorem dX3_readValue_33 : decode cX3_readValue 33 = .ok (.bipush 48, 2) := by decide +kernel
theorem dX3_readValue_35 : decode cX3_readValue 35 = .ok (.isub, 1) := by decide +kernel
theorem dX3_readValue_36 : decode cX3_readValue 36 = .ok (.iadd, 1) := by decide +kernel
theorem dX3_readValue_37 : decode cX3_readValue 37 = .ok (.istore_n 2, 1) := by decide +kernel
theorem dX3_readValue_38 : decode cX3_readValue 38 = .ok (.aload_n 0, 1) := by decide +kernel
theorem dX3_readValue_39 : decode cX3_readValue 39 = .ok (.dup, 1) := by decide +kernel
theorem dX3_readValue_40 : decode cX3_readValue 40 = .ok (.getfield 19, 3) := by decide +kernel
theorem dX3_readValue_43 : decode cX3_readValue 43 = .ok (.iconst 1, 1) := by decide +kernel
theorem dX3_readValue_44 : decode cX3_readValue 44 = .ok (.iadd, 1) := by decide +kernel
theorem dX3_readValue_45 : decode cX3_readValue 45 = .ok (.putfield 19, 3) := by decide +kernel
theorem dX3_readValue_48 : decode cX3_readValue 48 = .ok (.iinc 3 1, 3) := by decide +kernel
theorem dX3_readValue_51 : decode cX3_readValue 51 = .ok (.goto (-47), 3) := by decide +kernel
theorem dX3_readValue_54 : decode cX3_readValue 54 = .ok (.iload_n 2, 1) := by decide +kernel
theorem dX3_readValue_55 : decode cX3_readValue 55 = .ok (.ireturn, 1) := by decide +kernel
theorem dX3_isDigitHere_0 : decode cX3_isDigitHere 0 = .ok (.aload_n 0, 1) := by decide +kernel
theorem dX3_isDigitHere_1 : decode cX3_isDigitHere 1 = .ok (.getfield 19, 3) := by decide +kernel
theorem dX3_isDigitHere_4 : decode cX3_isDigitHere 4 = .ok (.aload_n 0, 1) := by decide +kernel
theorem dX3_isDigitHere_5 : decode cX3_isDigitHere 5 = .ok (.getfield 15, 3) := by decide +kernel
theorem dX3_isDigitHere_8 : decode cX3_isDigitHere 8 = .ok (.if_icmp .ge 35, 3) := by decide +kernel
theorem dX3_isDigitHere_11 : decode cX3_isDigitHere 11 = .ok (.aload_n 0, 1) := by decide +kernel
theorem dX3_isDigitHere_12 : decode cX3_isDigitHere 12 = .ok (.getfield 9, 3) := by decide +kernel
theorem dX3_isDigitHere_15 : decode cX3_isDigitHere 15 = .ok (.aload_n 0, 1) := by decide +kernel
theorem dX3_isDigitHere_16 : decode cX3_isDigitHere 16 = .ok (.getfield 19, 3) := by decide +kernel
theorem dX3_isDigitHere_19 : decode cX3_isDigitHere 19 = .ok (.caload, 1) := by decide +kernel
theorem dX3_isDigitHere_20 : decode cX3_isDigitHere 20 = .ok (.bipush 48, 2) := by decide +kernel
theorem dX3_isDigitHere_22 : decode cX3_isDigitHere 22 = .ok (.if_icmp .lt 21, 3) := by decide +kernel
theorem dX3_isDigitHere_25 : decode cX3_isDigitHere 25 = .ok (.aload_n 0, 1) := by decide +kernel
theorem dX3_isDigitHere_26 : decode cX3_isDigitHere 26 = .ok (.getfield 9, 3) := by decide +kernel
theorem dX3_isDigitHere_29 : decode cX3_isDigitHere 29 = .ok (.aload_n 0, 1) := by decide +kernel
theorem dX3_isDigitHere_30 : decode cX3_isDigitHere 30 = .ok (.getfield 19, 3) := by decide +kernel
theorem dX3_isDigitHere_33 : decode cX3_isDigitHere 33 = .ok (.caload, 1) := by decide +kernel
theorem dX3_isDigitHere_34 : decode cX3_isDigitHere 34 = .ok (.bipush 57, 2) := by decide +kernel
theorem dX3_isDigitHere_36 : decode cX3_isDigitHere 36 = .ok (.if_icmp .gt 7, 3) := by decide +kernel
theorem dX3_isDigitHere_39 : decode cX3_isDigitHere 39 = .ok (.iconst 1, 1) := by decide +kernel
theorem dX3_isDigitHere_40 : decode cX3_isDigitHere 40 = .ok (.goto 4, 3) := by decide +kernel
theorem dX3_isDigitHere_43 : decode cX3_isDigitHere 43 = .ok (.iconst 0, 1) := by decide +kernel
theorem dX3_isDigitHere_44 : decode cX3_isDigitHere 44 = .ok (.ireturn, 1) := by decide +kernel
theorem dX3_readSign_0 : decode cX3_readSign 0 = .ok (.aload_n 0, 1) := by decide +kernel
theorem dX3_readSign_1 : decode cX3_readSign 1 = .ok (.getfield 19, 3) := by decide +kernel
theorem dX3_readSign_4 : decode cX3_readSign 4 = .ok (.aload_n 0, 1) := by decide +kernel
theorem dX3_readSign_5 : decode cX3_readSign 5 = .ok (.getfield 15, 3) := by decide +kernel
theorem dX3_readSign_8 : decode cX3_readSign 8 = .ok (.if_icmp .ge 16, 3) := by decide +kernel
theorem dX3_readSign_11 : decode cX3_readSign 11 = .ok (.aload_n 0, 1) := by decide +kernel
theorem dX3_readSign_12 : decode cX3_readSign 12 = .ok (.getfield 9, 3) := by decide +kernel
theorem dX3_readSign_15 : decode cX3_readSign 15 = .ok (.aload_n 0, 1) := by decide +kernel
theorem dX3_readSign_16 : decode cX3_readSign 16 = .ok (.getfield 19, 3) := by decide +kernel
theorem dX3_readSign_19 : decode cX3_readSign 19 = .ok (.caload, 1) := by decide +kernel
theorem dX3_readSign_20 : decode cX3_readSign 20 = .ok (.iload_n 1, 1) := by decide +kernel
theorem dX3_readSign_21 : decode cX3_readSign 21 = .ok (.if_icmp .eq 5, 3) := by decide +kernel
theorem dX3_readSign_24 : decode cX3_readSign 24 = .ok (.iconst 0, 1) := by decide +kernel
theorem dX3_readSign_25 : decode cX3_readSign 25 = .ok (.ireturn, 1) := by decide +kernel
theorem dX3_readSign_26 : decode cX3_readSign 26 = .ok (.aload_n 0, 1) := by decide +kernel
theorem dX3_readSign_27 : decode cX3_readSign 27 = .ok (.dup, 1) := by decide +kernel
theorem dX3_readSign_28 : decode cX3_readSign 28 = .ok (.getfield 19, 3) := by decide +kernel
theorem dX3_readSign_31 : decode cX3_readSign 31 = .ok (.iconst 1, 1) := by decide +kernel
theorem dX3_readSign_32 : decode cX3_readSign 32 = .ok (.iadd, 1) := by decide +kernel
theorem dX3_readSign_33 : decode cX3_readSign 33 = .ok (.putfield 19, 3) := by decide +kernel
theorem dX3_readSign_36 : decode cX3_readSign 36 = .ok (.iconst 1, 1) := by decide +kernel
theorem dX3_readSign_37 : decode cX3_readSign 37 = .ok (.ireturn, 1) := by decide +kernel
