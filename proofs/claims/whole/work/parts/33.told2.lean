/-! The reference: votes and what coordinators are told. -/
theorem md_Mod_learn_0 : decode mb_Mod_learn 0 = .ok (.aload_n 0, 1) := by decide +kernel
theorem md_Mod_learn_1 : decode mb_Mod_learn 1 = .ok (.getfield 53, 3) := by decide +kernel
theorem md_Mod_learn_4 : decode mb_Mod_learn 4 = .ok (.bipush 65, 2) := by decide +kernel
theorem md_Mod_learn_6 : decode mb_Mod_learn 6 = .ok (.iload_n 1, 1) := by decide +kernel
theorem md_Mod_learn_7 : decode mb_Mod_learn 7 = .ok (.imul, 1) := by decide +kernel
theorem md_Mod_learn_8 : decode mb_Mod_learn 8 = .ok (.iconst 5, 1) := by decide +kernel
theorem md_Mod_learn_9 : decode mb_Mod_learn 9 = .ok (.iload_n 2, 1) := by decide +kernel
theorem md_Mod_learn_10 : decode mb_Mod_learn 10 = .ok (.imul, 1) := by decide +kernel
theorem md_Mod_learn_11 : decode mb_Mod_learn 11 = .ok (.iadd, 1) := by decide +kernel
theorem md_Mod_learn_12 : decode mb_Mod_learn 12 = .ok (.iload_n 3, 1) := by decide +kernel
theorem md_Mod_learn_13 : decode mb_Mod_learn 13 = .ok (.iadd, 1) := by decide +kernel
theorem md_Mod_learn_14 : decode mb_Mod_learn 14 = .ok (.iload 4, 2) := by decide +kernel
theorem md_Mod_learn_16 : decode mb_Mod_learn 16 = .ok (.iastore, 1) := by decide +kernel
theorem md_Mod_learn_17 : decode mb_Mod_learn 17 = .ok (.aload_n 0, 1) := by decide +kernel
theorem md_Mod_learn_18 : decode mb_Mod_learn 18 = .ok (.getfield 56, 3) := by decide +kernel
theorem md_Mod_learn_21 : decode mb_Mod_learn 21 = .ok (.iload_n 1, 1) := by decide +kernel
theorem md_Mod_learn_22 : decode mb_Mod_learn 22 = .ok (.iaload, 1) := by decide +kernel
theorem md_Mod_learn_23 : decode mb_Mod_learn 23 = .ok (.ifCond .ne 30, 3) := by decide +kernel
theorem md_Mod_learn_26 : decode mb_Mod_learn 26 = .ok (.aload_n 0, 1) := by decide +kernel
theorem md_Mod_learn_27 : decode mb_Mod_learn 27 = .ok (.getfield 53, 3) := by decide +kernel
theorem md_Mod_learn_30 : decode mb_Mod_learn 30 = .ok (.iload_n 1, 1) := by decide +kernel
theorem md_Mod_learn_31 : decode mb_Mod_learn 31 = .ok (.iload_n 2, 1) := by decide +kernel
theorem md_Mod_learn_32 : decode mb_Mod_learn 32 = .ok (.iload 4, 2) := by decide +kernel
theorem md_Mod_learn_34 : decode mb_Mod_learn 34 = .ok (.invokestatic 172, 3) := by decide +kernel
theorem md_Mod_learn_37 : decode mb_Mod_learn 37 = .ok (.aload_n 0, 1) := by decide +kernel
theorem md_Mod_learn_38 : decode mb_Mod_learn 38 = .ok (.iload_n 2, 1) := by decide +kernel
theorem md_Mod_learn_39 : decode mb_Mod_learn 39 = .ok (.invokevirtual 176, 3) := by decide +kernel
theorem md_Mod_learn_42 : decode mb_Mod_learn 42 = .ok (.if_icmp .lt 11, 3) := by decide +kernel
theorem md_Mod_learn_45 : decode mb_Mod_learn 45 = .ok (.aload_n 0, 1) := by decide +kernel
theorem md_Mod_learn_46 : decode mb_Mod_learn 46 = .ok (.getfield 56, 3) := by decide +kernel
theorem md_Mod_learn_49 : decode mb_Mod_learn 49 = .ok (.iload_n 1, 1) := by decide +kernel
theorem md_Mod_learn_50 : decode mb_Mod_learn 50 = .ok (.iload 4, 2) := by decide +kernel
theorem md_Mod_learn_52 : decode mb_Mod_learn 52 = .ok (.iastore, 1) := by decide +kernel
theorem md_Mod_learn_53 : decode mb_Mod_learn 53 = .ok (.return_, 1) := by decide +kernel
theorem md_Mod_casts_0 : decode mb_Mod_casts 0 = .ok (.iconst 5, 1) := by decide +kernel
theorem md_Mod_casts_1 : decode mb_Mod_casts 1 = .ok (.iload_n 2, 1) := by decide +kernel
theorem md_Mod_casts_2 : decode mb_Mod_casts 2 = .ok (.imul, 1) := by decide +kernel
theorem md_Mod_casts_3 : decode mb_Mod_casts 3 = .ok (.iload_n 1, 1) := by decide +kernel
theorem md_Mod_casts_4 : decode mb_Mod_casts 4 = .ok (.iadd, 1) := by decide +kernel
theorem md_Mod_casts_5 : decode mb_Mod_casts 5 = .ok (.istore 5, 2) := by decide +kernel
theorem md_Mod_casts_7 : decode mb_Mod_casts 7 = .ok (.aload_n 0, 1) := by decide +kernel
theorem md_Mod_casts_8 : decode mb_Mod_casts 8 = .ok (.getfield 38, 3) := by decide +kernel
theorem md_Mod_casts_11 : decode mb_Mod_casts 11 = .ok (.iload 5, 2) := by decide +kernel
theorem md_Mod_casts_13 : decode mb_Mod_casts 13 = .ok (.iload 4, 2) := by decide +kernel
theorem md_Mod_casts_15 : decode mb_Mod_casts 15 = .ok (.iastore, 1) := by decide +kernel
theorem md_Mod_casts_16 : decode mb_Mod_casts 16 = .ok (.aload_n 0, 1) := by decide +kernel
theorem md_Mod_casts_17 : decode mb_Mod_casts 17 = .ok (.getfield 41, 3) := by decide +kernel
theorem md_Mod_casts_20 : decode mb_Mod_casts 20 = .ok (.iload 5, 2) := by decide +kernel
theorem md_Mod_casts_22 : decode mb_Mod_casts 22 = .ok (.iload_n 3, 1) := by decide +kernel
theorem md_Mod_casts_23 : decode mb_Mod_casts 23 = .ok (.iastore, 1) := by decide +kernel
theorem md_Mod_casts_24 : decode mb_Mod_casts 24 = .ok (.aload_n 0, 1) := by decide +kernel
theorem md_Mod_casts_25 : decode mb_Mod_casts 25 = .ok (.getfield 50, 3) := by decide +kernel
theorem md_Mod_casts_28 : decode mb_Mod_casts 28 = .ok (.bipush 65, 2) := by decide +kernel
theorem md_Mod_casts_30 : decode mb_Mod_casts 30 = .ok (.iload_n 2, 1) := by decide +kernel
theorem md_Mod_casts_31 : decode mb_Mod_casts 31 = .ok (.imul, 1) := by decide +kernel
theorem md_Mod_casts_32 : decode mb_Mod_casts 32 = .ok (.iconst 5, 1) := by decide +kernel
theorem md_Mod_casts_33 : decode mb_Mod_casts 33 = .ok (.iload_n 3, 1) := by decide +kernel
theorem md_Mod_casts_34 : decode mb_Mod_casts 34 = .ok (.imul, 1) := by decide +kernel
theorem md_Mod_casts_35 : decode mb_Mod_casts 35 = .ok (.iadd, 1) := by decide +kernel
theorem md_Mod_casts_36 : decode mb_Mod_casts 36 = .ok (.iload_n 1, 1) := by decide +kernel
theorem md_Mod_casts_37 : decode mb_Mod_casts 37 = .ok (.iadd, 1) := by decide +kernel
theorem md_Mod_casts_38 : decode mb_Mod_casts 38 = .ok (.iload 4, 2) := by decide +kernel
theorem md_Mod_casts_40 : decode mb_Mod_casts 40 = .ok (.iastore, 1) := by decide +kernel
theorem md_Mod_casts_41 : decode mb_Mod_casts 41 = .ok (.aload_n 0, 1) := by decide +kernel
theorem md_Mod_casts_42 : decode mb_Mod_casts 42 = .ok (.iconst 5, 1) := by decide +kernel
theorem md_Mod_casts_43 : decode mb_Mod_casts 43 = .ok (.iload_n 2, 1) := by decide +kernel
theorem md_Mod_casts_44 : decode mb_Mod_casts 44 = .ok (.iload_n 3, 1) := by decide +kernel
theorem md_Mod_casts_45 : decode mb_Mod_casts 45 = .ok (.iload_n 1, 1) := by decide +kernel
theorem md_Mod_casts_46 : decode mb_Mod_casts 46 = .ok (.iload_n 3, 1) := by decide +kernel
theorem md_Mod_casts_47 : decode mb_Mod_casts 47 = .ok (.invokestatic 114, 3) := by decide +kernel
theorem md_Mod_casts_50 : decode mb_Mod_casts 50 = .ok (.iload 4, 2) := by decide +kernel
theorem md_Mod_casts_52 : decode mb_Mod_casts 52 = .ok (.iconst 0, 1) := by decide +kernel
theorem md_Mod_casts_53 : decode mb_Mod_casts 53 = .ok (.invokevirtual 97, 3) := by decide +kernel
theorem md_Mod_casts_56 : decode mb_Mod_casts 56 = .ok (.aload_n 0, 1) := by decide +kernel
theorem md_Mod_casts_57 : decode mb_Mod_casts 57 = .ok (.iconst 5, 1) := by decide +kernel
theorem md_Mod_casts_58 : decode mb_Mod_casts 58 = .ok (.iload_n 2, 1) := by decide +kernel
theorem md_Mod_casts_59 : decode mb_Mod_casts 59 = .ok (.iload_n 3, 1) := by decide +kernel
theorem md_Mod_casts_60 : decode mb_Mod_casts 60 = .ok (.iload_n 1, 1) := by decide +kernel
theorem md_Mod_casts_61 : decode mb_Mod_casts 61 = .ok (.bipush 10, 2) := by decide +kernel
theorem md_Mod_casts_63 : decode mb_Mod_casts 63 = .ok (.iload 4, 2) := by decide +kernel
theorem md_Mod_casts_65 : decode mb_Mod_casts 65 = .ok (.iconst 0, 1) := by decide +kernel
theorem md_Mod_casts_66 : decode mb_Mod_casts 66 = .ok (.invokevirtual 97, 3) := by decide +kernel
theorem md_Mod_casts_69 : decode mb_Mod_casts 69 = .ok (.return_, 1) := by decide +kernel
theorem md_Mod_accept_0 : decode mb_Mod_accept 0 = .ok (.iconst 5, 1) := by decide +kernel
theorem md_Mod_accept_1 : decode mb_Mod_accept 1 = .ok (.iload_n 3, 1) := by decide +kernel
theorem md_Mod_accept_2 : decode mb_Mod_accept 2 = .ok (.imul, 1) := by decide +kernel
theorem md_Mod_accept_3 : decode mb_Mod_accept 3 = .ok (.iload_n 1, 1) := by decide +kernel
theorem md_Mod_accept_4 : decode mb_Mod_accept 4 = .ok (.iadd, 1) := by decide +kernel
theorem md_Mod_accept_5 : decode mb_Mod_accept 5 = .ok (.istore 6, 2) := by decide +kernel
theorem md_Mod_accept_7 : decode mb_Mod_accept 7 = .ok (.iload_n 2, 1) := by decide +kernel
theorem md_Mod_accept_8 : decode mb_Mod_accept 8 = .ok (.iconst 2, 1) := by decide +kernel
theorem md_Mod_accept_9 : decode mb_Mod_accept 9 = .ok (.if_icmp .ne 55, 3) := by decide +kernel
theorem md_Mod_accept_12 : decode mb_Mod_accept 12 = .ok (.iload 4, 2) := by decide +kernel
theorem md_Mod_accept_14 : decode mb_Mod_accept 14 = .ok (.aload_n 0, 1) := by decide +kernel
theorem md_Mod_accept_15 : decode mb_Mod_accept 15 = .ok (.getfield 35, 3) := by decide +kernel
theorem md_Mod_accept_18 : decode mb_Mod_accept 18 = .ok (.iload 6, 2) := by decide +kernel
theorem md_Mod_accept_20 : decode mb_Mod_accept 20 = .ok (.iaload, 1) := by decide +kernel
theorem md_Mod_accept_21 : decode mb_Mod_accept 21 = .ok (.if_icmp .le 43, 3) := by decide +kernel
theorem md_Mod_accept_24 : decode mb_Mod_accept 24 = .ok (.aload_n 0, 1) := by decide +kernel
theorem md_Mod_accept_25 : decode mb_Mod_accept 25 = .ok (.getfield 35, 3) := by decide +kernel
theorem md_Mod_accept_28 : decode mb_Mod_accept 28 = .ok (.iload 6, 2) := by decide +kernel
theorem md_Mod_accept_30 : decode mb_Mod_accept 30 = .ok (.iload 4, 2) := by decide +kernel
theorem md_Mod_accept_32 : decode mb_Mod_accept 32 = .ok (.iastore, 1) := by decide +kernel
theorem md_Mod_accept_33 : decode mb_Mod_accept 33 = .ok (.aload_n 0, 1) := by decide +kernel
theorem md_Mod_accept_34 : decode mb_Mod_accept 34 = .ok (.iconst 3, 1) := by decide +kernel
theorem md_Mod_accept_35 : decode mb_Mod_accept 35 = .ok (.iload_n 3, 1) := by decide +kernel
theorem md_Mod_accept_36 : decode mb_Mod_accept 36 = .ok (.iload 4, 2) := by decide +kernel
theorem md_Mod_accept_38 : decode mb_Mod_accept 38 = .ok (.iload_n 1, 1) := by decide +kernel
theorem md_Mod_accept_39 : decode mb_Mod_accept 39 = .ok (.iload 4, 2) := by decide +kernel
theorem md_Mod_accept_41 : decode mb_Mod_accept 41 = .ok (.invokestatic 114, 3) := by decide +kernel
theorem md_Mod_accept_44 : decode mb_Mod_accept 44 = .ok (.aload_n 0, 1) := by decide +kernel
theorem md_Mod_accept_45 : decode mb_Mod_accept 45 = .ok (.getfield 38, 3) := by decide +kernel
theorem md_Mod_accept_48 : decode mb_Mod_accept 48 = .ok (.iload 6, 2) := by decide +kernel
theorem md_Mod_accept_50 : decode mb_Mod_accept 50 = .ok (.iaload, 1) := by decide +kernel
theorem md_Mod_accept_51 : decode mb_Mod_accept 51 = .ok (.aload_n 0, 1) := by decide +kernel
theorem md_Mod_accept_52 : decode mb_Mod_accept 52 = .ok (.getfield 41, 3) := by decide +kernel
theorem md_Mod_accept_55 : decode mb_Mod_accept 55 = .ok (.iload 6, 2) := by decide +kernel
theorem md_Mod_accept_57 : decode mb_Mod_accept 57 = .ok (.iaload, 1) := by decide +kernel
theorem md_Mod_accept_58 : decode mb_Mod_accept 58 = .ok (.invokevirtual 97, 3) := by decide +kernel
theorem md_Mod_accept_61 : decode mb_Mod_accept 61 = .ok (.goto 184, 3) := by decide +kernel
theorem md_Mod_accept_64 : decode mb_Mod_accept 64 = .ok (.iload_n 2, 1) := by decide +kernel
theorem md_Mod_accept_65 : decode mb_Mod_accept 65 = .ok (.iconst 4, 1) := by decide +kernel
theorem md_Mod_accept_66 : decode mb_Mod_accept 66 = .ok (.if_icmp .ne 97, 3) := by decide +kernel
theorem md_Mod_accept_69 : decode mb_Mod_accept 69 = .ok (.iload 4, 2) := by decide +kernel
theorem md_Mod_accept_71 : decode mb_Mod_accept 71 = .ok (.aload_n 0, 1) := by decide +kernel
theorem md_Mod_accept_72 : decode mb_Mod_accept 72 = .ok (.getfield 35, 3) := by decide +kernel
theorem md_Mod_accept_75 : decode mb_Mod_accept 75 = .ok (.iload 6, 2) := by decide +kernel
theorem md_Mod_accept_77 : decode mb_Mod_accept 77 = .ok (.iaload, 1) := by decide +kernel
theorem md_Mod_accept_78 : decode mb_Mod_accept 78 = .ok (.if_icmp .lt 85, 3) := by decide +kernel
theorem md_Mod_accept_81 : decode mb_Mod_accept 81 = .ok (.iload 4, 2) := by decide +kernel
theorem md_Mod_accept_83 : decode mb_Mod_accept 83 = .ok (.aload_n 0, 1) := by decide +kernel
theorem md_Mod_accept_84 : decode mb_Mod_accept 84 = .ok (.getfield 41, 3) := by decide +kernel
theorem md_Mod_accept_87 : decode mb_Mod_accept 87 = .ok (.iload 6, 2) := by decide +kernel
theorem md_Mod_accept_89 : decode mb_Mod_accept 89 = .ok (.iaload, 1) := by decide +kernel
theorem md_Mod_accept_90 : decode mb_Mod_accept 90 = .ok (.if_icmp .le 73, 3) := by decide +kernel
theorem md_Mod_accept_93 : decode mb_Mod_accept 93 = .ok (.aload_n 0, 1) := by decide +kernel
theorem md_Mod_accept_94 : decode mb_Mod_accept 94 = .ok (.getfield 35, 3) := by decide +kernel
theorem md_Mod_accept_97 : decode mb_Mod_accept 97 = .ok (.iload 6, 2) := by decide +kernel
theorem md_Mod_accept_99 : decode mb_Mod_accept 99 = .ok (.iload 4, 2) := by decide +kernel
theorem md_Mod_accept_101 : decode mb_Mod_accept 101 = .ok (.iastore, 1) := by decide +kernel
theorem md_Mod_accept_102 : decode mb_Mod_accept 102 = .ok (.aload_n 0, 1) := by decide +kernel
theorem md_Mod_accept_103 : decode mb_Mod_accept 103 = .ok (.getfield 47, 3) := by decide +kernel
theorem md_Mod_accept_106 : decode mb_Mod_accept 106 = .ok (.iload 6, 2) := by decide +kernel
theorem md_Mod_accept_108 : decode mb_Mod_accept 108 = .ok (.iload 5, 2) := by decide +kernel
theorem md_Mod_accept_110 : decode mb_Mod_accept 110 = .ok (.ifCond .ne 8, 3) := by decide +kernel
theorem md_Mod_accept_113 : decode mb_Mod_accept 113 = .ok (.iload 4, 2) := by decide +kernel
theorem md_Mod_accept_115 : decode mb_Mod_accept 115 = .ok (.goto 10, 3) := by decide +kernel
theorem md_Mod_accept_118 : decode mb_Mod_accept 118 = .ok (.aload_n 0, 1) := by decide +kernel
theorem md_Mod_accept_119 : decode mb_Mod_accept 119 = .ok (.getfield 47, 3) := by decide +kernel
theorem md_Mod_accept_122 : decode mb_Mod_accept 122 = .ok (.iload 6, 2) := by decide +kernel
theorem md_Mod_accept_124 : decode mb_Mod_accept 124 = .ok (.iaload, 1) := by decide +kernel
theorem md_Mod_accept_125 : decode mb_Mod_accept 125 = .ok (.iastore, 1) := by decide +kernel
theorem md_Mod_accept_126 : decode mb_Mod_accept 126 = .ok (.iload 5, 2) := by decide +kernel
theorem md_Mod_accept_128 : decode mb_Mod_accept 128 = .ok (.ifCond .ne 13, 3) := by decide +kernel
theorem md_Mod_accept_131 : decode mb_Mod_accept 131 = .ok (.aload_n 0, 1) := by decide +kernel
theorem md_Mod_accept_132 : decode mb_Mod_accept 132 = .ok (.getfield 44, 3) := by decide +kernel
theorem md_Mod_accept_135 : decode mb_Mod_accept 135 = .ok (.iload 6, 2) := by decide +kernel
theorem md_Mod_accept_137 : decode mb_Mod_accept 137 = .ok (.iaload, 1) := by decide +kernel
theorem md_Mod_accept_138 : decode mb_Mod_accept 138 = .ok (.goto 5, 3) := by decide +kernel
theorem md_Mod_accept_141 : decode mb_Mod_accept 141 = .ok (.iload 5, 2) := by decide +kernel
theorem md_Mod_accept_143 : decode mb_Mod_accept 143 = .ok (.istore 7, 2) := by decide +kernel
theorem md_Mod_accept_145 : decode mb_Mod_accept 145 = .ok (.iload 7, 2) := by decide +kernel
theorem md_Mod_accept_147 : decode mb_Mod_accept 147 = .ok (.ifCond .le 13, 3) := by decide +kernel
theorem md_Mod_accept_150 : decode mb_Mod_accept 150 = .ok (.aload_n 0, 1) := by decide +kernel
theorem md_Mod_accept_151 : decode mb_Mod_accept 151 = .ok (.iload_n 1, 1) := by decide +kernel
theorem md_Mod_accept_152 : decode mb_Mod_accept 152 = .ok (.iload_n 3, 1) := by decide +kernel
theorem md_Mod_accept_153 : decode mb_Mod_accept 153 = .ok (.iload 4, 2) := by decide +kernel
theorem md_Mod_accept_155 : decode mb_Mod_accept 155 = .ok (.iload 7, 2) := by decide +kernel
theorem md_Mod_accept_157 : decode mb_Mod_accept 157 = .ok (.invokevirtual 142, 3) := by decide +kernel
theorem md_Mod_accept_160 : decode mb_Mod_accept 160 = .ok (.goto 85, 3) := by decide +kernel
theorem md_Mod_accept_163 : decode mb_Mod_accept 163 = .ok (.iload_n 2, 1) := by decide +kernel
theorem md_Mod_accept_164 : decode mb_Mod_accept 164 = .ok (.iconst 1, 1) := by decide +kernel
theorem md_Mod_accept_165 : decode mb_Mod_accept 165 = .ok (.if_icmp .ne 80, 3) := by decide +kernel
theorem md_Mod_accept_168 : decode mb_Mod_accept 168 = .ok (.aload_n 0, 1) := by decide +kernel
theorem md_Mod_accept_169 : decode mb_Mod_accept 169 = .ok (.getfield 44, 3) := by decide +kernel
theorem md_Mod_accept_172 : decode mb_Mod_accept 172 = .ok (.iload 6, 2) := by decide +kernel
theorem md_Mod_accept_174 : decode mb_Mod_accept 174 = .ok (.aload_n 0, 1) := by decide +kernel
theorem md_Mod_accept_175 : decode mb_Mod_accept 175 = .ok (.getfield 44, 3) := by decide +kernel
theorem md_Mod_accept_178 : decode mb_Mod_accept 178 = .ok (.iload 6, 2) := by decide +kernel
theorem md_Mod_accept_180 : decode mb_Mod_accept 180 = .ok (.iaload, 1) := by decide +kernel
theorem md_Mod_accept_181 : decode mb_Mod_accept 181 = .ok (.ifCond .ne 8, 3) := by decide +kernel
theorem md_Mod_accept_184 : decode mb_Mod_accept 184 = .ok (.iload 5, 2) := by decide +kernel
theorem md_Mod_accept_186 : decode mb_Mod_accept 186 = .ok (.goto 10, 3) := by decide +kernel
theorem md_Mod_accept_189 : decode mb_Mod_accept 189 = .ok (.aload_n 0, 1) := by decide +kernel
theorem md_Mod_accept_190 : decode mb_Mod_accept 190 = .ok (.getfield 44, 3) := by decide +kernel
theorem md_Mod_accept_193 : decode mb_Mod_accept 193 = .ok (.iload 6, 2) := by decide +kernel
theorem md_Mod_accept_195 : decode mb_Mod_accept 195 = .ok (.iaload, 1) := by decide +kernel
theorem md_Mod_accept_196 : decode mb_Mod_accept 196 = .ok (.iastore, 1) := by decide +kernel
theorem md_Mod_accept_197 : decode mb_Mod_accept 197 = .ok (.aload_n 0, 1) := by decide +kernel
theorem md_Mod_accept_198 : decode mb_Mod_accept 198 = .ok (.getfield 35, 3) := by decide +kernel
theorem md_Mod_accept_201 : decode mb_Mod_accept 201 = .ok (.iload 6, 2) := by decide +kernel
theorem md_Mod_accept_203 : decode mb_Mod_accept 203 = .ok (.iaload, 1) := by decide +kernel
theorem md_Mod_accept_204 : decode mb_Mod_accept 204 = .ok (.istore 7, 2) := by decide +kernel
theorem md_Mod_accept_206 : decode mb_Mod_accept 206 = .ok (.iload 7, 2) := by decide +kernel
theorem md_Mod_accept_208 : decode mb_Mod_accept 208 = .ok (.ifCond .le 37, 3) := by decide +kernel
theorem md_Mod_accept_211 : decode mb_Mod_accept 211 = .ok (.aload_n 0, 1) := by decide +kernel
theorem md_Mod_accept_212 : decode mb_Mod_accept 212 = .ok (.getfield 47, 3) := by decide +kernel
theorem md_Mod_accept_215 : decode mb_Mod_accept 215 = .ok (.iload 6, 2) := by decide +kernel
theorem md_Mod_accept_217 : decode mb_Mod_accept 217 = .ok (.iaload, 1) := by decide +kernel
theorem md_Mod_accept_218 : decode mb_Mod_accept 218 = .ok (.iload 7, 2) := by decide +kernel
theorem md_Mod_accept_220 : decode mb_Mod_accept 220 = .ok (.if_icmp .ne 25, 3) := by decide +kernel
theorem md_Mod_accept_223 : decode mb_Mod_accept 223 = .ok (.aload_n 0, 1) := by decide +kernel
theorem md_Mod_accept_224 : decode mb_Mod_accept 224 = .ok (.getfield 41, 3) := by decide +kernel
theorem md_Mod_accept_227 : decode mb_Mod_accept 227 = .ok (.iload 6, 2) := by decide +kernel
theorem md_Mod_accept_229 : decode mb_Mod_accept 229 = .ok (.iaload, 1) := by decide +kernel
theorem md_Mod_accept_230 : decode mb_Mod_accept 230 = .ok (.iload 7, 2) := by decide +kernel
theorem md_Mod_accept_232 : decode mb_Mod_accept 232 = .ok (.if_icmp .ge 13, 3) := by decide +kernel
theorem md_Mod_accept_235 : decode mb_Mod_accept 235 = .ok (.aload_n 0, 1) := by decide +kernel
theorem md_Mod_accept_236 : decode mb_Mod_accept 236 = .ok (.iload_n 1, 1) := by decide +kernel
theorem md_Mod_accept_237 : decode mb_Mod_accept 237 = .ok (.iload_n 3, 1) := by decide +kernel
theorem md_Mod_accept_238 : decode mb_Mod_accept 238 = .ok (.iload 7, 2) := by decide +kernel
theorem md_Mod_accept_240 : decode mb_Mod_accept 240 = .ok (.iload 5, 2) := by decide +kernel
theorem md_Mod_accept_242 : decode mb_Mod_accept 242 = .ok (.invokevirtual 142, 3) := by decide +kernel
theorem md_Mod_accept_245 : decode mb_Mod_accept 245 = .ok (.return_, 1) := by decide +kernel
theorem md_Mod_pick_0 : decode mb_Mod_pick 0 = .ok (.iconst 0, 1) := by decide +kernel
theorem md_Mod_pick_1 : decode mb_Mod_pick 1 = .ok (.istore_n 2, 1) := by decide +kernel
theorem md_Mod_pick_2 : decode mb_Mod_pick 2 = .ok (.iconst 0, 1) := by decide +kernel
theorem md_Mod_pick_3 : decode mb_Mod_pick 3 = .ok (.istore_n 3, 1) := by decide +kernel
theorem md_Mod_pick_4 : decode mb_Mod_pick 4 = .ok (.iload_n 3, 1) := by decide +kernel
theorem md_Mod_pick_5 : decode mb_Mod_pick 5 = .ok (.aload_n 0, 1) := by decide +kernel
theorem md_Mod_pick_6 : decode mb_Mod_pick 6 = .ok (.getfield 77, 3) := by decide +kernel
theorem md_Mod_pick_9 : decode mb_Mod_pick 9 = .ok (.if_icmp .ge 51, 3) := by decide +kernel
theorem md_Mod_pick_12 : decode mb_Mod_pick 12 = .ok (.aload_n 0, 1) := by decide +kernel
theorem md_Mod_pick_13 : decode mb_Mod_pick 13 = .ok (.getfield 68, 3) := by decide +kernel
theorem md_Mod_pick_16 : decode mb_Mod_pick 16 = .ok (.iconst 5, 1) := by decide +kernel
theorem md_Mod_pick_17 : decode mb_Mod_pick 17 = .ok (.iload_n 1, 1) := by decide +kernel
theorem md_Mod_pick_18 : decode mb_Mod_pick 18 = .ok (.imul, 1) := by decide +kernel
theorem md_Mod_pick_19 : decode mb_Mod_pick 19 = .ok (.iload_n 3, 1) := by decide +kernel
theorem md_Mod_pick_20 : decode mb_Mod_pick 20 = .ok (.iadd, 1) := by decide +kernel
theorem md_Mod_pick_21 : decode mb_Mod_pick 21 = .ok (.baload, 1) := by decide +kernel
theorem md_Mod_pick_22 : decode mb_Mod_pick 22 = .ok (.ifCond .eq 30, 3) := by decide +kernel
theorem md_Mod_pick_25 : decode mb_Mod_pick 25 = .ok (.aload_n 0, 1) := by decide +kernel
theorem md_Mod_pick_26 : decode mb_Mod_pick 26 = .ok (.getfield 74, 3) := by decide +kernel
theorem md_Mod_pick_29 : decode mb_Mod_pick 29 = .ok (.iconst 5, 1) := by decide +kernel
theorem md_Mod_pick_30 : decode mb_Mod_pick 30 = .ok (.iload_n 1, 1) := by decide +kernel
theorem md_Mod_pick_31 : decode mb_Mod_pick 31 = .ok (.imul, 1) := by decide +kernel
theorem md_Mod_pick_32 : decode mb_Mod_pick 32 = .ok (.iload_n 3, 1) := by decide +kernel
theorem md_Mod_pick_33 : decode mb_Mod_pick 33 = .ok (.iadd, 1) := by decide +kernel
theorem md_Mod_pick_34 : decode mb_Mod_pick 34 = .ok (.iaload, 1) := by decide +kernel
theorem md_Mod_pick_35 : decode mb_Mod_pick 35 = .ok (.iload_n 2, 1) := by decide +kernel
theorem md_Mod_pick_36 : decode mb_Mod_pick 36 = .ok (.if_icmp .le 16, 3) := by decide +kernel
theorem md_Mod_pick_39 : decode mb_Mod_pick 39 = .ok (.aload_n 0, 1) := by decide +kernel
theorem md_Mod_pick_40 : decode mb_Mod_pick 40 = .ok (.getfield 74, 3) := by decide +kernel
theorem md_Mod_pick_43 : decode mb_Mod_pick 43 = .ok (.iconst 5, 1) := by decide +kernel
theorem md_Mod_pick_44 : decode mb_Mod_pick 44 = .ok (.iload_n 1, 1) := by decide +kernel
theorem md_Mod_pick_45 : decode mb_Mod_pick 45 = .ok (.imul, 1) := by decide +kernel
theorem md_Mod_pick_46 : decode mb_Mod_pick 46 = .ok (.iload_n 3, 1) := by decide +kernel
theorem md_Mod_pick_47 : decode mb_Mod_pick 47 = .ok (.iadd, 1) := by decide +kernel
theorem md_Mod_pick_48 : decode mb_Mod_pick 48 = .ok (.iaload, 1) := by decide +kernel
theorem md_Mod_pick_49 : decode mb_Mod_pick 49 = .ok (.goto 4, 3) := by decide +kernel
theorem md_Mod_pick_52 : decode mb_Mod_pick 52 = .ok (.iload_n 2, 1) := by decide +kernel
theorem md_Mod_pick_53 : decode mb_Mod_pick 53 = .ok (.istore_n 2, 1) := by decide +kernel
theorem md_Mod_pick_54 : decode mb_Mod_pick 54 = .ok (.iinc 3 1, 3) := by decide +kernel
theorem md_Mod_pick_57 : decode mb_Mod_pick 57 = .ok (.goto (-53), 3) := by decide +kernel
theorem md_Mod_pick_60 : decode mb_Mod_pick 60 = .ok (.iload_n 2, 1) := by decide +kernel
theorem md_Mod_pick_61 : decode mb_Mod_pick 61 = .ok (.ifCond .ne 5, 3) := by decide +kernel
theorem md_Mod_pick_64 : decode mb_Mod_pick 64 = .ok (.iconst 0, 1) := by decide +kernel
theorem md_Mod_pick_65 : decode mb_Mod_pick 65 = .ok (.ireturn, 1) := by decide +kernel
theorem md_Mod_pick_66 : decode mb_Mod_pick 66 = .ok (.aload_n 0, 1) := by decide +kernel
theorem md_Mod_pick_67 : decode mb_Mod_pick 67 = .ok (.iload_n 1, 1) := by decide +kernel
theorem md_Mod_pick_68 : decode mb_Mod_pick 68 = .ok (.invokevirtual 149, 3) := by decide +kernel
theorem md_Mod_pick_71 : decode mb_Mod_pick 71 = .ok (.istore_n 3, 1) := by decide +kernel
theorem md_Mod_pick_72 : decode mb_Mod_pick 72 = .ok (.iconst 0, 1) := by decide +kernel
theorem md_Mod_pick_73 : decode mb_Mod_pick 73 = .ok (.istore 4, 2) := by decide +kernel
theorem md_Mod_pick_75 : decode mb_Mod_pick 75 = .ok (.iconst 0, 1) := by decide +kernel
theorem md_Mod_pick_76 : decode mb_Mod_pick 76 = .ok (.istore 5, 2) := by decide +kernel
theorem md_Mod_pick_78 : decode mb_Mod_pick 78 = .ok (.iload 5, 2) := by decide +kernel
theorem md_Mod_pick_80 : decode mb_Mod_pick 80 = .ok (.aload_n 0, 1) := by decide +kernel
theorem md_Mod_pick_81 : decode mb_Mod_pick 81 = .ok (.getfield 77, 3) := by decide +kernel
theorem md_Mod_pick_84 : decode mb_Mod_pick 84 = .ok (.if_icmp .ge 96, 3) := by decide +kernel
theorem md_Mod_pick_87 : decode mb_Mod_pick 87 = .ok (.aload_n 0, 1) := by decide +kernel
theorem md_Mod_pick_88 : decode mb_Mod_pick 88 = .ok (.getfield 68, 3) := by decide +kernel
theorem md_Mod_pick_91 : decode mb_Mod_pick 91 = .ok (.iconst 5, 1) := by decide +kernel
theorem md_Mod_pick_92 : decode mb_Mod_pick 92 = .ok (.iload_n 1, 1) := by decide +kernel
theorem md_Mod_pick_93 : decode mb_Mod_pick 93 = .ok (.imul, 1) := by decide +kernel
theorem md_Mod_pick_94 : decode mb_Mod_pick 94 = .ok (.iload 5, 2) := by decide +kernel
theorem md_Mod_pick_96 : decode mb_Mod_pick 96 = .ok (.iadd, 1) := by decide +kernel
theorem md_Mod_pick_97 : decode mb_Mod_pick 97 = .ok (.baload, 1) := by decide +kernel
theorem md_Mod_pick_98 : decode mb_Mod_pick 98 = .ok (.ifCond .eq 22, 3) := by decide +kernel
theorem md_Mod_pick_101 : decode mb_Mod_pick 101 = .ok (.aload_n 0, 1) := by decide +kernel
theorem md_Mod_pick_102 : decode mb_Mod_pick 102 = .ok (.getfield 74, 3) := by decide +kernel
theorem md_Mod_pick_105 : decode mb_Mod_pick 105 = .ok (.iconst 5, 1) := by decide +kernel
theorem md_Mod_pick_106 : decode mb_Mod_pick 106 = .ok (.iload_n 1, 1) := by decide +kernel
theorem md_Mod_pick_107 : decode mb_Mod_pick 107 = .ok (.imul, 1) := by decide +kernel
theorem md_Mod_pick_108 : decode mb_Mod_pick 108 = .ok (.iload 5, 2) := by decide +kernel
theorem md_Mod_pick_110 : decode mb_Mod_pick 110 = .ok (.iadd, 1) := by decide +kernel
theorem md_Mod_pick_111 : decode mb_Mod_pick 111 = .ok (.iaload, 1) := by decide +kernel
theorem md_Mod_pick_112 : decode mb_Mod_pick 112 = .ok (.iload_n 2, 1) := by decide +kernel
theorem md_Mod_pick_113 : decode mb_Mod_pick 113 = .ok (.if_icmp .ne 7, 3) := by decide +kernel
theorem md_Mod_pick_116 : decode mb_Mod_pick 116 = .ok (.iconst 1, 1) := by decide +kernel
theorem md_Mod_pick_117 : decode mb_Mod_pick 117 = .ok (.goto 4, 3) := by decide +kernel
theorem md_Mod_pick_120 : decode mb_Mod_pick 120 = .ok (.iconst 0, 1) := by decide +kernel
theorem md_Mod_pick_121 : decode mb_Mod_pick 121 = .ok (.istore 6, 2) := by decide +kernel
theorem md_Mod_pick_123 : decode mb_Mod_pick 123 = .ok (.aload_n 0, 1) := by decide +kernel
theorem md_Mod_pick_124 : decode mb_Mod_pick 124 = .ok (.getfield 71, 3) := by decide +kernel
theorem md_Mod_pick_127 : decode mb_Mod_pick 127 = .ok (.iconst 5, 1) := by decide +kernel
theorem md_Mod_pick_128 : decode mb_Mod_pick 128 = .ok (.iload_n 1, 1) := by decide +kernel
theorem md_Mod_pick_129 : decode mb_Mod_pick 129 = .ok (.imul, 1) := by decide +kernel
theorem md_Mod_pick_130 : decode mb_Mod_pick 130 = .ok (.iload 5, 2) := by decide +kernel
theorem md_Mod_pick_132 : decode mb_Mod_pick 132 = .ok (.iadd, 1) := by decide +kernel
theorem md_Mod_pick_133 : decode mb_Mod_pick 133 = .ok (.iaload, 1) := by decide +kernel
theorem md_Mod_pick_134 : decode mb_Mod_pick 134 = .ok (.istore 7, 2) := by decide +kernel
theorem md_Mod_pick_136 : decode mb_Mod_pick 136 = .ok (.iload 6, 2) := by decide +kernel
theorem md_Mod_pick_138 : decode mb_Mod_pick 138 = .ok (.ifCond .eq 36, 3) := by decide +kernel
theorem md_Mod_pick_141 : decode mb_Mod_pick 141 = .ok (.iload_n 2, 1) := by decide +kernel
theorem md_Mod_pick_142 : decode mb_Mod_pick 142 = .ok (.invokestatic 87, 3) := by decide +kernel
theorem md_Mod_pick_145 : decode mb_Mod_pick 145 = .ok (.ifCond .eq 25, 3) := by decide +kernel
theorem md_Mod_pick_148 : decode mb_Mod_pick 148 = .ok (.iload_n 3, 1) := by decide +kernel
theorem md_Mod_pick_149 : decode mb_Mod_pick 149 = .ok (.aload_n 0, 1) := by decide +kernel
theorem md_Mod_pick_150 : decode mb_Mod_pick 150 = .ok (.iload_n 1, 1) := by decide +kernel
theorem md_Mod_pick_151 : decode mb_Mod_pick 151 = .ok (.iload_n 2, 1) := by decide +kernel
theorem md_Mod_pick_152 : decode mb_Mod_pick 152 = .ok (.iload 7, 2) := by decide +kernel
theorem md_Mod_pick_154 : decode mb_Mod_pick 154 = .ok (.invokevirtual 145, 3) := by decide +kernel
theorem md_Mod_pick_157 : decode mb_Mod_pick 157 = .ok (.isub, 1) := by decide +kernel
theorem md_Mod_pick_158 : decode mb_Mod_pick 158 = .ok (.aload_n 0, 1) := by decide +kernel
theorem md_Mod_pick_159 : decode mb_Mod_pick 159 = .ok (.getfield 77, 3) := by decide +kernel
theorem md_Mod_pick_162 : decode mb_Mod_pick 162 = .ok (.aload_n 0, 1) := by decide +kernel
theorem md_Mod_pick_163 : decode mb_Mod_pick 163 = .ok (.getfield 84, 3) := by decide +kernel
theorem md_Mod_pick_166 : decode mb_Mod_pick 166 = .ok (.isub, 1) := by decide +kernel
theorem md_Mod_pick_167 : decode mb_Mod_pick 167 = .ok (.if_icmp .gt 7, 3) := by decide +kernel
theorem md_Mod_pick_170 : decode mb_Mod_pick 170 = .ok (.iload 7, 2) := by decide +kernel
theorem md_Mod_pick_172 : decode mb_Mod_pick 172 = .ok (.istore 4, 2) := by decide +kernel
theorem md_Mod_pick_174 : decode mb_Mod_pick 174 = .ok (.iinc 5 1, 3) := by decide +kernel
theorem md_Mod_pick_177 : decode mb_Mod_pick 177 = .ok (.goto (-99), 3) := by decide +kernel
theorem md_Mod_pick_180 : decode mb_Mod_pick 180 = .ok (.iload 4, 2) := by decide +kernel
theorem md_Mod_pick_182 : decode mb_Mod_pick 182 = .ok (.ifCond .le 8, 3) := by decide +kernel
theorem md_Mod_pick_185 : decode mb_Mod_pick 185 = .ok (.iload 4, 2) := by decide +kernel
theorem md_Mod_pick_187 : decode mb_Mod_pick 187 = .ok (.goto 9, 3) := by decide +kernel
theorem md_Mod_pick_190 : decode mb_Mod_pick 190 = .ok (.aload_n 0, 1) := by decide +kernel
theorem md_Mod_pick_191 : decode mb_Mod_pick 191 = .ok (.iload_n 1, 1) := by decide +kernel
theorem md_Mod_pick_192 : decode mb_Mod_pick 192 = .ok (.iload_n 2, 1) := by decide +kernel
theorem md_Mod_pick_193 : decode mb_Mod_pick 193 = .ok (.invokevirtual 152, 3) := by decide +kernel
theorem md_Mod_pick_196 : decode mb_Mod_pick 196 = .ok (.ireturn, 1) := by decide +kernel
theorem md_Mod_coordinate_0 : decode mb_Mod_coordinate 0 = .ok (.iconst 3, 1) := by decide +kernel
theorem md_Mod_coordinate_1 : decode mb_Mod_coordinate 1 = .ok (.iload_n 1, 1) := by decide +kernel
theorem md_Mod_coordinate_2 : decode mb_Mod_coordinate 2 = .ok (.bipush 8, 2) := by decide +kernel
theorem md_Mod_coordinate_4 : decode mb_Mod_coordinate 4 = .ok (.isub, 1) := by decide +kernel
theorem md_Mod_coordinate_5 : decode mb_Mod_coordinate 5 = .ok (.imul, 1) := by decide +kernel
theorem md_Mod_coordinate_6 : decode mb_Mod_coordinate 6 = .ok (.iload_n 3, 1) := by decide +kernel
theorem md_Mod_coordinate_7 : decode mb_Mod_coordinate 7 = .ok (.iadd, 1) := by decide +kernel
theorem md_Mod_coordinate_8 : decode mb_Mod_coordinate 8 = .ok (.istore 8, 2) := by decide +kernel
theorem md_Mod_coordinate_10 : decode mb_Mod_coordinate 10 = .ok (.iload_n 2, 1) := by decide +kernel
theorem md_Mod_coordinate_11 : decode mb_Mod_coordinate 11 = .ok (.iconst 1, 1) := by decide +kernel
theorem md_Mod_coordinate_12 : decode mb_Mod_coordinate 12 = .ok (.if_icmp .ne 60, 3) := by decide +kernel
theorem md_Mod_coordinate_15 : decode mb_Mod_coordinate 15 = .ok (.aload_n 0, 1) := by decide +kernel
theorem md_Mod_coordinate_16 : decode mb_Mod_coordinate 16 = .ok (.getfield 65, 3) := by decide +kernel
theorem md_Mod_coordinate_19 : decode mb_Mod_coordinate 19 = .ok (.iload 8, 2) := by decide +kernel
theorem md_Mod_coordinate_21 : decode mb_Mod_coordinate 21 = .ok (.aload_n 0, 1) := by decide +kernel
theorem md_Mod_coordinate_22 : decode mb_Mod_coordinate 22 = .ok (.getfield 65, 3) := by decide +kernel
theorem md_Mod_coordinate_25 : decode mb_Mod_coordinate 25 = .ok (.iload 8, 2) := by decide +kernel
theorem md_Mod_coordinate_27 : decode mb_Mod_coordinate 27 = .ok (.iaload, 1) := by decide +kernel
theorem md_Mod_coordinate_28 : decode mb_Mod_coordinate 28 = .ok (.ifCond .ne 8, 3) := by decide +kernel
theorem md_Mod_coordinate_31 : decode mb_Mod_coordinate 31 = .ok (.iload 6, 2) := by decide +kernel
theorem md_Mod_coordinate_33 : decode mb_Mod_coordinate 33 = .ok (.goto 10, 3) := by decide +kernel
theorem md_Mod_coordinate_36 : decode mb_Mod_coordinate 36 = .ok (.aload_n 0, 1) := by decide +kernel
theorem md_Mod_coordinate_37 : decode mb_Mod_coordinate 37 = .ok (.getfield 65, 3) := by decide +kernel
theorem md_Mod_coordinate_40 : decode mb_Mod_coordinate 40 = .ok (.iload 8, 2) := by decide +kernel
theorem md_Mod_coordinate_42 : decode mb_Mod_coordinate 42 = .ok (.iaload, 1) := by decide +kernel
theorem md_Mod_coordinate_43 : decode mb_Mod_coordinate 43 = .ok (.iastore, 1) := by decide +kernel
theorem md_Mod_coordinate_44 : decode mb_Mod_coordinate 44 = .ok (.aload_n 0, 1) := by decide +kernel
theorem md_Mod_coordinate_45 : decode mb_Mod_coordinate 45 = .ok (.getfield 62, 3) := by decide +kernel
theorem md_Mod_coordinate_48 : decode mb_Mod_coordinate 48 = .ok (.iload 8, 2) := by decide +kernel
theorem md_Mod_coordinate_50 : decode mb_Mod_coordinate 50 = .ok (.iaload, 1) := by decide +kernel
theorem md_Mod_coordinate_51 : decode mb_Mod_coordinate 51 = .ok (.iconst 2, 1) := by decide +kernel
theorem md_Mod_coordinate_52 : decode mb_Mod_coordinate 52 = .ok (.if_icmp .ne 140, 3) := by decide +kernel
theorem md_Mod_coordinate_55 : decode mb_Mod_coordinate 55 = .ok (.aload_n 0, 1) := by decide +kernel
theorem md_Mod_coordinate_56 : decode mb_Mod_coordinate 56 = .ok (.iload 8, 2) := by decide +kernel
theorem md_Mod_coordinate_58 : decode mb_Mod_coordinate 58 = .ok (.iload_n 3, 1) := by decide +kernel
theorem md_Mod_coordinate_59 : decode mb_Mod_coordinate 59 = .ok (.aload_n 0, 1) := by decide +kernel
theorem md_Mod_coordinate_60 : decode mb_Mod_coordinate 60 = .ok (.getfield 65, 3) := by decide +kernel
theorem md_Mod_coordinate_63 : decode mb_Mod_coordinate 63 = .ok (.iload 8, 2) := by decide +kernel
theorem md_Mod_coordinate_65 : decode mb_Mod_coordinate 65 = .ok (.iaload, 1) := by decide +kernel
theorem md_Mod_coordinate_66 : decode mb_Mod_coordinate 66 = .ok (.invokevirtual 156, 3) := by decide +kernel
theorem md_Mod_coordinate_69 : decode mb_Mod_coordinate 69 = .ok (.goto 123, 3) := by decide +kernel
theorem md_Mod_coordinate_72 : decode mb_Mod_coordinate 72 = .ok (.iload_n 2, 1) := by decide +kernel
theorem md_Mod_coordinate_73 : decode mb_Mod_coordinate 73 = .ok (.iconst 3, 1) := by decide +kernel
theorem md_Mod_coordinate_74 : decode mb_Mod_coordinate 74 = .ok (.if_icmp .ne 61, 3) := by decide +kernel
theorem md_Mod_coordinate_77 : decode mb_Mod_coordinate 77 = .ok (.aload_n 0, 1) := by decide +kernel
theorem md_Mod_coordinate_78 : decode mb_Mod_coordinate 78 = .ok (.getfield 59, 3) := by decide +kernel
theorem md_Mod_coordinate_81 : decode mb_Mod_coordinate 81 = .ok (.iload 8, 2) := by decide +kernel
theorem md_Mod_coordinate_83 : decode mb_Mod_coordinate 83 = .ok (.iaload, 1) := by decide +kernel
theorem md_Mod_coordinate_84 : decode mb_Mod_coordinate 84 = .ok (.iload 4, 2) := by decide +kernel
theorem md_Mod_coordinate_86 : decode mb_Mod_coordinate 86 = .ok (.if_icmp .ne 49, 3) := by decide +kernel
theorem md_Mod_coordinate_89 : decode mb_Mod_coordinate 89 = .ok (.aload_n 0, 1) := by decide +kernel
theorem md_Mod_coordinate_90 : decode mb_Mod_coordinate 90 = .ok (.getfield 62, 3) := by decide +kernel
theorem md_Mod_coordinate_93 : decode mb_Mod_coordinate 93 = .ok (.iload 8, 2) := by decide +kernel
theorem md_Mod_coordinate_95 : decode mb_Mod_coordinate 95 = .ok (.iaload, 1) := by decide +kernel
theorem md_Mod_coordinate_96 : decode mb_Mod_coordinate 96 = .ok (.iconst 1, 1) := by decide +kernel
theorem md_Mod_coordinate_97 : decode mb_Mod_coordinate 97 = .ok (.if_icmp .ne 38, 3) := by decide +kernel
theorem md_Mod_coordinate_100 : decode mb_Mod_coordinate 100 = .ok (.aload_n 0, 1) := by decide +kernel
theorem md_Mod_coordinate_101 : decode mb_Mod_coordinate 101 = .ok (.iload 8, 2) := by decide +kernel
theorem md_Mod_coordinate_103 : decode mb_Mod_coordinate 103 = .ok (.iload 5, 2) := by decide +kernel
theorem md_Mod_coordinate_105 : decode mb_Mod_coordinate 105 = .ok (.iload 6, 2) := by decide +kernel
theorem md_Mod_coordinate_107 : decode mb_Mod_coordinate 107 = .ok (.iload 7, 2) := by decide +kernel
theorem md_Mod_coordinate_109 : decode mb_Mod_coordinate 109 = .ok (.invokevirtual 159, 3) := by decide +kernel
theorem md_Mod_coordinate_112 : decode mb_Mod_coordinate 112 = .ok (.aload_n 0, 1) := by decide +kernel
theorem md_Mod_coordinate_113 : decode mb_Mod_coordinate 113 = .ok (.iload 8, 2) := by decide +kernel
theorem md_Mod_coordinate_115 : decode mb_Mod_coordinate 115 = .ok (.invokevirtual 149, 3) := by decide +kernel
theorem md_Mod_coordinate_118 : decode mb_Mod_coordinate 118 = .ok (.aload_n 0, 1) := by decide +kernel
theorem md_Mod_coordinate_119 : decode mb_Mod_coordinate 119 = .ok (.getfield 81, 3) := by decide +kernel
theorem md_Mod_coordinate_122 : decode mb_Mod_coordinate 122 = .ok (.if_icmp .ne 70, 3) := by decide +kernel
theorem md_Mod_coordinate_125 : decode mb_Mod_coordinate 125 = .ok (.aload_n 0, 1) := by decide +kernel
theorem md_Mod_coordinate_126 : decode mb_Mod_coordinate 126 = .ok (.iload 8, 2) := by decide +kernel
theorem md_Mod_coordinate_128 : decode mb_Mod_coordinate 128 = .ok (.iload_n 3, 1) := by decide +kernel
theorem md_Mod_coordinate_129 : decode mb_Mod_coordinate 129 = .ok (.invokevirtual 162, 3) := by decide +kernel
theorem md_Mod_coordinate_132 : decode mb_Mod_coordinate 132 = .ok (.goto 60, 3) := by decide +kernel
theorem md_Mod_coordinate_135 : decode mb_Mod_coordinate 135 = .ok (.iload_n 2, 1) := by decide +kernel
theorem md_Mod_coordinate_136 : decode mb_Mod_coordinate 136 = .ok (.iconst 5, 1) := by decide +kernel
theorem md_Mod_coordinate_137 : decode mb_Mod_coordinate 137 = .ok (.if_icmp .ne 55, 3) := by decide +kernel
theorem md_Mod_coordinate_140 : decode mb_Mod_coordinate 140 = .ok (.aload_n 0, 1) := by decide +kernel
theorem md_Mod_coordinate_141 : decode mb_Mod_coordinate 141 = .ok (.getfield 59, 3) := by decide +kernel
theorem md_Mod_coordinate_144 : decode mb_Mod_coordinate 144 = .ok (.iload 8, 2) := by decide +kernel
theorem md_Mod_coordinate_146 : decode mb_Mod_coordinate 146 = .ok (.iaload, 1) := by decide +kernel
theorem md_Mod_coordinate_147 : decode mb_Mod_coordinate 147 = .ok (.iload 4, 2) := by decide +kernel
theorem md_Mod_coordinate_149 : decode mb_Mod_coordinate 149 = .ok (.if_icmp .ne 43, 3) := by decide +kernel
theorem md_Mod_coordinate_152 : decode mb_Mod_coordinate 152 = .ok (.iload 4, 2) := by decide +kernel
theorem md_Mod_coordinate_154 : decode mb_Mod_coordinate 154 = .ok (.invokestatic 87, 3) := by decide +kernel
theorem md_Mod_coordinate_157 : decode mb_Mod_coordinate 157 = .ok (.ifCond .eq 35, 3) := by decide +kernel
theorem md_Mod_coordinate_160 : decode mb_Mod_coordinate 160 = .ok (.aload_n 0, 1) := by decide +kernel
theorem md_Mod_coordinate_161 : decode mb_Mod_coordinate 161 = .ok (.getfield 62, 3) := by decide +kernel
theorem md_Mod_coordinate_164 : decode mb_Mod_coordinate 164 = .ok (.iload 8, 2) := by decide +kernel
theorem md_Mod_coordinate_166 : decode mb_Mod_coordinate 166 = .ok (.iaload, 1) := by decide +kernel
theorem md_Mod_coordinate_167 : decode mb_Mod_coordinate 167 = .ok (.iconst 3, 1) := by decide +kernel
theorem md_Mod_coordinate_168 : decode mb_Mod_coordinate 168 = .ok (.if_icmp .ne 24, 3) := by decide +kernel
theorem md_Mod_coordinate_171 : decode mb_Mod_coordinate 171 = .ok (.aload_n 0, 1) := by decide +kernel
theorem md_Mod_coordinate_172 : decode mb_Mod_coordinate 172 = .ok (.iload 8, 2) := by decide +kernel
theorem md_Mod_coordinate_174 : decode mb_Mod_coordinate 174 = .ok (.iload 5, 2) := by decide +kernel
theorem md_Mod_coordinate_176 : decode mb_Mod_coordinate 176 = .ok (.iload 6, 2) := by decide +kernel
theorem md_Mod_coordinate_178 : decode mb_Mod_coordinate 178 = .ok (.iload 4, 2) := by decide +kernel
theorem md_Mod_coordinate_180 : decode mb_Mod_coordinate 180 = .ok (.invokevirtual 159, 3) := by decide +kernel
theorem md_Mod_coordinate_183 : decode mb_Mod_coordinate 183 = .ok (.aload_n 0, 1) := by decide +kernel
theorem md_Mod_coordinate_184 : decode mb_Mod_coordinate 184 = .ok (.iload 8, 2) := by decide +kernel
theorem md_Mod_coordinate_186 : decode mb_Mod_coordinate 186 = .ok (.iload_n 3, 1) := by decide +kernel
theorem md_Mod_coordinate_187 : decode mb_Mod_coordinate 187 = .ok (.iload 4, 2) := by decide +kernel
theorem md_Mod_coordinate_189 : decode mb_Mod_coordinate 189 = .ok (.invokevirtual 166, 3) := by decide +kernel
theorem md_Mod_coordinate_192 : decode mb_Mod_coordinate 192 = .ok (.return_, 1) := by decide +kernel
theorem md_Mod_go_0 : decode mb_Mod_go 0 = .ok (.aload_n 0, 1) := by decide +kernel
theorem md_Mod_go_1 : decode mb_Mod_go 1 = .ok (.iload_n 1, 1) := by decide +kernel
theorem md_Mod_go_2 : decode mb_Mod_go 2 = .ok (.invokevirtual 169, 3) := by decide +kernel
theorem md_Mod_go_5 : decode mb_Mod_go 5 = .ok (.istore_n 3, 1) := by decide +kernel
theorem md_Mod_go_6 : decode mb_Mod_go 6 = .ok (.aload_n 0, 1) := by decide +kernel
theorem md_Mod_go_7 : decode mb_Mod_go 7 = .ok (.getfield 59, 3) := by decide +kernel
theorem md_Mod_go_10 : decode mb_Mod_go 10 = .ok (.iload_n 1, 1) := by decide +kernel
theorem md_Mod_go_11 : decode mb_Mod_go 11 = .ok (.iaload, 1) := by decide +kernel
theorem md_Mod_go_12 : decode mb_Mod_go 12 = .ok (.istore 4, 2) := by decide +kernel
theorem md_Mod_go_14 : decode mb_Mod_go 14 = .ok (.aload_n 0, 1) := by decide +kernel
theorem md_Mod_go_15 : decode mb_Mod_go 15 = .ok (.iload_n 1, 1) := by decide +kernel
theorem md_Mod_go_16 : decode mb_Mod_go 16 = .ok (.iload 4, 2) := by decide +kernel
theorem md_Mod_go_18 : decode mb_Mod_go 18 = .ok (.iconst 2, 1) := by decide +kernel
theorem md_Mod_go_19 : decode mb_Mod_go 19 = .ok (.invokevirtual 118, 3) := by decide +kernel
theorem md_Mod_go_22 : decode mb_Mod_go 22 = .ok (.iload_n 3, 1) := by decide +kernel
theorem md_Mod_go_23 : decode mb_Mod_go 23 = .ok (.ifCond .le 13, 3) := by decide +kernel
theorem md_Mod_go_26 : decode mb_Mod_go 26 = .ok (.aload_n 0, 1) := by decide +kernel
theorem md_Mod_go_27 : decode mb_Mod_go 27 = .ok (.iload_n 1, 1) := by decide +kernel
theorem md_Mod_go_28 : decode mb_Mod_go 28 = .ok (.iload_n 2, 1) := by decide +kernel
theorem md_Mod_go_29 : decode mb_Mod_go 29 = .ok (.iload_n 3, 1) := by decide +kernel
theorem md_Mod_go_30 : decode mb_Mod_go 30 = .ok (.invokevirtual 156, 3) := by decide +kernel
theorem md_Mod_go_33 : decode mb_Mod_go 33 = .ok (.goto 42, 3) := by decide +kernel
theorem md_Mod_go_36 : decode mb_Mod_go 36 = .ok (.iload 4, 2) := by decide +kernel
theorem md_Mod_go_38 : decode mb_Mod_go 38 = .ok (.invokestatic 87, 3) := by decide +kernel
theorem md_Mod_go_41 : decode mb_Mod_go 41 = .ok (.ifCond .eq 13, 3) := by decide +kernel
theorem md_Mod_go_44 : decode mb_Mod_go 44 = .ok (.aload_n 0, 1) := by decide +kernel
theorem md_Mod_go_45 : decode mb_Mod_go 45 = .ok (.iload_n 1, 1) := by decide +kernel
theorem md_Mod_go_46 : decode mb_Mod_go 46 = .ok (.iload_n 2, 1) := by decide +kernel
theorem md_Mod_go_47 : decode mb_Mod_go 47 = .ok (.iconst 0, 1) := by decide +kernel
theorem md_Mod_go_48 : decode mb_Mod_go 48 = .ok (.invokevirtual 156, 3) := by decide +kernel
theorem md_Mod_go_51 : decode mb_Mod_go 51 = .ok (.goto 24, 3) := by decide +kernel
theorem md_Mod_go_54 : decode mb_Mod_go 54 = .ok (.aload_n 0, 1) := by decide +kernel
theorem md_Mod_go_55 : decode mb_Mod_go 55 = .ok (.getfield 65, 3) := by decide +kernel
theorem md_Mod_go_58 : decode mb_Mod_go 58 = .ok (.iload_n 1, 1) := by decide +kernel
theorem md_Mod_go_59 : decode mb_Mod_go 59 = .ok (.iaload, 1) := by decide +kernel
theorem md_Mod_go_60 : decode mb_Mod_go 60 = .ok (.ifCond .le 15, 3) := by decide +kernel
theorem md_Mod_go_63 : decode mb_Mod_go 63 = .ok (.aload_n 0, 1) := by decide +kernel
theorem md_Mod_go_64 : decode mb_Mod_go 64 = .ok (.iload_n 1, 1) := by decide +kernel
theorem md_Mod_go_65 : decode mb_Mod_go 65 = .ok (.iload_n 2, 1) := by decide +kernel
theorem md_Mod_go_66 : decode mb_Mod_go 66 = .ok (.aload_n 0, 1) := by decide +kernel
theorem md_Mod_go_67 : decode mb_Mod_go 67 = .ok (.getfield 65, 3) := by decide +kernel
theorem md_Mod_go_70 : decode mb_Mod_go 70 = .ok (.iload_n 1, 1) := by decide +kernel
theorem md_Mod_go_71 : decode mb_Mod_go 71 = .ok (.iaload, 1) := by decide +kernel
theorem md_Mod_go_72 : decode mb_Mod_go 72 = .ok (.invokevirtual 156, 3) := by decide +kernel
theorem md_Mod_go_75 : decode mb_Mod_go 75 = .ok (.return_, 1) := by decide +kernel
theorem md_Mod_recover_0 : decode mb_Mod_recover 0 = .ok (.aload_n 0, 1) := by decide +kernel
theorem md_Mod_recover_1 : decode mb_Mod_recover 1 = .ok (.iload_n 1, 1) := by decide +kernel
theorem md_Mod_recover_2 : decode mb_Mod_recover 2 = .ok (.invokevirtual 149, 3) := by decide +kernel
theorem md_Mod_recover_5 : decode mb_Mod_recover 5 = .ok (.istore 4, 2) := by decide +kernel
theorem md_Mod_recover_7 : decode mb_Mod_recover 7 = .ok (.iconst 0, 1) := by decide +kernel
theorem md_Mod_recover_8 : decode mb_Mod_recover 8 = .ok (.istore 5, 2) := by decide +kernel
theorem md_Mod_recover_10 : decode mb_Mod_recover 10 = .ok (.iconst 0, 1) := by decide +kernel
theorem md_Mod_recover_11 : decode mb_Mod_recover 11 = .ok (.istore 6, 2) := by decide +kernel
theorem md_Mod_recover_13 : decode mb_Mod_recover 13 = .ok (.iload 6, 2) := by decide +kernel
theorem md_Mod_recover_15 : decode mb_Mod_recover 15 = .ok (.aload_n 0, 1) := by decide +kernel
theorem md_Mod_recover_16 : decode mb_Mod_recover 16 = .ok (.getfield 77, 3) := by decide +kernel
theorem md_Mod_recover_19 : decode mb_Mod_recover 19 = .ok (.if_icmp .ge 62, 3) := by decide +kernel
theorem md_Mod_recover_22 : decode mb_Mod_recover 22 = .ok (.aload_n 0, 1) := by decide +kernel
theorem md_Mod_recover_23 : decode mb_Mod_recover 23 = .ok (.getfield 68, 3) := by decide +kernel
theorem md_Mod_recover_26 : decode mb_Mod_recover 26 = .ok (.iconst 5, 1) := by decide +kernel
theorem md_Mod_recover_27 : decode mb_Mod_recover 27 = .ok (.iload_n 1, 1) := by decide +kernel
theorem md_Mod_recover_28 : decode mb_Mod_recover 28 = .ok (.imul, 1) := by decide +kernel
theorem md_Mod_recover_29 : decode mb_Mod_recover 29 = .ok (.iload 6, 2) := by decide +kernel
theorem md_Mod_recover_31 : decode mb_Mod_recover 31 = .ok (.iadd, 1) := by decide +kernel
theorem md_Mod_recover_32 : decode mb_Mod_recover 32 = .ok (.baload, 1) := by decide +kernel
theorem md_Mod_recover_33 : decode mb_Mod_recover 33 = .ok (.ifCond .eq 23, 3) := by decide +kernel
theorem md_Mod_recover_36 : decode mb_Mod_recover 36 = .ok (.aload_n 0, 1) := by decide +kernel
theorem md_Mod_recover_37 : decode mb_Mod_recover 37 = .ok (.iload_n 1, 1) := by decide +kernel
theorem md_Mod_recover_38 : decode mb_Mod_recover 38 = .ok (.iload_n 3, 1) := by decide +kernel
theorem md_Mod_recover_39 : decode mb_Mod_recover 39 = .ok (.aload_n 0, 1) := by decide +kernel
theorem md_Mod_recover_40 : decode mb_Mod_recover 40 = .ok (.getfield 71, 3) := by decide +kernel
theorem md_Mod_recover_43 : decode mb_Mod_recover 43 = .ok (.iconst 5, 1) := by decide +kernel
theorem md_Mod_recover_44 : decode mb_Mod_recover 44 = .ok (.iload_n 1, 1) := by decide +kernel
theorem md_Mod_recover_45 : decode mb_Mod_recover 45 = .ok (.imul, 1) := by decide +kernel
theorem md_Mod_recover_46 : decode mb_Mod_recover 46 = .ok (.iload 6, 2) := by decide +kernel
theorem md_Mod_recover_48 : decode mb_Mod_recover 48 = .ok (.iadd, 1) := by decide +kernel
theorem md_Mod_recover_49 : decode mb_Mod_recover 49 = .ok (.iaload, 1) := by decide +kernel
theorem md_Mod_recover_50 : decode mb_Mod_recover 50 = .ok (.invokevirtual 145, 3) := by decide +kernel
theorem md_Mod_recover_53 : decode mb_Mod_recover 53 = .ok (.goto 4, 3) := by decide +kernel
theorem md_Mod_recover_56 : decode mb_Mod_recover 56 = .ok (.iconst 0, 1) := by decide +kernel
theorem md_Mod_recover_57 : decode mb_Mod_recover 57 = .ok (.istore 7, 2) := by decide +kernel
theorem md_Mod_recover_59 : decode mb_Mod_recover 59 = .ok (.iload 7, 2) := by decide +kernel
theorem md_Mod_recover_61 : decode mb_Mod_recover 61 = .ok (.iload 5, 2) := by decide +kernel
theorem md_Mod_recover_63 : decode mb_Mod_recover 63 = .ok (.if_icmp .le 8, 3) := by decide +kernel
theorem md_Mod_recover_66 : decode mb_Mod_recover 66 = .ok (.iload 7, 2) := by decide +kernel
theorem md_Mod_recover_68 : decode mb_Mod_recover 68 = .ok (.goto 5, 3) := by decide +kernel
theorem md_Mod_recover_71 : decode mb_Mod_recover 71 = .ok (.iload 5, 2) := by decide +kernel
theorem md_Mod_recover_73 : decode mb_Mod_recover 73 = .ok (.istore 5, 2) := by decide +kernel
theorem md_Mod_recover_75 : decode mb_Mod_recover 75 = .ok (.iinc 6 1, 3) := by decide +kernel
theorem md_Mod_recover_78 : decode mb_Mod_recover 78 = .ok (.goto (-65), 3) := by decide +kernel
theorem md_Mod_recover_81 : decode mb_Mod_recover 81 = .ok (.iload 4, 2) := by decide +kernel
theorem md_Mod_recover_83 : decode mb_Mod_recover 83 = .ok (.aload_n 0, 1) := by decide +kernel
theorem md_Mod_recover_84 : decode mb_Mod_recover 84 = .ok (.getfield 81, 3) := by decide +kernel
theorem md_Mod_recover_87 : decode mb_Mod_recover 87 = .ok (.if_icmp .lt 20, 3) := by decide +kernel
theorem md_Mod_recover_90 : decode mb_Mod_recover 90 = .ok (.iload 5, 2) := by decide +kernel
theorem md_Mod_recover_92 : decode mb_Mod_recover 92 = .ok (.aload_n 0, 1) := by decide +kernel
theorem md_Mod_recover_93 : decode mb_Mod_recover 93 = .ok (.getfield 77, 3) := by decide +kernel
theorem md_Mod_recover_96 : decode mb_Mod_recover 96 = .ok (.iadd, 1) := by decide +kernel
theorem md_Mod_recover_97 : decode mb_Mod_recover 97 = .ok (.iload 4, 2) := by decide +kernel
theorem md_Mod_recover_99 : decode mb_Mod_recover 99 = .ok (.isub, 1) := by decide +kernel
theorem md_Mod_recover_100 : decode mb_Mod_recover 100 = .ok (.aload_n 0, 1) := by decide +kernel
theorem md_Mod_recover_101 : decode mb_Mod_recover 101 = .ok (.getfield 84, 3) := by decide +kernel
theorem md_Mod_recover_104 : decode mb_Mod_recover 104 = .ok (.if_icmp .lt 4, 3) := by decide +kernel
theorem md_Mod_recover_107 : decode mb_Mod_recover 107 = .ok (.return_, 1) := by decide +kernel
theorem md_Mod_recover_108 : decode mb_Mod_recover 108 = .ok (.aload_n 0, 1) := by decide +kernel
theorem md_Mod_recover_109 : decode mb_Mod_recover 109 = .ok (.iload_n 1, 1) := by decide +kernel
theorem md_Mod_recover_110 : decode mb_Mod_recover 110 = .ok (.iload_n 3, 1) := by decide +kernel
theorem md_Mod_recover_111 : decode mb_Mod_recover 111 = .ok (.invokevirtual 152, 3) := by decide +kernel
theorem md_Mod_recover_114 : decode mb_Mod_recover 114 = .ok (.istore 6, 2) := by decide +kernel
theorem md_Mod_recover_116 : decode mb_Mod_recover 116 = .ok (.aload_n 0, 1) := by decide +kernel
theorem md_Mod_recover_117 : decode mb_Mod_recover 117 = .ok (.iload_n 1, 1) := by decide +kernel
theorem md_Mod_recover_118 : decode mb_Mod_recover 118 = .ok (.iload_n 3, 1) := by decide +kernel
theorem md_Mod_recover_119 : decode mb_Mod_recover 119 = .ok (.iconst 1, 1) := by decide +kernel
theorem md_Mod_recover_120 : decode mb_Mod_recover 120 = .ok (.iadd, 1) := by decide +kernel
theorem md_Mod_recover_121 : decode mb_Mod_recover 121 = .ok (.iconst 3, 1) := by decide +kernel
theorem md_Mod_recover_122 : decode mb_Mod_recover 122 = .ok (.invokevirtual 118, 3) := by decide +kernel
theorem md_Mod_recover_125 : decode mb_Mod_recover 125 = .ok (.aload_n 0, 1) := by decide +kernel
theorem md_Mod_recover_126 : decode mb_Mod_recover 126 = .ok (.iload_n 1, 1) := by decide +kernel
theorem md_Mod_recover_127 : decode mb_Mod_recover 127 = .ok (.iload_n 2, 1) := by decide +kernel
theorem md_Mod_recover_128 : decode mb_Mod_recover 128 = .ok (.iload 6, 2) := by decide +kernel
theorem md_Mod_recover_130 : decode mb_Mod_recover 130 = .ok (.invokevirtual 156, 3) := by decide +kernel
theorem md_Mod_recover_133 : decode mb_Mod_recover 133 = .ok (.return_, 1) := by decide +kernel
set_option maxHeartbeats 4000000 in
theorem r_lead (l : Launch) (D : va_G) (ad : Nat × Nat → Nat) (cI cZ : ClassId) {M : fr_M} {n q f : Nat} {S : pz_T} {s c : Nat} (hn : n ≤ 5) (h : gm_R n q f S M) (hs : s < 3) (hc : c < 2) {r w : Nat} : gm_C l D ad cI cZ my_Mod_lead mb_Mod_lead 5 none 0 0 M [.ref (ad (0, 0)), .int (nI (3 * c + s)), .int (nI (r)), .int (nI (w))] (none) (gm_R n q f (pz_pw S s (pz_ld (S.2 s) c r w))) := by
  have h0 : gm_R n q f (pz_pw S s (S.2 s)) M := by rw [pz_pw_id]; exact h
  refine xw_start [.ref (ad (0, 0)), .int (nI (3 * c + s)), .int (nI (r)), .int (nI (w))] (by decide) (Nat.le_of_ble_eq_true rfl) ?_
  intro p e st m below meth cd0 ls Z hml hr hlk hN hl hw
  have hl : lv_has ls 5 [(0, .ref (ad (0, 0))), (1, .int (nI (3 * c + s))), (2, .int (nI (r))), (3, .int (nI (w)))] := hl
  refine lv_aload_n Z.1 Z.2.1 md_Mod_lead_0 rfl (lv_at hl 0 rfl) ?_
  refine xb_get (v := .ref (ad (21, 0))) Z hw (by decide) (gm_e0 ad cI cZ) rfl tb_iMod 21 (by decide) mk_Mod_59 rfl rfl md_Mod_lead_1 ?_
  refine lv_iload_n Z.1 Z.2.1 md_Mod_lead_4 rfl (lv_at hl 1 rfl) ?_
  refine lv_iload_n Z.1 Z.2.1 md_Mod_lead_5 rfl (lv_at hl 2 rfl) ?_
  refine xb_iast Z hw (by decide) (gm_e21 ad cI cZ) 0 rfl (3 * c + s) rfl (by omega) (by omega) md_Mod_lead_6 (fun M1 H1 locs1 e1 hw => ?_)
  have h1 := gm_w8 h0 hs hc e1
  refine lv_aload_n Z.1 Z.2.1 md_Mod_lead_7 rfl (lv_at hl 0 rfl) ?_
  refine xb_get (v := .ref (ad (22, 0))) Z hw (by decide) (gm_e0 ad cI cZ) rfl tb_iMod 22 (by decide) mk_Mod_62 rfl rfl md_Mod_lead_8 ?_
  refine lv_iload_n Z.1 Z.2.1 md_Mod_lead_11 rfl (lv_at hl 1 rfl) ?_
  refine lv_iload_n Z.1 Z.2.1 md_Mod_lead_12 rfl (lv_at hl 3 rfl) ?_
  refine xb_iast Z hw (by decide) (gm_e22 ad cI cZ) 0 rfl (3 * c + s) rfl (by omega) (by omega) md_Mod_lead_13 (fun M2 H2 locs2 e2 hw => ?_)
  have h2 := gm_w9 h1 hs hc e2
  refine lv_iconst (v := nI 0) Z.1 Z.2.1 md_Mod_lead_14 (by decide) ?_
  refine lv_istore Z.1 Z.2.1 md_Mod_lead_15 hl (by decide) rfl (fun ls hl => ?_)
  have hl : lv_has ls 5 [(4, .int (nI (0))), (0, .ref (ad (0, 0))), (1, .int (nI (3 * c + s))), (2, .int (nI (r))), (3, .int (nI (w)))] := hl
  have loop17 : ∀ (d i : Nat) (Mi : fr_M) (Hi : Heap) (Li : List Loc) (ls : Array Slot), i + d = 5 → (gm_R n q f (pz_pw S s (pz_clr (pz_u (pz_u (S.2 s) 8 c 0 r) 9 c 0 w) c i)) Mi) → xw_H D tb_cl (xw_A gm_ids ad) st.heap gm_ids ad (xw_M (gm_k ad cI cZ) Mi) Hi Li → lv_has ls 5 [(4, .int (nI (i))), (0, .ref (ad (0, 0))), (1, .int (nI (3 * c + s))), (2, .int (nI (r))), (3, .int (nI (w)))] → W p l e { frames := 0, cells := 0, slots := 0, locals := 0 } st m [.ref (ad (0, 0)), .int (nI (3 * c + s)), .int (nI (r)), .int (nI (w))].toArray below meth cd0 Hi Li 0 0 (MQ below (xw_Qc D tb_cl gm_ids ad (gm_k ad cI cZ) (none) (gm_R n q f (pz_pw S s (pz_ld (S.2 s) c r w)))) [.ref (ad (0, 0)), .int (nI (3 * c + s)), .int (nI (r)), .int (nI (w))].toArray st 0 0 (xw_A gm_ids ad)) (F0 m 17 ls []) := by
    intro d
    induction d with
    | zero =>
      intro i Mi Hi Li ls hi hinv hw hl
      refine lv_iload Z.1 Z.2.1 md_Mod_lead_17 (lv_at hl 0 rfl) ?_
      refine lv_iconst (v := nI 5) Z.1 Z.2.1 md_Mod_lead_19 (by decide) ?_
      refine xi_icmp_ge (tgt := 41) Z md_Mod_lead_20 (by decide) (by omega) (by omega) (fun h20 => ?_) (fun h20 => by exfalso; omega)
      exact xw_vret Z hr hlk hw md_Mod_lead_41 (gm_eqd (p := pz_clr (pz_u (pz_u (S.2 s) 8 c 0 r) 9 c 0 w) c 5) (by rw [show i = 5 by omega] at hinv; exact hinv) (fun k x y _ hd => pz_clr_ld hd) hs)
    | succ d ih =>
      intro i Mi Hi Li ls hi hinv hw hl
      refine lv_iload Z.1 Z.2.1 md_Mod_lead_17 (lv_at hl 0 rfl) ?_
      refine lv_iconst (v := nI 5) Z.1 Z.2.1 md_Mod_lead_19 (by decide) ?_
      refine xi_icmp_ge (tgt := 41) Z md_Mod_lead_20 (by decide) (by omega) (by omega) (fun h20 => by exfalso; omega) (fun h20 => ?_)
      refine lv_aload_n Z.1 Z.2.1 md_Mod_lead_23 rfl (lv_at hl 1 rfl) ?_
      refine xb_get (v := .ref (ad (24, 0))) Z hw (by decide) (gm_e0 ad cI cZ) rfl tb_iMod 24 (by decide) mk_Mod_68 rfl rfl md_Mod_lead_24 ?_
      refine lv_iconst (v := nI 5) Z.1 Z.2.1 md_Mod_lead_27 (by decide) ?_
      refine lv_iload_n Z.1 Z.2.1 md_Mod_lead_28 rfl (lv_at hl 2 rfl) ?_
      refine xi_mul Z md_Mod_lead_29 ?_
      refine lv_iload Z.1 Z.2.1 md_Mod_lead_30 (lv_at hl 0 rfl) ?_
      refine xi_add Z md_Mod_lead_32 ?_
      refine lv_iconst (v := nI 0) Z.1 Z.2.1 md_Mod_lead_33 (by decide) ?_
      refine xb_zast Z hw (by decide) (gm_e24 ad cI cZ) 1 rfl xi_z0 (5 * (3 * c + s) + i) rfl (by omega) (by omega) md_Mod_lead_34 (fun M3 H3 locs3 e3 hw => ?_)
      have h3 := gm_w11 hinv hs hc (show i < 5 by omega) e3
      refine lv_iinc Z.1 Z.2.1 md_Mod_lead_35 hl (k := 0) rfl (xi_inc1 (i)) (by decide) rfl (fun ls hl => ?_)
      have hl : lv_has ls 5 [(4, .int (nI (i + 1))), (0, .ref (ad (0, 0))), (1, .int (nI (3 * c + s))), (2, .int (nI (r))), (3, .int (nI (w)))] := hl
      refine lv_goto (tgt := 17) Z.1 Z.2.1 md_Mod_lead_38 (by decide) ?_
      refine ih (i + 1) M3 _ _ ls (by omega) (by rw [← pz_clr_s]; exact h3) hw ?_
      exact lv_sub hl [0, 1, 2, 3, 4] rfl
  exact loop17 5 (0) M2 _ _ ls (by omega) (by rw [pz_clr_0]; exact h2) hw (lv_sub hl [0, 1, 2, 3, 4] rfl)
set_option maxHeartbeats 4000000 in
theorem r_tellers (l : Launch) (D : va_G) (ad : Nat × Nat → Nat) (cI cZ : ClassId) {M : fr_M} {n q f : Nat} {S : pz_T} {s c : Nat} (hn : n ≤ 5) (h : gm_R n q f S M) (hs : s < 3) (hc : c < 2) (t1 : ∀ a, S.2 s 11 c a ≤ 1) : gm_C l D ad cI cZ my_Mod_tellers mb_Mod_tellers 4 (some .int) 0 0 M [.ref (ad (0, 0)), .int (nI (3 * c + s))] (some (.int (nI (pz_te n (S.2 s) c)))) (fun M' => M' = M) := by
  refine xw_start [.ref (ad (0, 0)), .int (nI (3 * c + s))] (by decide) (Nat.le_of_ble_eq_true rfl) ?_
  intro p e st m below meth cd0 ls Z hml hr hlk hN hl hw
  have hl : lv_has ls 4 [(0, .ref (ad (0, 0))), (1, .int (nI (3 * c + s)))] := hl
  refine lv_iconst (v := nI 0) Z.1 Z.2.1 md_Mod_tellers_0 (by decide) ?_
  refine lv_istore_n Z.1 Z.2.1 md_Mod_tellers_1 rfl hl (by decide) rfl (fun ls hl => ?_)
  have hl : lv_has ls 4 [(2, .int (nI (0))), (0, .ref (ad (0, 0))), (1, .int (nI (3 * c + s)))] := hl
  refine lv_iconst (v := nI 0) Z.1 Z.2.1 md_Mod_tellers_2 (by decide) ?_
  refine lv_istore_n Z.1 Z.2.1 md_Mod_tellers_3 rfl hl (by decide) rfl (fun ls hl => ?_)
  have hl : lv_has ls 4 [(3, .int (nI (0))), (2, .int (nI (0))), (0, .ref (ad (0, 0))), (1, .int (nI (3 * c + s)))] := hl
  have loop4 : ∀ (d i : Nat) (Hi : Heap) (Li : List Loc) (ls : Array Slot), i + d = n → xw_H D tb_cl (xw_A gm_ids ad) st.heap gm_ids ad (xw_M (gm_k ad cI cZ) M) Hi Li → lv_has ls 4 [(3, .int (nI (i))), (2, .int (nI (pz_sm i (fun a => S.2 s 11 c a)))), (0, .ref (ad (0, 0))), (1, .int (nI (3 * c + s)))] → W p l e { frames := 0, cells := 0, slots := 0, locals := 0 } st m [.ref (ad (0, 0)), .int (nI (3 * c + s))].toArray below meth cd0 Hi Li 0 0 (MQ below (xw_Qc D tb_cl gm_ids ad (gm_k ad cI cZ) (some (.int (nI (pz_te n (S.2 s) c)))) (fun M' => M' = M)) [.ref (ad (0, 0)), .int (nI (3 * c + s))].toArray st 0 0 (xw_A gm_ids ad)) (F0 m 4 ls []) := by
    intro d
    induction d with
    | zero =>
      intro i Hi Li ls hi hw hl
      refine lv_iload_n Z.1 Z.2.1 md_Mod_tellers_4 rfl (lv_at hl 0 rfl) ?_
      refine lv_aload_n Z.1 Z.2.1 md_Mod_tellers_5 rfl (lv_at hl 2 rfl) ?_
      refine xb_get (v := .int (M (0, 0) 0)) Z hw (by decide) (gm_e0 ad cI cZ) rfl tb_iMod 0 (by decide) mk_Mod_77 rfl rfl md_Mod_tellers_6 ?_
      refine xi_re (show M (0, 0) 0 = nI (n) from h.1.1) ?_
      refine xi_icmp_ge (tgt := 39) Z md_Mod_tellers_9 (by decide) (by omega) (by omega) (fun h9 => ?_) (fun h9 => by exfalso; omega)
      refine lv_iload_n Z.1 Z.2.1 md_Mod_tellers_39 rfl (lv_at hl 1 rfl) ?_
      exact xw_iret Z hr hlk hw md_Mod_tellers_40 (by rw [show i = n by omega]; rfl) rfl
    | succ d ih =>
      intro i Hi Li ls hi hw hl
      refine lv_iload_n Z.1 Z.2.1 md_Mod_tellers_4 rfl (lv_at hl 0 rfl) ?_
      refine lv_aload_n Z.1 Z.2.1 md_Mod_tellers_5 rfl (lv_at hl 2 rfl) ?_
      refine xb_get (v := .int (M (0, 0) 0)) Z hw (by decide) (gm_e0 ad cI cZ) rfl tb_iMod 0 (by decide) mk_Mod_77 rfl rfl md_Mod_tellers_6 ?_
      refine xi_re (show M (0, 0) 0 = nI (n) from h.1.1) ?_
      refine xi_icmp_ge (tgt := 39) Z md_Mod_tellers_9 (by decide) (by omega) (by omega) (fun h9 => by exfalso; omega) (fun h9 => ?_)
      refine lv_iload_n Z.1 Z.2.1 md_Mod_tellers_12 rfl (lv_at hl 1 rfl) ?_
      refine lv_aload_n Z.1 Z.2.1 md_Mod_tellers_13 rfl (lv_at hl 2 rfl) ?_
      refine xb_get (v := .ref (ad (24, 0))) Z hw (by decide) (gm_e0 ad cI cZ) rfl tb_iMod 24 (by decide) mk_Mod_68 rfl rfl md_Mod_tellers_14 ?_
      refine lv_iconst (v := nI 5) Z.1 Z.2.1 md_Mod_tellers_17 (by decide) ?_
      refine lv_iload_n Z.1 Z.2.1 md_Mod_tellers_18 rfl (lv_at hl 3 rfl) ?_
      refine xi_mul Z md_Mod_tellers_19 ?_
      refine lv_iload_n Z.1 Z.2.1 md_Mod_tellers_20 rfl (lv_at hl 0 rfl) ?_
      refine xi_add Z md_Mod_tellers_21 ?_
      refine xw_zald Z hw (by decide) (gm_e24 ad cI cZ) 1 rfl (5 * (3 * c + s) + i) rfl (by omega) (by omega) md_Mod_tellers_22 ?_
      refine xi_re (show M (24, 0) (5 * (3 * c + s) + i) = nI (S.2 s 11 c i) from gm_g11 h hs hc (by omega)) ?_
      have t := t1 i
      refine xi_if_eq (tgt := 30) Z md_Mod_tellers_23 (by decide) (by omega) (fun h23 => ?_) (fun h23 => ?_)
      · refine lv_iconst (v := nI 0) Z.1 Z.2.1 md_Mod_tellers_30 (by decide) ?_
        refine xi_add Z md_Mod_tellers_31 ?_
        refine lv_istore_n Z.1 Z.2.1 md_Mod_tellers_32 rfl hl (by decide) rfl (fun ls hl => ?_)
        have hl : lv_has ls 4 [(2, .int (nI ((pz_sm i (fun a => S.2 s 11 c a)) + 0))), (3, .int (nI (i))), (0, .ref (ad (0, 0))), (1, .int (nI (3 * c + s)))] := hl
        refine lv_iinc Z.1 Z.2.1 md_Mod_tellers_33 hl (k := 1) rfl (xi_inc1 (i)) (by decide) rfl (fun ls hl => ?_)
        have hl : lv_has ls 4 [(3, .int (nI (i + 1))), (2, .int (nI ((pz_sm i (fun a => S.2 s 11 c a)) + 0))), (0, .ref (ad (0, 0))), (1, .int (nI (3 * c + s)))] := hl
        refine lv_goto (tgt := 4) Z.1 Z.2.1 md_Mod_tellers_36 (by decide) ?_
        refine ih (i + 1) _ _ ls (by omega) hw ?_
        first | (rw [show pz_sm (i + 1) (fun a => S.2 s 11 c a) = pz_sm i (fun a => S.2 s 11 c a) + 1 from by simp only [pz_sm]; omega]; exact lv_sub hl [0, 1, 2, 3] rfl) | (rw [show pz_sm (i + 1) (fun a => S.2 s 11 c a) = pz_sm i (fun a => S.2 s 11 c a) + 0 from by simp only [pz_sm]; omega]; exact lv_sub hl [0, 1, 2, 3] rfl)
      · refine lv_iconst (v := nI 1) Z.1 Z.2.1 md_Mod_tellers_26 (by decide) ?_
        refine lv_goto (tgt := 31) Z.1 Z.2.1 md_Mod_tellers_27 (by decide) ?_
        refine xi_add Z md_Mod_tellers_31 ?_
        refine lv_istore_n Z.1 Z.2.1 md_Mod_tellers_32 rfl hl (by decide) rfl (fun ls hl => ?_)
        have hl : lv_has ls 4 [(2, .int (nI ((pz_sm i (fun a => S.2 s 11 c a)) + 1))), (3, .int (nI (i))), (0, .ref (ad (0, 0))), (1, .int (nI (3 * c + s)))] := hl
        refine lv_iinc Z.1 Z.2.1 md_Mod_tellers_33 hl (k := 1) rfl (xi_inc1 (i)) (by decide) rfl (fun ls hl => ?_)
        have hl : lv_has ls 4 [(3, .int (nI (i + 1))), (2, .int (nI ((pz_sm i (fun a => S.2 s 11 c a)) + 1))), (0, .ref (ad (0, 0))), (1, .int (nI (3 * c + s)))] := hl
        refine lv_goto (tgt := 4) Z.1 Z.2.1 md_Mod_tellers_36 (by decide) ?_
        refine ih (i + 1) _ _ ls (by omega) hw ?_
        first | (rw [show pz_sm (i + 1) (fun a => S.2 s 11 c a) = pz_sm i (fun a => S.2 s 11 c a) + 1 from by simp only [pz_sm]; omega]; exact lv_sub hl [0, 1, 2, 3] rfl) | (rw [show pz_sm (i + 1) (fun a => S.2 s 11 c a) = pz_sm i (fun a => S.2 s 11 c a) + 0 from by simp only [pz_sm]; omega]; exact lv_sub hl [0, 1, 2, 3] rfl)
  exact loop4 n (0) _ _ ls (by omega) hw (lv_sub hl [0, 1, 2, 3] rfl)
set_option maxHeartbeats 4000000 in
theorem r_toldFor (l : Launch) (D : va_G) (ad : Nat × Nat → Nat) (cI cZ : ClassId) {M : fr_M} {n q f : Nat} {S : pz_T} {s c : Nat} (hn : n ≤ 5) (h : gm_R n q f S M) (hs : s < 3) (hc : c < 2) (T : fr_TB n (S.2 s) c) {r v : Nat} (hr2 : r < 2 ^ 31) (hv : v < 2 ^ 31) : gm_C l D ad cI cZ my_Mod_toldFor mb_Mod_toldFor 6 (some .int) 0 0 M [.ref (ad (0, 0)), .int (nI (3 * c + s)), .int (nI (r)), .int (nI (v))] (some (.int (nI (pz_tf n (S.2 s) c r v)))) (fun M' => M' = M) := by
  refine xw_start [.ref (ad (0, 0)), .int (nI (3 * c + s)), .int (nI (r)), .int (nI (v))] (by decide) (Nat.le_of_ble_eq_true rfl) ?_
  intro p e st m below meth cd0 ls Z hml hr hlk hN hl hw
  have hl : lv_has ls 6 [(0, .ref (ad (0, 0))), (1, .int (nI (3 * c + s))), (2, .int (nI (r))), (3, .int (nI (v)))] := hl
  refine lv_iconst (v := nI 0) Z.1 Z.2.1 md_Mod_toldFor_0 (by decide) ?_
  refine lv_istore Z.1 Z.2.1 md_Mod_toldFor_1 hl (by decide) rfl (fun ls hl => ?_)
  have hl : lv_has ls 6 [(4, .int (nI (0))), (0, .ref (ad (0, 0))), (1, .int (nI (3 * c + s))), (2, .int (nI (r))), (3, .int (nI (v)))] := hl
  refine lv_iconst (v := nI 0) Z.1 Z.2.1 md_Mod_toldFor_3 (by decide) ?_
  refine lv_istore Z.1 Z.2.1 md_Mod_toldFor_4 hl (by decide) rfl (fun ls hl => ?_)
  have hl : lv_has ls 6 [(5, .int (nI (0))), (4, .int (nI (0))), (0, .ref (ad (0, 0))), (1, .int (nI (3 * c + s))), (2, .int (nI (r))), (3, .int (nI (v)))] := hl
  have loop6 : ∀ (d i : Nat) (Hi : Heap) (Li : List Loc) (ls : Array Slot), i + d = n → xw_H D tb_cl (xw_A gm_ids ad) st.heap gm_ids ad (xw_M (gm_k ad cI cZ) M) Hi Li → lv_has ls 6 [(5, .int (nI (i))), (4, .int (nI (pz_sm i (fun a => if S.2 s 11 c a ≠ 0 ∧ S.2 s 13 c a = r ∧ S.2 s 12 c a = v then 1 else 0)))), (0, .ref (ad (0, 0))), (1, .int (nI (3 * c + s))), (2, .int (nI (r))), (3, .int (nI (v)))] → W p l e { frames := 0, cells := 0, slots := 0, locals := 0 } st m [.ref (ad (0, 0)), .int (nI (3 * c + s)), .int (nI (r)), .int (nI (v))].toArray below meth cd0 Hi Li 0 0 (MQ below (xw_Qc D tb_cl gm_ids ad (gm_k ad cI cZ) (some (.int (nI (pz_tf n (S.2 s) c r v)))) (fun M' => M' = M)) [.ref (ad (0, 0)), .int (nI (3 * c + s)), .int (nI (r)), .int (nI (v))].toArray st 0 0 (xw_A gm_ids ad)) (F0 m 6 ls []) := by
    intro d
    induction d with
    | zero =>
      intro i Hi Li ls hi hw hl
      refine lv_iload Z.1 Z.2.1 md_Mod_toldFor_6 (lv_at hl 0 rfl) ?_
      refine lv_aload_n Z.1 Z.2.1 md_Mod_toldFor_8 rfl (lv_at hl 2 rfl) ?_
      refine xb_get (v := .int (M (0, 0) 0)) Z hw (by decide) (gm_e0 ad cI cZ) rfl tb_iMod 0 (by decide) mk_Mod_77 rfl rfl md_Mod_toldFor_9 ?_
      refine xi_re (show M (0, 0) 0 = nI (n) from h.1.1) ?_
      refine xi_icmp_ge (tgt := 75) Z md_Mod_toldFor_12 (by decide) (by omega) (by omega) (fun h12 => ?_) (fun h12 => by exfalso; omega)
      refine lv_iload Z.1 Z.2.1 md_Mod_toldFor_75 (lv_at hl 1 rfl) ?_
      exact xw_iret Z hr hlk hw md_Mod_toldFor_77 (by rw [show i = n by omega]; rfl) rfl
    | succ d ih =>
      intro i Hi Li ls hi hw hl
      refine lv_iload Z.1 Z.2.1 md_Mod_toldFor_6 (lv_at hl 0 rfl) ?_
      refine lv_aload_n Z.1 Z.2.1 md_Mod_toldFor_8 rfl (lv_at hl 2 rfl) ?_
      refine xb_get (v := .int (M (0, 0) 0)) Z hw (by decide) (gm_e0 ad cI cZ) rfl tb_iMod 0 (by decide) mk_Mod_77 rfl rfl md_Mod_toldFor_9 ?_
      refine xi_re (show M (0, 0) 0 = nI (n) from h.1.1) ?_
      refine xi_icmp_ge (tgt := 75) Z md_Mod_toldFor_12 (by decide) (by omega) (by omega) (fun h12 => by exfalso; omega) (fun h12 => ?_)
      refine lv_iload Z.1 Z.2.1 md_Mod_toldFor_15 (lv_at hl 1 rfl) ?_
      refine lv_aload_n Z.1 Z.2.1 md_Mod_toldFor_17 rfl (lv_at hl 2 rfl) ?_
      refine xb_get (v := .ref (ad (24, 0))) Z hw (by decide) (gm_e0 ad cI cZ) rfl tb_iMod 24 (by decide) mk_Mod_68 rfl rfl md_Mod_toldFor_18 ?_
      refine lv_iconst (v := nI 5) Z.1 Z.2.1 md_Mod_toldFor_21 (by decide) ?_
      refine lv_iload_n Z.1 Z.2.1 md_Mod_toldFor_22 rfl (lv_at hl 3 rfl) ?_
      refine xi_mul Z md_Mod_toldFor_23 ?_
      refine lv_iload Z.1 Z.2.1 md_Mod_toldFor_24 (lv_at hl 0 rfl) ?_
      refine xi_add Z md_Mod_toldFor_26 ?_
      refine xw_zald Z hw (by decide) (gm_e24 ad cI cZ) 1 rfl (5 * (3 * c + s) + i) rfl (by omega) (by omega) md_Mod_toldFor_27 ?_
      refine xi_re (show M (24, 0) (5 * (3 * c + s) + i) = nI (S.2 s 11 c i) from gm_g11 h hs hc (by omega)) ?_
      have t := (T i (by omega)).1
      refine xi_if_eq (tgt := 65) Z md_Mod_toldFor_28 (by decide) (by omega) (fun h28 => ?_) (fun h28 => ?_)
      · refine lv_iconst (v := nI 0) Z.1 Z.2.1 md_Mod_toldFor_65 (by decide) ?_
        refine xi_add Z md_Mod_toldFor_66 ?_
        refine lv_istore Z.1 Z.2.1 md_Mod_toldFor_67 hl (by decide) rfl (fun ls hl => ?_)
        have hl : lv_has ls 6 [(4, .int (nI ((pz_sm i (fun a => if S.2 s 11 c a ≠ 0 ∧ S.2 s 13 c a = r ∧ S.2 s 12 c a = v then 1 else 0)) + 0))), (5, .int (nI (i))), (0, .ref (ad (0, 0))), (1, .int (nI (3 * c + s))), (2, .int (nI (r))), (3, .int (nI (v)))] := hl
        refine lv_iinc Z.1 Z.2.1 md_Mod_toldFor_69 hl (k := 1) rfl (xi_inc1 (i)) (by decide) rfl (fun ls hl => ?_)
        have hl : lv_has ls 6 [(5, .int (nI (i + 1))), (4, .int (nI ((pz_sm i (fun a => if S.2 s 11 c a ≠ 0 ∧ S.2 s 13 c a = r ∧ S.2 s 12 c a = v then 1 else 0)) + 0))), (0, .ref (ad (0, 0))), (1, .int (nI (3 * c + s))), (2, .int (nI (r))), (3, .int (nI (v)))] := hl
        refine lv_goto (tgt := 6) Z.1 Z.2.1 md_Mod_toldFor_72 (by decide) ?_
        refine ih (i + 1) _ _ ls (by omega) hw ?_
        first | (rw [show pz_sm (i + 1) (fun a => if S.2 s 11 c a ≠ 0 ∧ S.2 s 13 c a = r ∧ S.2 s 12 c a = v then 1 else 0) = pz_sm i (fun a => if S.2 s 11 c a ≠ 0 ∧ S.2 s 13 c a = r ∧ S.2 s 12 c a = v then 1 else 0) + 1 from by simp only [pz_sm]; rw [if_pos (by omega)]]; exact lv_sub hl [0, 1, 2, 3, 4, 5] rfl) | (rw [show pz_sm (i + 1) (fun a => if S.2 s 11 c a ≠ 0 ∧ S.2 s 13 c a = r ∧ S.2 s 12 c a = v then 1 else 0) = pz_sm i (fun a => if S.2 s 11 c a ≠ 0 ∧ S.2 s 13 c a = r ∧ S.2 s 12 c a = v then 1 else 0) + 0 from by simp only [pz_sm]; rw [if_neg (by omega)]]; exact lv_sub hl [0, 1, 2, 3, 4, 5] rfl)
      · have t2 := (T i (by omega)).2 h28
        refine lv_aload_n Z.1 Z.2.1 md_Mod_toldFor_31 rfl (lv_at hl 2 rfl) ?_
        refine xb_get (v := .ref (ad (26, 0))) Z hw (by decide) (gm_e0 ad cI cZ) rfl tb_iMod 26 (by decide) mk_Mod_74 rfl rfl md_Mod_toldFor_32 ?_
        refine lv_iconst (v := nI 5) Z.1 Z.2.1 md_Mod_toldFor_35 (by decide) ?_
        refine lv_iload_n Z.1 Z.2.1 md_Mod_toldFor_36 rfl (lv_at hl 3 rfl) ?_
        refine xi_mul Z md_Mod_toldFor_37 ?_
        refine lv_iload Z.1 Z.2.1 md_Mod_toldFor_38 (lv_at hl 0 rfl) ?_
        refine xi_add Z md_Mod_toldFor_40 ?_
        refine xw_iald Z hw (by decide) (gm_e26 ad cI cZ) 0 rfl (5 * (3 * c + s) + i) rfl (by omega) (by omega) md_Mod_toldFor_41 ?_
        refine xi_re (show M (26, 0) (5 * (3 * c + s) + i) = nI (S.2 s 13 c i) from gm_g13 h hs hc (by omega)) ?_
        refine lv_iload_n Z.1 Z.2.1 md_Mod_toldFor_42 rfl (lv_at hl 4 rfl) ?_
        refine xi_icmp_ne (tgt := 65) Z md_Mod_toldFor_43 (by decide) (by omega) (by omega) (fun h43 => ?_) (fun h43 => ?_)
        · refine lv_iconst (v := nI 0) Z.1 Z.2.1 md_Mod_toldFor_65 (by decide) ?_
          refine xi_add Z md_Mod_toldFor_66 ?_
          refine lv_istore Z.1 Z.2.1 md_Mod_toldFor_67 hl (by decide) rfl (fun ls hl => ?_)
          have hl : lv_has ls 6 [(4, .int (nI ((pz_sm i (fun a => if S.2 s 11 c a ≠ 0 ∧ S.2 s 13 c a = r ∧ S.2 s 12 c a = v then 1 else 0)) + 0))), (5, .int (nI (i))), (0, .ref (ad (0, 0))), (1, .int (nI (3 * c + s))), (2, .int (nI (r))), (3, .int (nI (v)))] := hl
          refine lv_iinc Z.1 Z.2.1 md_Mod_toldFor_69 hl (k := 1) rfl (xi_inc1 (i)) (by decide) rfl (fun ls hl => ?_)
          have hl : lv_has ls 6 [(5, .int (nI (i + 1))), (4, .int (nI ((pz_sm i (fun a => if S.2 s 11 c a ≠ 0 ∧ S.2 s 13 c a = r ∧ S.2 s 12 c a = v then 1 else 0)) + 0))), (0, .ref (ad (0, 0))), (1, .int (nI (3 * c + s))), (2, .int (nI (r))), (3, .int (nI (v)))] := hl
          refine lv_goto (tgt := 6) Z.1 Z.2.1 md_Mod_toldFor_72 (by decide) ?_
          refine ih (i + 1) _ _ ls (by omega) hw ?_
          first | (rw [show pz_sm (i + 1) (fun a => if S.2 s 11 c a ≠ 0 ∧ S.2 s 13 c a = r ∧ S.2 s 12 c a = v then 1 else 0) = pz_sm i (fun a => if S.2 s 11 c a ≠ 0 ∧ S.2 s 13 c a = r ∧ S.2 s 12 c a = v then 1 else 0) + 1 from by simp only [pz_sm]; rw [if_pos (by omega)]]; exact lv_sub hl [0, 1, 2, 3, 4, 5] rfl) | (rw [show pz_sm (i + 1) (fun a => if S.2 s 11 c a ≠ 0 ∧ S.2 s 13 c a = r ∧ S.2 s 12 c a = v then 1 else 0) = pz_sm i (fun a => if S.2 s 11 c a ≠ 0 ∧ S.2 s 13 c a = r ∧ S.2 s 12 c a = v then 1 else 0) + 0 from by simp only [pz_sm]; rw [if_neg (by omega)]]; exact lv_sub hl [0, 1, 2, 3, 4, 5] rfl)
        · refine lv_aload_n Z.1 Z.2.1 md_Mod_toldFor_46 rfl (lv_at hl 2 rfl) ?_
          refine xb_get (v := .ref (ad (25, 0))) Z hw (by decide) (gm_e0 ad cI cZ) rfl tb_iMod 25 (by decide) mk_Mod_71 rfl rfl md_Mod_toldFor_47 ?_
          refine lv_iconst (v := nI 5) Z.1 Z.2.1 md_Mod_toldFor_50 (by decide) ?_
          refine lv_iload_n Z.1 Z.2.1 md_Mod_toldFor_51 rfl (lv_at hl 3 rfl) ?_
          refine xi_mul Z md_Mod_toldFor_52 ?_
          refine lv_iload Z.1 Z.2.1 md_Mod_toldFor_53 (lv_at hl 0 rfl) ?_
          refine xi_add Z md_Mod_toldFor_55 ?_
          refine xw_iald Z hw (by decide) (gm_e25 ad cI cZ) 0 rfl (5 * (3 * c + s) + i) rfl (by omega) (by omega) md_Mod_toldFor_56 ?_
          refine xi_re (show M (25, 0) (5 * (3 * c + s) + i) = nI (S.2 s 12 c i) from gm_g12 h hs hc (by omega)) ?_
          refine lv_iload_n Z.1 Z.2.1 md_Mod_toldFor_57 rfl (lv_at hl 5 rfl) ?_
          refine xi_icmp_ne (tgt := 65) Z md_Mod_toldFor_58 (by decide) (by omega) (by omega) (fun h58 => ?_) (fun h58 => ?_)
          · refine lv_iconst (v := nI 0) Z.1 Z.2.1 md_Mod_toldFor_65 (by decide) ?_
            refine xi_add Z md_Mod_toldFor_66 ?_
            refine lv_istore Z.1 Z.2.1 md_Mod_toldFor_67 hl (by decide) rfl (fun ls hl => ?_)
            have hl : lv_has ls 6 [(4, .int (nI ((pz_sm i (fun a => if S.2 s 11 c a ≠ 0 ∧ S.2 s 13 c a = r ∧ S.2 s 12 c a = v then 1 else 0)) + 0))), (5, .int (nI (i))), (0, .ref (ad (0, 0))), (1, .int (nI (3 * c + s))), (2, .int (nI (r))), (3, .int (nI (v)))] := hl
            refine lv_iinc Z.1 Z.2.1 md_Mod_toldFor_69 hl (k := 1) rfl (xi_inc1 (i)) (by decide) rfl (fun ls hl => ?_)
            have hl : lv_has ls 6 [(5, .int (nI (i + 1))), (4, .int (nI ((pz_sm i (fun a => if S.2 s 11 c a ≠ 0 ∧ S.2 s 13 c a = r ∧ S.2 s 12 c a = v then 1 else 0)) + 0))), (0, .ref (ad (0, 0))), (1, .int (nI (3 * c + s))), (2, .int (nI (r))), (3, .int (nI (v)))] := hl
            refine lv_goto (tgt := 6) Z.1 Z.2.1 md_Mod_toldFor_72 (by decide) ?_
            refine ih (i + 1) _ _ ls (by omega) hw ?_
            first | (rw [show pz_sm (i + 1) (fun a => if S.2 s 11 c a ≠ 0 ∧ S.2 s 13 c a = r ∧ S.2 s 12 c a = v then 1 else 0) = pz_sm i (fun a => if S.2 s 11 c a ≠ 0 ∧ S.2 s 13 c a = r ∧ S.2 s 12 c a = v then 1 else 0) + 1 from by simp only [pz_sm]; rw [if_pos (by omega)]]; exact lv_sub hl [0, 1, 2, 3, 4, 5] rfl) | (rw [show pz_sm (i + 1) (fun a => if S.2 s 11 c a ≠ 0 ∧ S.2 s 13 c a = r ∧ S.2 s 12 c a = v then 1 else 0) = pz_sm i (fun a => if S.2 s 11 c a ≠ 0 ∧ S.2 s 13 c a = r ∧ S.2 s 12 c a = v then 1 else 0) + 0 from by simp only [pz_sm]; rw [if_neg (by omega)]]; exact lv_sub hl [0, 1, 2, 3, 4, 5] rfl)
          · refine lv_iconst (v := nI 1) Z.1 Z.2.1 md_Mod_toldFor_61 (by decide) ?_
            refine lv_goto (tgt := 66) Z.1 Z.2.1 md_Mod_toldFor_62 (by decide) ?_
            refine xi_add Z md_Mod_toldFor_66 ?_
            refine lv_istore Z.1 Z.2.1 md_Mod_toldFor_67 hl (by decide) rfl (fun ls hl => ?_)
            have hl : lv_has ls 6 [(4, .int (nI ((pz_sm i (fun a => if S.2 s 11 c a ≠ 0 ∧ S.2 s 13 c a = r ∧ S.2 s 12 c a = v then 1 else 0)) + 1))), (5, .int (nI (i))), (0, .ref (ad (0, 0))), (1, .int (nI (3 * c + s))), (2, .int (nI (r))), (3, .int (nI (v)))] := hl
            refine lv_iinc Z.1 Z.2.1 md_Mod_toldFor_69 hl (k := 1) rfl (xi_inc1 (i)) (by decide) rfl (fun ls hl => ?_)
            have hl : lv_has ls 6 [(5, .int (nI (i + 1))), (4, .int (nI ((pz_sm i (fun a => if S.2 s 11 c a ≠ 0 ∧ S.2 s 13 c a = r ∧ S.2 s 12 c a = v then 1 else 0)) + 1))), (0, .ref (ad (0, 0))), (1, .int (nI (3 * c + s))), (2, .int (nI (r))), (3, .int (nI (v)))] := hl
            refine lv_goto (tgt := 6) Z.1 Z.2.1 md_Mod_toldFor_72 (by decide) ?_
            refine ih (i + 1) _ _ ls (by omega) hw ?_
            first | (rw [show pz_sm (i + 1) (fun a => if S.2 s 11 c a ≠ 0 ∧ S.2 s 13 c a = r ∧ S.2 s 12 c a = v then 1 else 0) = pz_sm i (fun a => if S.2 s 11 c a ≠ 0 ∧ S.2 s 13 c a = r ∧ S.2 s 12 c a = v then 1 else 0) + 1 from by simp only [pz_sm]; rw [if_pos (by omega)]]; exact lv_sub hl [0, 1, 2, 3, 4, 5] rfl) | (rw [show pz_sm (i + 1) (fun a => if S.2 s 11 c a ≠ 0 ∧ S.2 s 13 c a = r ∧ S.2 s 12 c a = v then 1 else 0) = pz_sm i (fun a => if S.2 s 11 c a ≠ 0 ∧ S.2 s 13 c a = r ∧ S.2 s 12 c a = v then 1 else 0) + 0 from by simp only [pz_sm]; rw [if_neg (by omega)]]; exact lv_sub hl [0, 1, 2, 3, 4, 5] rfl)
  exact loop6 n (0) _ _ ls (by omega) hw (lv_sub hl [0, 1, 2, 3, 4, 5] rfl)
set_option maxHeartbeats 4000000 in
theorem r_tell (l : Launch) (D : va_G) (ad : Nat × Nat → Nat) (cI cZ : ClassId) {M : fr_M} {n q f : Nat} {S : pz_T} {s c : Nat} (hn : n ≤ 5) (h : gm_R n q f S M) (hs : s < 3) (hc : c < 2) {a v r : Nat} (ha : a < 5) : gm_C l D ad cI cZ my_Mod_tell mb_Mod_tell 5 none 0 0 M [.ref (ad (0, 0)), .int (nI (3 * c + s)), .int (nI (a)), .int (nI (v)), .int (nI (r))] (none) (gm_R n q f (pz_pw S s (pz_tll (S.2 s) c a v r))) := by
  have h0 : gm_R n q f (pz_pw S s (S.2 s)) M := by rw [pz_pw_id]; exact h
  refine xw_start [.ref (ad (0, 0)), .int (nI (3 * c + s)), .int (nI (a)), .int (nI (v)), .int (nI (r))] (by decide) (Nat.le_of_ble_eq_true rfl) ?_
  intro p e st m below meth cd0 ls Z hml hr hlk hN hl hw
  have hl : lv_has ls 5 [(0, .ref (ad (0, 0))), (1, .int (nI (3 * c + s))), (2, .int (nI (a))), (3, .int (nI (v))), (4, .int (nI (r)))] := hl
  refine lv_aload_n Z.1 Z.2.1 md_Mod_tell_0 rfl (lv_at hl 0 rfl) ?_
  refine xb_get (v := .ref (ad (24, 0))) Z hw (by decide) (gm_e0 ad cI cZ) rfl tb_iMod 24 (by decide) mk_Mod_68 rfl rfl md_Mod_tell_1 ?_
  refine lv_iconst (v := nI 5) Z.1 Z.2.1 md_Mod_tell_4 (by decide) ?_
  refine lv_iload_n Z.1 Z.2.1 md_Mod_tell_5 rfl (lv_at hl 1 rfl) ?_
  refine xi_mul Z md_Mod_tell_6 ?_
  refine lv_iload_n Z.1 Z.2.1 md_Mod_tell_7 rfl (lv_at hl 2 rfl) ?_
  refine xi_add Z md_Mod_tell_8 ?_
  refine lv_iconst (v := nI 1) Z.1 Z.2.1 md_Mod_tell_9 (by decide) ?_
  refine xb_zast Z hw (by decide) (gm_e24 ad cI cZ) 1 rfl xi_z1 (5 * (3 * c + s) + a) rfl (by omega) (by omega) md_Mod_tell_10 (fun M1 H1 locs1 e1 hw => ?_)
  have h1 := gm_w11 h0 hs hc ha e1
  refine lv_aload_n Z.1 Z.2.1 md_Mod_tell_11 rfl (lv_at hl 0 rfl) ?_
  refine xb_get (v := .ref (ad (25, 0))) Z hw (by decide) (gm_e0 ad cI cZ) rfl tb_iMod 25 (by decide) mk_Mod_71 rfl rfl md_Mod_tell_12 ?_
  refine lv_iconst (v := nI 5) Z.1 Z.2.1 md_Mod_tell_15 (by decide) ?_
  refine lv_iload_n Z.1 Z.2.1 md_Mod_tell_16 rfl (lv_at hl 1 rfl) ?_
  refine xi_mul Z md_Mod_tell_17 ?_
  refine lv_iload_n Z.1 Z.2.1 md_Mod_tell_18 rfl (lv_at hl 2 rfl) ?_
  refine xi_add Z md_Mod_tell_19 ?_
  refine lv_iload_n Z.1 Z.2.1 md_Mod_tell_20 rfl (lv_at hl 3 rfl) ?_
  refine xb_iast Z hw (by decide) (gm_e25 ad cI cZ) 0 rfl (5 * (3 * c + s) + a) rfl (by omega) (by omega) md_Mod_tell_21 (fun M2 H2 locs2 e2 hw => ?_)
  have h2 := gm_w12 h1 hs hc ha e2
  refine lv_aload_n Z.1 Z.2.1 md_Mod_tell_22 rfl (lv_at hl 0 rfl) ?_
  refine xb_get (v := .ref (ad (26, 0))) Z hw (by decide) (gm_e0 ad cI cZ) rfl tb_iMod 26 (by decide) mk_Mod_74 rfl rfl md_Mod_tell_23 ?_
  refine lv_iconst (v := nI 5) Z.1 Z.2.1 md_Mod_tell_26 (by decide) ?_
  refine lv_iload_n Z.1 Z.2.1 md_Mod_tell_27 rfl (lv_at hl 1 rfl) ?_
  refine xi_mul Z md_Mod_tell_28 ?_
  refine lv_iload_n Z.1 Z.2.1 md_Mod_tell_29 rfl (lv_at hl 2 rfl) ?_
  refine xi_add Z md_Mod_tell_30 ?_
  refine lv_iload Z.1 Z.2.1 md_Mod_tell_31 (lv_at hl 4 rfl) ?_
  refine xb_iast Z hw (by decide) (gm_e26 ad cI cZ) 0 rfl (5 * (3 * c + s) + a) rfl (by omega) (by omega) md_Mod_tell_33 (fun M3 H3 locs3 e3 hw => ?_)
  have h3 := gm_w13 h2 hs hc ha e3
  exact xw_vret Z hr hlk hw md_Mod_tell_34 h3
set_option maxHeartbeats 4000000 in
theorem r_leastTold (l : Launch) (D : va_G) (ad : Nat × Nat → Nat) (cI cZ : ClassId) {M : fr_M} {n q f : Nat} {S : pz_T} {s c : Nat} (hn : n ≤ 5) (h : gm_R n q f S M) (hs : s < 3) (hc : c < 2) (T : fr_TB n (S.2 s) c) {r : Nat} (hr2 : r < 2 ^ 31) : gm_C l D ad cI cZ my_Mod_leastTold mb_Mod_leastTold 5 (some .int) 1 25 M [.ref (ad (0, 0)), .int (nI (3 * c + s)), .int (nI (r))] (some (.int (nI (pz_sc n (S.2 s) c r 1000)))) (fun M' => M' = M) := by
  refine xw_start [.ref (ad (0, 0)), .int (nI (3 * c + s)), .int (nI (r))] (by decide) (Nat.le_of_ble_eq_true rfl) ?_
  intro p e st m below meth cd0 ls Z hml hr hlk hN hl hw
  have hl : lv_has ls 5 [(0, .ref (ad (0, 0))), (1, .int (nI (3 * c + s))), (2, .int (nI (r)))] := hl
  refine lv_iconst (v := nI 0) Z.1 Z.2.1 md_Mod_leastTold_0 (by decide) ?_
  refine lv_istore_n Z.1 Z.2.1 md_Mod_leastTold_1 rfl hl (by decide) rfl (fun ls hl => ?_)
  have hl : lv_has ls 5 [(3, .int (nI (0))), (0, .ref (ad (0, 0))), (1, .int (nI (3 * c + s))), (2, .int (nI (r)))] := hl
  refine lv_sipush (v := nI 1000) Z.1 Z.2.1 md_Mod_leastTold_2 (by decide) ?_
  refine lv_istore Z.1 Z.2.1 md_Mod_leastTold_5 hl (by decide) rfl (fun ls hl => ?_)
  have hl : lv_has ls 5 [(4, .int (nI (1000))), (3, .int (nI (0))), (0, .ref (ad (0, 0))), (1, .int (nI (3 * c + s))), (2, .int (nI (r)))] := hl
  have loop7 : ∀ (d i : Nat) (Hi : Heap) (Li : List Loc) (ls : Array Slot), i + d = 1000 → xw_H D tb_cl (xw_A gm_ids ad) st.heap gm_ids ad (xw_M (gm_k ad cI cZ) M) Hi Li → lv_has ls 5 [(4, .int (nI (1000 - i))), (3, .int (nI (pz_sc n (S.2 s) c r i))), (0, .ref (ad (0, 0))), (1, .int (nI (3 * c + s))), (2, .int (nI (r)))] → W p l e { frames := 1, cells := 0, slots := 0, locals := 25 } st m [.ref (ad (0, 0)), .int (nI (3 * c + s)), .int (nI (r))].toArray below meth cd0 Hi Li 0 0 (MQ below (xw_Qc D tb_cl gm_ids ad (gm_k ad cI cZ) (some (.int (nI (pz_sc n (S.2 s) c r 1000)))) (fun M' => M' = M)) [.ref (ad (0, 0)), .int (nI (3 * c + s)), .int (nI (r))].toArray st 0 0 (xw_A gm_ids ad)) (F0 m 7 ls []) := by
    intro d
    induction d with
    | zero =>
      intro i Hi Li ls hi hw hl
      refine lv_iload Z.1 Z.2.1 md_Mod_leastTold_7 (lv_at hl 0 rfl) ?_
      refine lv_iconst (v := nI 1) Z.1 Z.2.1 md_Mod_leastTold_9 (by decide) ?_
      refine xi_icmp_lt (tgt := 37) Z md_Mod_leastTold_10 (by decide) (by omega) (by omega) (fun h10 => ?_) (fun h10 => by exfalso; omega)
      refine lv_iload_n Z.1 Z.2.1 md_Mod_leastTold_37 rfl (lv_at hl 1 rfl) ?_
      exact xw_iret Z hr hlk hw md_Mod_leastTold_38 (by rw [show i = 1000 by omega]) rfl
    | succ d ih =>
      intro i Hi Li ls hi hw hl
      refine lv_iload Z.1 Z.2.1 md_Mod_leastTold_7 (lv_at hl 0 rfl) ?_
      refine lv_iconst (v := nI 1) Z.1 Z.2.1 md_Mod_leastTold_9 (by decide) ?_
      refine xi_icmp_lt (tgt := 37) Z md_Mod_leastTold_10 (by decide) (by omega) (by omega) (fun h10 => by exfalso; omega) (fun h10 => ?_)
      refine lv_aload_n Z.1 Z.2.1 md_Mod_leastTold_13 rfl (lv_at hl 2 rfl) ?_
      refine lv_iload_n Z.1 Z.2.1 md_Mod_leastTold_14 rfl (lv_at hl 3 rfl) ?_
      refine lv_iload_n Z.1 Z.2.1 md_Mod_leastTold_15 rfl (lv_at hl 4 rfl) ?_
      refine lv_iload Z.1 Z.2.1 md_Mod_leastTold_16 (lv_at hl 0 rfl) ?_
      refine xw_cV (n := 3) (rest := []) Z hml hl.1 hN hw (r_toldFor (r := r) (v := 1000 - i) l D ad cI cZ hn h hs hc T hr2 (by omega)) tb_g mc_Mod_toldFor mk_Mod_145 mi_Mod_toldFor ms_Mod_toldFor mz_Mod ⟨by decide, by decide, by decide +kernel⟩ ⟨Nat.le_of_ble_eq_true rfl, Nat.le_of_ble_eq_true rfl⟩ (by decide) (gm_e0 ad cI cZ _) rfl rfl rfl rfl (Nat.le_of_ble_eq_true rfl) ⟨Nat.le_refl _, Nat.le_refl _⟩ md_Mod_leastTold_18 (fun M1 H1 locs1 e1 hw => ?_)
      have ey1 := e1.symm
      subst ey1
      refine W.eq (g2 := F0 m 21 ls [.int (nI (pz_tf n (S.2 s) c r (1000 - i)))]) rfl ?_
      have ltf : pz_tf n (S.2 s) c r (1000 - i) ≤ n := pz_tf_le
      refine xi_if_le (tgt := 29) Z md_Mod_leastTold_21 (by decide) (by omega) (fun h21 => ?_) (fun h21 => ?_)
      · refine lv_iload_n Z.1 Z.2.1 md_Mod_leastTold_29 rfl (lv_at hl 1 rfl) ?_
        refine lv_istore_n Z.1 Z.2.1 md_Mod_leastTold_30 rfl hl (by decide) rfl (fun ls hl => ?_)
        have hl : lv_has ls 5 [(3, .int (nI (pz_sc n (S.2 s) c r i))), (4, .int (nI (1000 - i))), (0, .ref (ad (0, 0))), (1, .int (nI (3 * c + s))), (2, .int (nI (r)))] := hl
        refine lv_iinc Z.1 Z.2.1 md_Mod_leastTold_31 hl (k := 1) rfl (show _ = nI (1000 - (i + 1)) from xi_dec1 (by omega)) (by decide) rfl (fun ls hl => ?_)
        have hl : lv_has ls 5 [(4, .int (nI (1000 - (i + 1)))), (3, .int (nI (pz_sc n (S.2 s) c r i))), (0, .ref (ad (0, 0))), (1, .int (nI (3 * c + s))), (2, .int (nI (r)))] := hl
        refine lv_goto (tgt := 7) Z.1 Z.2.1 md_Mod_leastTold_34 (by decide) ?_
        refine ih (i + 1) _ _ ls (by omega) hw ?_
        first | (rw [show pz_sc n (S.2 s) c r (i + 1) = 1000 - i from by simp only [pz_sc]; rw [if_pos (by omega)]]; exact lv_sub hl [0, 1, 2, 3, 4] rfl) | (rw [show pz_sc n (S.2 s) c r (i + 1) = pz_sc n (S.2 s) c r i from by simp only [pz_sc]; rw [if_neg (by omega)]]; exact lv_sub hl [0, 1, 2, 3, 4] rfl)
      · refine lv_iload Z.1 Z.2.1 md_Mod_leastTold_24 (lv_at hl 0 rfl) ?_
        refine lv_goto (tgt := 30) Z.1 Z.2.1 md_Mod_leastTold_26 (by decide) ?_
        refine lv_istore_n Z.1 Z.2.1 md_Mod_leastTold_30 rfl hl (by decide) rfl (fun ls hl => ?_)
        have hl : lv_has ls 5 [(3, .int (nI (1000 - i))), (4, .int (nI (1000 - i))), (0, .ref (ad (0, 0))), (1, .int (nI (3 * c + s))), (2, .int (nI (r)))] := hl
        refine lv_iinc Z.1 Z.2.1 md_Mod_leastTold_31 hl (k := 1) rfl (show _ = nI (1000 - (i + 1)) from xi_dec1 (by omega)) (by decide) rfl (fun ls hl => ?_)
        have hl : lv_has ls 5 [(4, .int (nI (1000 - (i + 1)))), (3, .int (nI (1000 - i))), (0, .ref (ad (0, 0))), (1, .int (nI (3 * c + s))), (2, .int (nI (r)))] := hl
        refine lv_goto (tgt := 7) Z.1 Z.2.1 md_Mod_leastTold_34 (by decide) ?_
        refine ih (i + 1) _ _ ls (by omega) hw ?_
        first | (rw [show pz_sc n (S.2 s) c r (i + 1) = 1000 - i from by simp only [pz_sc]; rw [if_pos (by omega)]]; exact lv_sub hl [0, 1, 2, 3, 4] rfl) | (rw [show pz_sc n (S.2 s) c r (i + 1) = pz_sc n (S.2 s) c r i from by simp only [pz_sc]; rw [if_neg (by omega)]]; exact lv_sub hl [0, 1, 2, 3, 4] rfl)
  exact loop7 1000 (0) _ _ ls (by omega) hw (lv_sub hl [0, 1, 2, 3, 4] rfl)
set_option maxHeartbeats 4000000 in
theorem r_voteFor (l : Launch) (D : va_G) (ad : Nat × Nat → Nat) (cI cZ : ClassId) {M : fr_M} {n q f : Nat} {S : pz_T} {s c : Nat} (hn : n ≤ 5) (h : gm_R n q f S M) (hs : s < 3) (hc : c < 2) {v : Nat} (h60 : S.1.length ≤ 60) : gm_C l D ad cI cZ my_Mod_voteFor mb_Mod_voteFor 4 none 2 52 M [.ref (ad (0, 0)), .int (nI (3 * c + s)), .int (nI (s)), .int (nI (v))] (none) (gm_R n q f (pz_vf n S s c v)) := by
  have h0 : gm_R n q f (pz_pw S s (S.2 s)) M := by rw [pz_pw_id]; exact h
  refine xw_start [.ref (ad (0, 0)), .int (nI (3 * c + s)), .int (nI (s)), .int (nI (v))] (by decide) (Nat.le_of_ble_eq_true rfl) ?_
  intro p e st m below meth cd0 ls Z hml hr hlk hN hl hw
  have hl : lv_has ls 4 [(0, .ref (ad (0, 0))), (1, .int (nI (3 * c + s))), (2, .int (nI (s))), (3, .int (nI (v)))] := hl
  refine lv_aload_n Z.1 Z.2.1 md_Mod_voteFor_0 rfl (lv_at hl 0 rfl) ?_
  refine xb_get (v := .ref (ad (22, 0))) Z hw (by decide) (gm_e0 ad cI cZ) rfl tb_iMod 22 (by decide) mk_Mod_62 rfl rfl md_Mod_voteFor_1 ?_
  refine lv_iload_n Z.1 Z.2.1 md_Mod_voteFor_4 rfl (lv_at hl 1 rfl) ?_
  refine lv_iconst (v := nI 3) Z.1 Z.2.1 md_Mod_voteFor_5 (by decide) ?_
  refine xb_iast Z hw (by decide) (gm_e22 ad cI cZ) 0 rfl (3 * c + s) rfl (by omega) (by omega) md_Mod_voteFor_6 (fun M1 H1 locs1 e1 hw => ?_)
  have h1 := gm_w9 h0 hs hc e1
  refine lv_aload_n Z.1 Z.2.1 md_Mod_voteFor_7 rfl (lv_at hl 0 rfl) ?_
  refine lv_iconst (v := nI 4) Z.1 Z.2.1 md_Mod_voteFor_8 (by decide) ?_
  refine lv_iload_n Z.1 Z.2.1 md_Mod_voteFor_9 rfl (lv_at hl 2 rfl) ?_
  refine lv_aload_n Z.1 Z.2.1 md_Mod_voteFor_10 rfl (lv_at hl 0 rfl) ?_
  refine xb_get (v := .ref (ad (21, 0))) Z hw (by decide) (gm_e0 ad cI cZ) rfl tb_iMod 21 (by decide) mk_Mod_59 rfl rfl md_Mod_voteFor_11 ?_
  refine lv_iload_n Z.1 Z.2.1 md_Mod_voteFor_14 rfl (lv_at hl 1 rfl) ?_
  refine xw_iald Z hw (by decide) (gm_e21 ad cI cZ) 0 rfl (3 * c + s) rfl (by omega) (by omega) md_Mod_voteFor_15 ?_
  refine xi_re (show M1 (21, 0) (3 * c + s) = nI (S.2 s 8 c 0) from (by have z := gm_g8 h1 hs hc; rw [pz_pw_s, pz_u_k (by decide)] at z; exact z)) ?_
  refine lv_iload_n Z.1 Z.2.1 md_Mod_voteFor_16 rfl (lv_at hl 3 rfl) ?_
  refine xw_cV (n := 4) (rest := []) Z hml hl.1 hN hw (r_sendAll (kd := 4) (s := s) (r := S.2 s 8 c 0) (v := v) l D ad cI cZ hn h1 h60) tb_g mc_Mod_sendAll mk_Mod_107 mi_Mod_sendAll ms_Mod_sendAll mz_Mod ⟨by decide, by decide, by decide +kernel⟩ ⟨Nat.le_of_ble_eq_true rfl, Nat.le_of_ble_eq_true rfl⟩ (by decide) (gm_e0 ad cI cZ _) rfl rfl rfl rfl (Nat.le_of_ble_eq_true rfl) ⟨Nat.le_refl _, Nat.le_refl _⟩ md_Mod_voteFor_17 (fun M2 H2 locs2 h2 hw => ?_)
  refine W.eq (g2 := F0 m 20 ls []) rfl ?_
  refine xw_vret Z hr hlk hw md_Mod_voteFor_20 (gm_E_R h2 ?_)
  unfold pz_vf
  exact gm_E_sa (gm_E_pw (fun k x y h17 _ => pz_u_k h17)) _ _ _ _ _
set_option maxHeartbeats 4000000 in
theorem r_inRow5 (l : Launch) (D : va_G) (ad : Nat × Nat → Nat) (cI cZ : ClassId) {M : fr_M} {n q f : Nat} {S : pz_T} {s r v : Nat} (hn : n ≤ 5) (h : gm_R n q f S M) (hs : s < 3) (hr12 : r ≤ 12) (hv0 : v ≠ 0) (hv : v < 2 ^ 31) (hb : ∀ a, S.2 s 5 r a < 2 ^ 31) (hz : ∀ a, n ≤ a → S.2 s 5 r a = 0) : gm_C l D ad cI cZ my_Mod_inRow mb_Mod_inRow 6 (some .int) 0 0 M [.ref (ad (18, 0)), .int (nI (s)), .int (nI (r)), .int (nI (v))] (some (.int (nI (pz_sm n (fun a => if S.2 s 5 r a = v then 1 else 0))))) (fun M' => M' = M) := by
  refine xw_start [.ref (ad (18, 0)), .int (nI (s)), .int (nI (r)), .int (nI (v))] (by decide) (Nat.le_of_ble_eq_true rfl) ?_
  intro p e st m below meth cd0 ls Z hml hr hlk hN hl hw
  have hl : lv_has ls 6 [(0, .ref (ad (18, 0))), (1, .int (nI (s))), (2, .int (nI (r))), (3, .int (nI (v)))] := hl
  refine lv_iconst (v := nI 0) Z.1 Z.2.1 md_Mod_inRow_0 (by decide) ?_
  refine lv_istore Z.1 Z.2.1 md_Mod_inRow_1 hl (by decide) rfl (fun ls hl => ?_)
  have hl : lv_has ls 6 [(4, .int (nI (0))), (0, .ref (ad (18, 0))), (1, .int (nI (s))), (2, .int (nI (r))), (3, .int (nI (v)))] := hl
  refine lv_iconst (v := nI 0) Z.1 Z.2.1 md_Mod_inRow_3 (by decide) ?_
  refine lv_istore Z.1 Z.2.1 md_Mod_inRow_4 hl (by decide) rfl (fun ls hl => ?_)
  have hl : lv_has ls 6 [(5, .int (nI (0))), (4, .int (nI (0))), (0, .ref (ad (18, 0))), (1, .int (nI (s))), (2, .int (nI (r))), (3, .int (nI (v)))] := hl
  have loop6 : ∀ (d i : Nat) (Hi : Heap) (Li : List Loc) (ls : Array Slot), i + d = 5 → xw_H D tb_cl (xw_A gm_ids ad) st.heap gm_ids ad (xw_M (gm_k ad cI cZ) M) Hi Li → lv_has ls 6 [(5, .int (nI (i))), (4, .int (nI (pz_sm i (fun a => if S.2 s 5 r a = v then 1 else 0)))), (0, .ref (ad (18, 0))), (1, .int (nI (s))), (2, .int (nI (r))), (3, .int (nI (v)))] → W p l e { frames := 0, cells := 0, slots := 0, locals := 0 } st m [.ref (ad (18, 0)), .int (nI (s)), .int (nI (r)), .int (nI (v))].toArray below meth cd0 Hi Li 0 0 (MQ below (xw_Qc D tb_cl gm_ids ad (gm_k ad cI cZ) (some (.int (nI (pz_sm n (fun a => if S.2 s 5 r a = v then 1 else 0))))) (fun M' => M' = M)) [.ref (ad (18, 0)), .int (nI (s)), .int (nI (r)), .int (nI (v))].toArray st 0 0 (xw_A gm_ids ad)) (F0 m 6 ls []) := by
    intro d
    induction d with
    | zero =>
      intro i Hi Li ls hi hw hl
      refine lv_iload Z.1 Z.2.1 md_Mod_inRow_6 (lv_at hl 0 rfl) ?_
      refine lv_iconst (v := nI 5) Z.1 Z.2.1 md_Mod_inRow_8 (by decide) ?_
      refine xi_icmp_ge (tgt := 45) Z md_Mod_inRow_9 (by decide) (by omega) (by omega) (fun h9 => ?_) (fun h9 => by exfalso; omega)
      refine lv_iload Z.1 Z.2.1 md_Mod_inRow_45 (lv_at hl 1 rfl) ?_
      exact xw_iret Z hr hlk hw md_Mod_inRow_47 (by rw [show i = 5 by omega]; exact congrArg nI (pz_sm_ext 5 hn (fun a h1 h2 => by rw [if_neg (by rw [hz a h1]; omega)]))) rfl
    | succ d ih =>
      intro i Hi Li ls hi hw hl
      refine lv_iload Z.1 Z.2.1 md_Mod_inRow_6 (lv_at hl 0 rfl) ?_
      refine lv_iconst (v := nI 5) Z.1 Z.2.1 md_Mod_inRow_8 (by decide) ?_
      refine xi_icmp_ge (tgt := 45) Z md_Mod_inRow_9 (by decide) (by omega) (by omega) (fun h9 => by exfalso; omega) (fun h9 => ?_)
      refine lv_iload Z.1 Z.2.1 md_Mod_inRow_12 (lv_at hl 1 rfl) ?_
      refine lv_aload_n Z.1 Z.2.1 md_Mod_inRow_14 rfl (lv_at hl 2 rfl) ?_
      refine lv_bipush (v := nI 65) Z.1 Z.2.1 md_Mod_inRow_15 (by decide) ?_
      refine lv_iload_n Z.1 Z.2.1 md_Mod_inRow_17 rfl (lv_at hl 3 rfl) ?_
      refine xi_mul Z md_Mod_inRow_18 ?_
      refine lv_iconst (v := nI 5) Z.1 Z.2.1 md_Mod_inRow_19 (by decide) ?_
      refine lv_iload_n Z.1 Z.2.1 md_Mod_inRow_20 rfl (lv_at hl 4 rfl) ?_
      refine xi_mul Z md_Mod_inRow_21 ?_
      refine xi_add Z md_Mod_inRow_22 ?_
      refine lv_iload Z.1 Z.2.1 md_Mod_inRow_23 (lv_at hl 0 rfl) ?_
      refine xi_add Z md_Mod_inRow_25 ?_
      refine xw_iald Z hw (by decide) (gm_e18 ad cI cZ) 0 rfl (65 * s + 5 * r + i) rfl (by omega) (by omega) md_Mod_inRow_26 ?_
      refine xi_re (show M (18, 0) (65 * s + 5 * r + i) = nI (S.2 s 5 r i) from gm_g5 h hs hr12 (by omega)) ?_
      refine lv_iload_n Z.1 Z.2.1 md_Mod_inRow_27 rfl (lv_at hl 5 rfl) ?_
      have hbi := hb i
      refine xi_icmp_ne (tgt := 35) Z md_Mod_inRow_28 (by decide) (by omega) (by omega) (fun h28 => ?_) (fun h28 => ?_)
      · refine lv_iconst (v := nI 0) Z.1 Z.2.1 md_Mod_inRow_35 (by decide) ?_
        refine xi_add Z md_Mod_inRow_36 ?_
        refine lv_istore Z.1 Z.2.1 md_Mod_inRow_37 hl (by decide) rfl (fun ls hl => ?_)
        have hl : lv_has ls 6 [(4, .int (nI ((pz_sm i (fun a => if S.2 s 5 r a = v then 1 else 0)) + 0))), (5, .int (nI (i))), (0, .ref (ad (18, 0))), (1, .int (nI (s))), (2, .int (nI (r))), (3, .int (nI (v)))] := hl
        refine lv_iinc Z.1 Z.2.1 md_Mod_inRow_39 hl (k := 1) rfl (xi_inc1 (i)) (by decide) rfl (fun ls hl => ?_)
        have hl : lv_has ls 6 [(5, .int (nI (i + 1))), (4, .int (nI ((pz_sm i (fun a => if S.2 s 5 r a = v then 1 else 0)) + 0))), (0, .ref (ad (18, 0))), (1, .int (nI (s))), (2, .int (nI (r))), (3, .int (nI (v)))] := hl
        refine lv_goto (tgt := 6) Z.1 Z.2.1 md_Mod_inRow_42 (by decide) ?_
        refine ih (i + 1) _ _ ls (by omega) hw ?_
        first | (rw [show pz_sm (i + 1) (fun a => if S.2 s 5 r a = v then 1 else 0) = pz_sm i (fun a => if S.2 s 5 r a = v then 1 else 0) + 1 from by simp only [pz_sm]; rw [if_pos (by omega)]]; exact lv_sub hl [0, 1, 2, 3, 4, 5] rfl) | (rw [show pz_sm (i + 1) (fun a => if S.2 s 5 r a = v then 1 else 0) = pz_sm i (fun a => if S.2 s 5 r a = v then 1 else 0) + 0 from by simp only [pz_sm]; rw [if_neg (by omega)]]; exact lv_sub hl [0, 1, 2, 3, 4, 5] rfl)
      · refine lv_iconst (v := nI 1) Z.1 Z.2.1 md_Mod_inRow_31 (by decide) ?_
        refine lv_goto (tgt := 36) Z.1 Z.2.1 md_Mod_inRow_32 (by decide) ?_
        refine xi_add Z md_Mod_inRow_36 ?_
        refine lv_istore Z.1 Z.2.1 md_Mod_inRow_37 hl (by decide) rfl (fun ls hl => ?_)
        have hl : lv_has ls 6 [(4, .int (nI ((pz_sm i (fun a => if S.2 s 5 r a = v then 1 else 0)) + 1))), (5, .int (nI (i))), (0, .ref (ad (18, 0))), (1, .int (nI (s))), (2, .int (nI (r))), (3, .int (nI (v)))] := hl
        refine lv_iinc Z.1 Z.2.1 md_Mod_inRow_39 hl (k := 1) rfl (xi_inc1 (i)) (by decide) rfl (fun ls hl => ?_)
        have hl : lv_has ls 6 [(5, .int (nI (i + 1))), (4, .int (nI ((pz_sm i (fun a => if S.2 s 5 r a = v then 1 else 0)) + 1))), (0, .ref (ad (18, 0))), (1, .int (nI (s))), (2, .int (nI (r))), (3, .int (nI (v)))] := hl
        refine lv_goto (tgt := 6) Z.1 Z.2.1 md_Mod_inRow_42 (by decide) ?_
        refine ih (i + 1) _ _ ls (by omega) hw ?_
        first | (rw [show pz_sm (i + 1) (fun a => if S.2 s 5 r a = v then 1 else 0) = pz_sm i (fun a => if S.2 s 5 r a = v then 1 else 0) + 1 from by simp only [pz_sm]; rw [if_pos (by omega)]]; exact lv_sub hl [0, 1, 2, 3, 4, 5] rfl) | (rw [show pz_sm (i + 1) (fun a => if S.2 s 5 r a = v then 1 else 0) = pz_sm i (fun a => if S.2 s 5 r a = v then 1 else 0) + 0 from by simp only [pz_sm]; rw [if_neg (by omega)]]; exact lv_sub hl [0, 1, 2, 3, 4, 5] rfl)
  exact loop6 5 (0) _ _ ls (by omega) hw (lv_sub hl [0, 1, 2, 3, 4, 5] rfl)
set_option maxHeartbeats 4000000 in
theorem r_inRow6 (l : Launch) (D : va_G) (ad : Nat × Nat → Nat) (cI cZ : ClassId) {M : fr_M} {n q f : Nat} {S : pz_T} {s r v : Nat} (hn : n ≤ 5) (h : gm_R n q f S M) (hs : s < 3) (hr12 : r ≤ 12) (hv0 : v ≠ 0) (hv : v < 2 ^ 31) (hb : ∀ a, S.2 s 6 r a < 2 ^ 31) (hz : ∀ a, n ≤ a → S.2 s 6 r a = 0) : gm_C l D ad cI cZ my_Mod_inRow mb_Mod_inRow 6 (some .int) 0 0 M [.ref (ad (19, 0)), .int (nI (s)), .int (nI (r)), .int (nI (v))] (some (.int (nI (pz_sm n (fun a => if S.2 s 6 r a = v then 1 else 0))))) (fun M' => M' = M) := by
  refine xw_start [.ref (ad (19, 0)), .int (nI (s)), .int (nI (r)), .int (nI (v))] (by decide) (Nat.le_of_ble_eq_true rfl) ?_
  intro p e st m below meth cd0 ls Z hml hr hlk hN hl hw
  have hl : lv_has ls 6 [(0, .ref (ad (19, 0))), (1, .int (nI (s))), (2, .int (nI (r))), (3, .int (nI (v)))] := hl
  refine lv_iconst (v := nI 0) Z.1 Z.2.1 md_Mod_inRow_0 (by decide) ?_
  refine lv_istore Z.1 Z.2.1 md_Mod_inRow_1 hl (by decide) rfl (fun ls hl => ?_)
  have hl : lv_has ls 6 [(4, .int (nI (0))), (0, .ref (ad (19, 0))), (1, .int (nI (s))), (2, .int (nI (r))), (3, .int (nI (v)))] := hl
  refine lv_iconst (v := nI 0) Z.1 Z.2.1 md_Mod_inRow_3 (by decide) ?_
  refine lv_istore Z.1 Z.2.1 md_Mod_inRow_4 hl (by decide) rfl (fun ls hl => ?_)
  have hl : lv_has ls 6 [(5, .int (nI (0))), (4, .int (nI (0))), (0, .ref (ad (19, 0))), (1, .int (nI (s))), (2, .int (nI (r))), (3, .int (nI (v)))] := hl
  have loop6 : ∀ (d i : Nat) (Hi : Heap) (Li : List Loc) (ls : Array Slot), i + d = 5 → xw_H D tb_cl (xw_A gm_ids ad) st.heap gm_ids ad (xw_M (gm_k ad cI cZ) M) Hi Li → lv_has ls 6 [(5, .int (nI (i))), (4, .int (nI (pz_sm i (fun a => if S.2 s 6 r a = v then 1 else 0)))), (0, .ref (ad (19, 0))), (1, .int (nI (s))), (2, .int (nI (r))), (3, .int (nI (v)))] → W p l e { frames := 0, cells := 0, slots := 0, locals := 0 } st m [.ref (ad (19, 0)), .int (nI (s)), .int (nI (r)), .int (nI (v))].toArray below meth cd0 Hi Li 0 0 (MQ below (xw_Qc D tb_cl gm_ids ad (gm_k ad cI cZ) (some (.int (nI (pz_sm n (fun a => if S.2 s 6 r a = v then 1 else 0))))) (fun M' => M' = M)) [.ref (ad (19, 0)), .int (nI (s)), .int (nI (r)), .int (nI (v))].toArray st 0 0 (xw_A gm_ids ad)) (F0 m 6 ls []) := by
    intro d
    induction d with
    | zero =>
      intro i Hi Li ls hi hw hl
      refine lv_iload Z.1 Z.2.1 md_Mod_inRow_6 (lv_at hl 0 rfl) ?_
      refine lv_iconst (v := nI 5) Z.1 Z.2.1 md_Mod_inRow_8 (by decide) ?_
      refine xi_icmp_ge (tgt := 45) Z md_Mod_inRow_9 (by decide) (by omega) (by omega) (fun h9 => ?_) (fun h9 => by exfalso; omega)
      refine lv_iload Z.1 Z.2.1 md_Mod_inRow_45 (lv_at hl 1 rfl) ?_
      exact xw_iret Z hr hlk hw md_Mod_inRow_47 (by rw [show i = 5 by omega]; exact congrArg nI (pz_sm_ext 5 hn (fun a h1 h2 => by rw [if_neg (by rw [hz a h1]; omega)]))) rfl
    | succ d ih =>
      intro i Hi Li ls hi hw hl
      refine lv_iload Z.1 Z.2.1 md_Mod_inRow_6 (lv_at hl 0 rfl) ?_
      refine lv_iconst (v := nI 5) Z.1 Z.2.1 md_Mod_inRow_8 (by decide) ?_
      refine xi_icmp_ge (tgt := 45) Z md_Mod_inRow_9 (by decide) (by omega) (by omega) (fun h9 => by exfalso; omega) (fun h9 => ?_)
      refine lv_iload Z.1 Z.2.1 md_Mod_inRow_12 (lv_at hl 1 rfl) ?_
      refine lv_aload_n Z.1 Z.2.1 md_Mod_inRow_14 rfl (lv_at hl 2 rfl) ?_
      refine lv_bipush (v := nI 65) Z.1 Z.2.1 md_Mod_inRow_15 (by decide) ?_
      refine lv_iload_n Z.1 Z.2.1 md_Mod_inRow_17 rfl (lv_at hl 3 rfl) ?_
      refine xi_mul Z md_Mod_inRow_18 ?_
      refine lv_iconst (v := nI 5) Z.1 Z.2.1 md_Mod_inRow_19 (by decide) ?_
      refine lv_iload_n Z.1 Z.2.1 md_Mod_inRow_20 rfl (lv_at hl 4 rfl) ?_
      refine xi_mul Z md_Mod_inRow_21 ?_
      refine xi_add Z md_Mod_inRow_22 ?_
      refine lv_iload Z.1 Z.2.1 md_Mod_inRow_23 (lv_at hl 0 rfl) ?_
      refine xi_add Z md_Mod_inRow_25 ?_
      refine xw_iald Z hw (by decide) (gm_e19 ad cI cZ) 0 rfl (65 * s + 5 * r + i) rfl (by omega) (by omega) md_Mod_inRow_26 ?_
      refine xi_re (show M (19, 0) (65 * s + 5 * r + i) = nI (S.2 s 6 r i) from gm_g6 h hs hr12 (by omega)) ?_
      refine lv_iload_n Z.1 Z.2.1 md_Mod_inRow_27 rfl (lv_at hl 5 rfl) ?_
      have hbi := hb i
      refine xi_icmp_ne (tgt := 35) Z md_Mod_inRow_28 (by decide) (by omega) (by omega) (fun h28 => ?_) (fun h28 => ?_)
      · refine lv_iconst (v := nI 0) Z.1 Z.2.1 md_Mod_inRow_35 (by decide) ?_
        refine xi_add Z md_Mod_inRow_36 ?_
        refine lv_istore Z.1 Z.2.1 md_Mod_inRow_37 hl (by decide) rfl (fun ls hl => ?_)
        have hl : lv_has ls 6 [(4, .int (nI ((pz_sm i (fun a => if S.2 s 6 r a = v then 1 else 0)) + 0))), (5, .int (nI (i))), (0, .ref (ad (19, 0))), (1, .int (nI (s))), (2, .int (nI (r))), (3, .int (nI (v)))] := hl
        refine lv_iinc Z.1 Z.2.1 md_Mod_inRow_39 hl (k := 1) rfl (xi_inc1 (i)) (by decide) rfl (fun ls hl => ?_)
        have hl : lv_has ls 6 [(5, .int (nI (i + 1))), (4, .int (nI ((pz_sm i (fun a => if S.2 s 6 r a = v then 1 else 0)) + 0))), (0, .ref (ad (19, 0))), (1, .int (nI (s))), (2, .int (nI (r))), (3, .int (nI (v)))] := hl
        refine lv_goto (tgt := 6) Z.1 Z.2.1 md_Mod_inRow_42 (by decide) ?_
        refine ih (i + 1) _ _ ls (by omega) hw ?_
        first | (rw [show pz_sm (i + 1) (fun a => if S.2 s 6 r a = v then 1 else 0) = pz_sm i (fun a => if S.2 s 6 r a = v then 1 else 0) + 1 from by simp only [pz_sm]; rw [if_pos (by omega)]]; exact lv_sub hl [0, 1, 2, 3, 4, 5] rfl) | (rw [show pz_sm (i + 1) (fun a => if S.2 s 6 r a = v then 1 else 0) = pz_sm i (fun a => if S.2 s 6 r a = v then 1 else 0) + 0 from by simp only [pz_sm]; rw [if_neg (by omega)]]; exact lv_sub hl [0, 1, 2, 3, 4, 5] rfl)
      · refine lv_iconst (v := nI 1) Z.1 Z.2.1 md_Mod_inRow_31 (by decide) ?_
        refine lv_goto (tgt := 36) Z.1 Z.2.1 md_Mod_inRow_32 (by decide) ?_
        refine xi_add Z md_Mod_inRow_36 ?_
        refine lv_istore Z.1 Z.2.1 md_Mod_inRow_37 hl (by decide) rfl (fun ls hl => ?_)
        have hl : lv_has ls 6 [(4, .int (nI ((pz_sm i (fun a => if S.2 s 6 r a = v then 1 else 0)) + 1))), (5, .int (nI (i))), (0, .ref (ad (19, 0))), (1, .int (nI (s))), (2, .int (nI (r))), (3, .int (nI (v)))] := hl
        refine lv_iinc Z.1 Z.2.1 md_Mod_inRow_39 hl (k := 1) rfl (xi_inc1 (i)) (by decide) rfl (fun ls hl => ?_)
        have hl : lv_has ls 6 [(5, .int (nI (i + 1))), (4, .int (nI ((pz_sm i (fun a => if S.2 s 6 r a = v then 1 else 0)) + 1))), (0, .ref (ad (19, 0))), (1, .int (nI (s))), (2, .int (nI (r))), (3, .int (nI (v)))] := hl
        refine lv_goto (tgt := 6) Z.1 Z.2.1 md_Mod_inRow_42 (by decide) ?_
        refine ih (i + 1) _ _ ls (by omega) hw ?_
        first | (rw [show pz_sm (i + 1) (fun a => if S.2 s 6 r a = v then 1 else 0) = pz_sm i (fun a => if S.2 s 6 r a = v then 1 else 0) + 1 from by simp only [pz_sm]; rw [if_pos (by omega)]]; exact lv_sub hl [0, 1, 2, 3, 4, 5] rfl) | (rw [show pz_sm (i + 1) (fun a => if S.2 s 6 r a = v then 1 else 0) = pz_sm i (fun a => if S.2 s 6 r a = v then 1 else 0) + 0 from by simp only [pz_sm]; rw [if_neg (by omega)]]; exact lv_sub hl [0, 1, 2, 3, 4, 5] rfl)
  exact loop6 5 (0) _ _ ls (by omega) hw (lv_sub hl [0, 1, 2, 3, 4, 5] rfl)
set_option maxHeartbeats 4000000 in
theorem r_learn (l : Launch) (D : va_G) (ad : Nat × Nat → Nat) (cI cZ : ClassId) {M : fr_M} {n q f : Nat} {S : pz_T} {s r a v : Nat} (hn : n ≤ 5) (hq : q ≤ 5) (hf : f ≤ 5) (h : gm_R n q f S M) (hs : s < 3) (hr12 : r ≤ 12) (ha : a < 5) (han : a < n) (hv0 : v ≠ 0) (hv : v < 2 ^ 31) (hb : ∀ b, S.2 s 6 r b < 2 ^ 31) (hz : ∀ b, n ≤ b → S.2 s 6 r b = 0) (h7 : S.2 s 7 0 0 < 2 ^ 31) : gm_C l D ad cI cZ my_Mod_learn mb_Mod_learn 5 none 2 41 M [.ref (ad (0, 0)), .int (nI (s)), .int (nI (r)), .int (nI (a)), .int (nI (v))] (none) (gm_R n q f (pz_pw S s (pz_l2 n q f (S.2 s) r a v))) := by
  have h0 : gm_R n q f (pz_pw S s (S.2 s)) M := by rw [pz_pw_id]; exact h
  refine xw_start [.ref (ad (0, 0)), .int (nI (s)), .int (nI (r)), .int (nI (a)), .int (nI (v))] (by decide) (Nat.le_of_ble_eq_true rfl) ?_
  intro p e st m below meth cd0 ls Z hml hr hlk hN hl hw
  have hl : lv_has ls 5 [(0, .ref (ad (0, 0))), (1, .int (nI (s))), (2, .int (nI (r))), (3, .int (nI (a))), (4, .int (nI (v)))] := hl
  refine lv_aload_n Z.1 Z.2.1 md_Mod_learn_0 rfl (lv_at hl 0 rfl) ?_
  refine xb_get (v := .ref (ad (19, 0))) Z hw (by decide) (gm_e0 ad cI cZ) rfl tb_iMod 19 (by decide) mk_Mod_53 rfl rfl md_Mod_learn_1 ?_
  refine lv_bipush (v := nI 65) Z.1 Z.2.1 md_Mod_learn_4 (by decide) ?_
  refine lv_iload_n Z.1 Z.2.1 md_Mod_learn_6 rfl (lv_at hl 1 rfl) ?_
  refine xi_mul Z md_Mod_learn_7 ?_
  refine lv_iconst (v := nI 5) Z.1 Z.2.1 md_Mod_learn_8 (by decide) ?_
  refine lv_iload_n Z.1 Z.2.1 md_Mod_learn_9 rfl (lv_at hl 2 rfl) ?_
  refine xi_mul Z md_Mod_learn_10 ?_
  refine xi_add Z md_Mod_learn_11 ?_
  refine lv_iload_n Z.1 Z.2.1 md_Mod_learn_12 rfl (lv_at hl 3 rfl) ?_
  refine xi_add Z md_Mod_learn_13 ?_
  refine lv_iload Z.1 Z.2.1 md_Mod_learn_14 (lv_at hl 4 rfl) ?_
  refine xb_iast Z hw (by decide) (gm_e19 ad cI cZ) 0 rfl (65 * s + 5 * r + a) rfl (by omega) (by omega) md_Mod_learn_16 (fun M1 H1 locs1 e1 hw => ?_)
  have h1 := gm_w6 h0 hs hr12 ha e1
  have hb1 : ∀ b, (pz_pw S s (pz_u (S.2 s) 6 r a v)).2 s 6 r b < 2 ^ 31 := fun b => by rw [pz_pw_s]; unfold pz_u; split <;> first | exact hv | exact hb b
  have hz1 : ∀ b, n ≤ b → (pz_pw S s (pz_u (S.2 s) 6 r a v)).2 s 6 r b = 0 := fun b hb => by rw [pz_pw_s, pz_u_y (by omega)]; exact hz b hb
  refine lv_aload_n Z.1 Z.2.1 md_Mod_learn_17 rfl (lv_at hl 0 rfl) ?_
  refine xb_get (v := .ref (ad (20, 0))) Z hw (by decide) (gm_e0 ad cI cZ) rfl tb_iMod 20 (by decide) mk_Mod_56 rfl rfl md_Mod_learn_18 ?_
  refine lv_iload_n Z.1 Z.2.1 md_Mod_learn_21 rfl (lv_at hl 1 rfl) ?_
  refine xw_iald Z hw (by decide) (gm_e20 ad cI cZ) 0 rfl (s) rfl (by omega) (by omega) md_Mod_learn_22 ?_
  refine xi_re (show M1 (20, 0) (s) = nI (S.2 s 7 0 0) from (by have z := gm_g7 h1 hs; rw [pz_pw_s, pz_u_k (by decide)] at z; exact z)) ?_
  refine xi_if_ne (tgt := 53) Z md_Mod_learn_23 (by decide) (by omega) (fun h23 => ?_) (fun h23 => ?_)
  · refine xw_vret Z hr hlk hw md_Mod_learn_53 ?_
    have e : pz_l2 n q f (S.2 s) r a v = (pz_u (S.2 s) 6 r a v) := by unfold pz_l2; rw [if_neg (by omega), show S.2 s 7 0 0 = (pz_u (S.2 s) 6 r a v) 7 0 0 from (pz_u_k (by decide)).symm, pz_u_id]
    rw [e]
    exact h1
  · refine lv_aload_n Z.1 Z.2.1 md_Mod_learn_26 rfl (lv_at hl 0 rfl) ?_
    refine xb_get (v := .ref (ad (19, 0))) Z hw (by decide) (gm_e0 ad cI cZ) rfl tb_iMod 19 (by decide) mk_Mod_53 rfl rfl md_Mod_learn_27 ?_
    refine lv_iload_n Z.1 Z.2.1 md_Mod_learn_30 rfl (lv_at hl 1 rfl) ?_
    refine lv_iload_n Z.1 Z.2.1 md_Mod_learn_31 rfl (lv_at hl 2 rfl) ?_
    refine lv_iload Z.1 Z.2.1 md_Mod_learn_32 (lv_at hl 4 rfl) ?_
    refine xw_cS (n := 4) (rest := []) Z hml hl.1 hN hw (r_inRow6 (S := pz_pw S s (pz_u (S.2 s) 6 r a v)) (s := s) (r := r) (v := v) l D ad cI cZ hn h1 hs hr12 hv0 hv hb1 hz1) tb_g mc_Mod_inRow mk_Mod_172 mt_Mod_inRow mz_Mod ⟨by decide, by decide, by decide +kernel⟩ ⟨Nat.le_of_ble_eq_true rfl, Nat.le_of_ble_eq_true rfl⟩ rfl rfl (Nat.le_of_ble_eq_true rfl) ⟨Nat.le_refl _, Nat.le_refl _⟩ md_Mod_learn_34 (fun M2 H2 locs2 e2 hw => ?_)
    have ey2 := e2.symm
    subst ey2
    refine W.eq (g2 := F0 m 37 ls [.int (nI (pz_sm n (fun a_1 => if (pz_pw S s (pz_u (S.2 s) 6 r a v)).2 s 6 r a_1 = v then 1 else 0)))]) rfl ?_
    refine xi_re (show _ = nI (pz_hv (pz_u (S.2 s) 6 r a v) n r v) from (by rw [pz_pw_s]; rfl)) ?_
    refine lv_aload_n Z.1 Z.2.1 md_Mod_learn_37 rfl (lv_at hl 0 rfl) ?_
    refine lv_iload_n Z.1 Z.2.1 md_Mod_learn_38 rfl (lv_at hl 2 rfl) ?_
    refine xw_cV (n := 1) (rest := [.int (nI (pz_hv (pz_u (S.2 s) 6 r a v) n r v))]) Z hml hl.1 hN hw (r_enough l D ad cI cZ h1.1 (by omega)) tb_g mc_Mod_enough mk_Mod_176 mi_Mod_enough ms_Mod_enough mz_Mod ⟨by decide, by decide, by decide +kernel⟩ ⟨Nat.le_of_ble_eq_true rfl, Nat.le_of_ble_eq_true rfl⟩ (by decide) (gm_e0 ad cI cZ _) rfl rfl rfl rfl (Nat.le_of_ble_eq_true rfl) ⟨Nat.le_refl _, Nat.le_refl _⟩ md_Mod_learn_39 (fun M3 H3 locs3 e3 hw => ?_)
    have ey3 := e3.symm
    subst ey3
    refine W.eq (g2 := F0 m 42 ls [.int (nI (pz_en q f r)), .int (nI (pz_hv (pz_u (S.2 s) 6 r a v) n r v))]) rfl ?_
    have l1 : pz_en q f r < 2 ^ 31 := by unfold pz_en; split <;> omega
    have l2 : pz_hv (pz_u (S.2 s) 6 r a v) n r v ≤ n := Nat.le_trans (pz_sm_le n (h := fun _ => 1) (fun b _ => by split <;> omega)) (by rw [pz_sm_const]; omega)
    refine xi_icmp_lt (tgt := 53) Z md_Mod_learn_42 (by decide) (by omega) (by omega) (fun h42 => ?_) (fun h42 => ?_)
    · refine xw_vret Z hr hlk hw md_Mod_learn_53 ?_
      have e : pz_l2 n q f (S.2 s) r a v = (pz_u (S.2 s) 6 r a v) := by unfold pz_l2; rw [if_neg (by omega), show S.2 s 7 0 0 = (pz_u (S.2 s) 6 r a v) 7 0 0 from (pz_u_k (by decide)).symm, pz_u_id]
      rw [e]
      exact h1
    · refine lv_aload_n Z.1 Z.2.1 md_Mod_learn_45 rfl (lv_at hl 0 rfl) ?_
      refine xb_get (v := .ref (ad (20, 0))) Z hw (by decide) (gm_e0 ad cI cZ) rfl tb_iMod 20 (by decide) mk_Mod_56 rfl rfl md_Mod_learn_46 ?_
      refine lv_iload_n Z.1 Z.2.1 md_Mod_learn_49 rfl (lv_at hl 1 rfl) ?_
      refine lv_iload Z.1 Z.2.1 md_Mod_learn_50 (lv_at hl 4 rfl) ?_
      refine xb_iast Z hw (by decide) (gm_e20 ad cI cZ) 0 rfl (s) rfl (by omega) (by omega) md_Mod_learn_52 (fun M4 H4 locs4 e4 hw => ?_)
      have h2 := gm_w7 h1 hs e4
      refine xw_vret Z hr hlk hw md_Mod_learn_53 ?_
      have e : pz_l2 n q f (S.2 s) r a v = pz_u (pz_u (S.2 s) 6 r a v) 7 0 0 v := by unfold pz_l2; rw [if_pos (by omega)]
      rw [e]
      exact h2
set_option maxHeartbeats 4000000 in
theorem r_casts (l : Launch) (D : va_G) (ad : Nat × Nat → Nat) (cI cZ : ClassId) {M : fr_M} {n q f : Nat} {S : pz_T} {s r a v : Nat} (hn : n ≤ 5) (h : gm_R n q f S M) (h60 : S.1.length ≤ 60) (hs : s < 3) (hr12 : r ≤ 12) (ha : a < 5) : gm_C l D ad cI cZ my_Mod_casts mb_Mod_casts 6 none 1 27 M [.ref (ad (0, 0)), .int (nI (a)), .int (nI (s)), .int (nI (r)), .int (nI (v))] (none) (gm_R n q f (pz_cast n q f S s a r v)) := by
  have h0 : gm_R n q f (pz_pw S s (S.2 s)) M := by rw [pz_pw_id]; exact h
  refine xw_start [.ref (ad (0, 0)), .int (nI (a)), .int (nI (s)), .int (nI (r)), .int (nI (v))] (by decide) (Nat.le_of_ble_eq_true rfl) ?_
  intro p e st m below meth cd0 ls Z hml hr hlk hN hl hw
  have hl : lv_has ls 6 [(0, .ref (ad (0, 0))), (1, .int (nI (a))), (2, .int (nI (s))), (3, .int (nI (r))), (4, .int (nI (v)))] := hl
  refine lv_iconst (v := nI 5) Z.1 Z.2.1 md_Mod_casts_0 (by decide) ?_
  refine lv_iload_n Z.1 Z.2.1 md_Mod_casts_1 rfl (lv_at hl 2 rfl) ?_
  refine xi_mul Z md_Mod_casts_2 ?_
  refine lv_iload_n Z.1 Z.2.1 md_Mod_casts_3 rfl (lv_at hl 1 rfl) ?_
  refine xi_add Z md_Mod_casts_4 ?_
  refine lv_istore Z.1 Z.2.1 md_Mod_casts_5 hl (by decide) rfl (fun ls hl => ?_)
  have hl : lv_has ls 6 [(5, .int (nI ((5 * s) + a))), (0, .ref (ad (0, 0))), (1, .int (nI (a))), (2, .int (nI (s))), (3, .int (nI (r))), (4, .int (nI (v)))] := hl
  refine lv_aload_n Z.1 Z.2.1 md_Mod_casts_7 rfl (lv_at hl 1 rfl) ?_
  refine xb_get (v := .ref (ad (14, 0))) Z hw (by decide) (gm_e0 ad cI cZ) rfl tb_iMod 14 (by decide) mk_Mod_38 rfl rfl md_Mod_casts_8 ?_
  refine lv_iload Z.1 Z.2.1 md_Mod_casts_11 (lv_at hl 0 rfl) ?_
  refine lv_iload Z.1 Z.2.1 md_Mod_casts_13 (lv_at hl 5 rfl) ?_
  refine xb_iast Z hw (by decide) (gm_e14 ad cI cZ) 0 rfl (5 * s + a) rfl (by omega) (by omega) md_Mod_casts_15 (fun M1 H1 locs1 e1 hw => ?_)
  have h1 := gm_w1 h0 hs ha e1
  refine lv_aload_n Z.1 Z.2.1 md_Mod_casts_16 rfl (lv_at hl 1 rfl) ?_
  refine xb_get (v := .ref (ad (15, 0))) Z hw (by decide) (gm_e0 ad cI cZ) rfl tb_iMod 15 (by decide) mk_Mod_41 rfl rfl md_Mod_casts_17 ?_
  refine lv_iload Z.1 Z.2.1 md_Mod_casts_20 (lv_at hl 0 rfl) ?_
  refine lv_iload_n Z.1 Z.2.1 md_Mod_casts_22 rfl (lv_at hl 4 rfl) ?_
  refine xb_iast Z hw (by decide) (gm_e15 ad cI cZ) 0 rfl (5 * s + a) rfl (by omega) (by omega) md_Mod_casts_23 (fun M2 H2 locs2 e2 hw => ?_)
  have h2 := gm_w2 h1 hs ha e2
  refine lv_aload_n Z.1 Z.2.1 md_Mod_casts_24 rfl (lv_at hl 1 rfl) ?_
  refine xb_get (v := .ref (ad (18, 0))) Z hw (by decide) (gm_e0 ad cI cZ) rfl tb_iMod 18 (by decide) mk_Mod_50 rfl rfl md_Mod_casts_25 ?_
  refine lv_bipush (v := nI 65) Z.1 Z.2.1 md_Mod_casts_28 (by decide) ?_
  refine lv_iload_n Z.1 Z.2.1 md_Mod_casts_30 rfl (lv_at hl 3 rfl) ?_
  refine xi_mul Z md_Mod_casts_31 ?_
  refine lv_iconst (v := nI 5) Z.1 Z.2.1 md_Mod_casts_32 (by decide) ?_
  refine lv_iload_n Z.1 Z.2.1 md_Mod_casts_33 rfl (lv_at hl 4 rfl) ?_
  refine xi_mul Z md_Mod_casts_34 ?_
  refine xi_add Z md_Mod_casts_35 ?_
  refine lv_iload_n Z.1 Z.2.1 md_Mod_casts_36 rfl (lv_at hl 2 rfl) ?_
  refine xi_add Z md_Mod_casts_37 ?_
  refine lv_iload Z.1 Z.2.1 md_Mod_casts_38 (lv_at hl 5 rfl) ?_
  refine xb_iast Z hw (by decide) (gm_e18 ad cI cZ) 0 rfl (65 * s + 5 * r + a) rfl (by omega) (by omega) md_Mod_casts_40 (fun M3 H3 locs3 e3 hw => ?_)
  have h3 := gm_w5 h2 hs hr12 ha e3
  refine lv_aload_n Z.1 Z.2.1 md_Mod_casts_41 rfl (lv_at hl 1 rfl) ?_
  refine lv_iconst (v := nI 5) Z.1 Z.2.1 md_Mod_casts_42 (by decide) ?_
  refine lv_iload_n Z.1 Z.2.1 md_Mod_casts_43 rfl (lv_at hl 3 rfl) ?_
  refine lv_iload_n Z.1 Z.2.1 md_Mod_casts_44 rfl (lv_at hl 4 rfl) ?_
  refine lv_iload_n Z.1 Z.2.1 md_Mod_casts_45 rfl (lv_at hl 2 rfl) ?_
  refine lv_iload_n Z.1 Z.2.1 md_Mod_casts_46 rfl (lv_at hl 4 rfl) ?_
  refine xw_cS (n := 1) (rest := [.int (nI (a)), .int (nI (r)), .int (nI (s)), .int (nI (5)), .ref (ad (0, 0))]) Z hml hl.1 hN hw (r_coordinatorOf l D ad cI cZ (M := M3) (by omega)) tb_g mc_Mod_coordinatorOf mk_Mod_114 mt_Mod_coordinatorOf mz_Mod ⟨by decide, by decide, by decide +kernel⟩ ⟨Nat.le_of_ble_eq_true rfl, Nat.le_of_ble_eq_true rfl⟩ rfl rfl (Nat.le_of_ble_eq_true rfl) ⟨Nat.le_refl _, Nat.le_refl _⟩ md_Mod_casts_47 (fun M4 H4 locs4 e4 hw => ?_)
  have ey4 := e4.symm
  subst ey4
  refine W.eq (g2 := F0 m 50 ls [.int (nI (8 + pz_ci r)), .int (nI (a)), .int (nI (r)), .int (nI (s)), .int (nI (5)), .ref (ad (0, 0))]) rfl ?_
  refine lv_iload Z.1 Z.2.1 md_Mod_casts_50 (lv_at hl 5 rfl) ?_
  refine lv_iconst (v := nI 0) Z.1 Z.2.1 md_Mod_casts_52 (by decide) ?_
  refine xw_cV (n := 7) (rest := []) Z hml hl.1 hN hw (r_send (g := pz_mg 5 s r a (8 + pz_ci r) v 0) l D ad cI cZ h3 h60) tb_g mc_Mod_send mk_Mod_97 mi_Mod_send ms_Mod_send mz_Mod ⟨by decide, by decide, by decide +kernel⟩ ⟨Nat.le_of_ble_eq_true rfl, Nat.le_of_ble_eq_true rfl⟩ (by decide) (gm_e0 ad cI cZ _) rfl rfl rfl rfl (Nat.le_of_ble_eq_true rfl) ⟨Nat.le_refl _, Nat.le_refl _⟩ md_Mod_casts_53 (fun M5 H5 locs5 h4 hw => ?_)
  refine W.eq (g2 := F0 m 56 ls []) rfl ?_
  refine lv_aload_n Z.1 Z.2.1 md_Mod_casts_56 rfl (lv_at hl 1 rfl) ?_
  refine lv_iconst (v := nI 5) Z.1 Z.2.1 md_Mod_casts_57 (by decide) ?_
  refine lv_iload_n Z.1 Z.2.1 md_Mod_casts_58 rfl (lv_at hl 3 rfl) ?_
  refine lv_iload_n Z.1 Z.2.1 md_Mod_casts_59 rfl (lv_at hl 4 rfl) ?_
  refine lv_iload_n Z.1 Z.2.1 md_Mod_casts_60 rfl (lv_at hl 2 rfl) ?_
  refine lv_bipush (v := nI 10) Z.1 Z.2.1 md_Mod_casts_61 (by decide) ?_
  refine lv_iload Z.1 Z.2.1 md_Mod_casts_63 (lv_at hl 5 rfl) ?_
  refine lv_iconst (v := nI 0) Z.1 Z.2.1 md_Mod_casts_65 (by decide) ?_
  refine xw_cV (n := 7) (rest := []) Z hml hl.1 hN hw (r_send (g := pz_mg 5 s r a 10 v 0) l D ad cI cZ h4 (fr_sd_len h60)) tb_g mc_Mod_send mk_Mod_97 mi_Mod_send ms_Mod_send mz_Mod ⟨by decide, by decide, by decide +kernel⟩ ⟨Nat.le_of_ble_eq_true rfl, Nat.le_of_ble_eq_true rfl⟩ (by decide) (gm_e0 ad cI cZ _) rfl rfl rfl rfl (Nat.le_of_ble_eq_true rfl) ⟨Nat.le_refl _, Nat.le_refl _⟩ md_Mod_casts_66 (fun M6 H6 locs6 h5 hw => ?_)
  refine W.eq (g2 := F0 m 69 ls []) rfl ?_
  exact xw_vret Z hr hlk hw md_Mod_casts_69 (gm_E_R h5 (gm_E_sd (gm_E_sd (gm_E_pw (fun k x y _ h16 => by unfold pz_v2; exact pz_u_k h16)) _) _))
