/-! The reference's own face. -/
theorem md_Mod_propose_0 : decode mb_Mod_propose 0 = .ok (.iload_n 1, 1) := by decide +kernel
theorem md_Mod_propose_1 : decode mb_Mod_propose 1 = .ok (.invokestatic 101, 3) := by decide +kernel
theorem md_Mod_propose_4 : decode mb_Mod_propose 4 = .ok (.ifCond .eq 10, 3) := by decide +kernel
theorem md_Mod_propose_7 : decode mb_Mod_propose 7 = .ok (.iload_n 2, 1) := by decide +kernel
theorem md_Mod_propose_8 : decode mb_Mod_propose 8 = .ok (.invokestatic 104, 3) := by decide +kernel
theorem md_Mod_propose_11 : decode mb_Mod_propose 11 = .ok (.ifCond .ne 5, 3) := by decide +kernel
theorem md_Mod_propose_14 : decode mb_Mod_propose 14 = .ok (.iconst (-1), 1) := by decide +kernel
theorem md_Mod_propose_15 : decode mb_Mod_propose 15 = .ok (.ireturn, 1) := by decide +kernel
theorem md_Mod_propose_16 : decode mb_Mod_propose 16 = .ok (.aload_n 0, 1) := by decide +kernel
theorem md_Mod_propose_17 : decode mb_Mod_propose 17 = .ok (.iconst 1, 1) := by decide +kernel
theorem md_Mod_propose_18 : decode mb_Mod_propose 18 = .ok (.iload_n 1, 1) := by decide +kernel
theorem md_Mod_propose_19 : decode mb_Mod_propose 19 = .ok (.iconst 0, 1) := by decide +kernel
theorem md_Mod_propose_20 : decode mb_Mod_propose 20 = .ok (.iload_n 2, 1) := by decide +kernel
theorem md_Mod_propose_21 : decode mb_Mod_propose 21 = .ok (.invokevirtual 107, 3) := by decide +kernel
theorem md_Mod_propose_24 : decode mb_Mod_propose 24 = .ok (.aload_n 0, 1) := by decide +kernel
theorem md_Mod_propose_25 : decode mb_Mod_propose 25 = .ok (.iconst 1, 1) := by decide +kernel
theorem md_Mod_propose_26 : decode mb_Mod_propose 26 = .ok (.iload_n 1, 1) := by decide +kernel
theorem md_Mod_propose_27 : decode mb_Mod_propose 27 = .ok (.iconst 0, 1) := by decide +kernel
theorem md_Mod_propose_28 : decode mb_Mod_propose 28 = .ok (.iconst 0, 1) := by decide +kernel
theorem md_Mod_propose_29 : decode mb_Mod_propose 29 = .ok (.bipush 8, 2) := by decide +kernel
theorem md_Mod_propose_31 : decode mb_Mod_propose 31 = .ok (.iload_n 2, 1) := by decide +kernel
theorem md_Mod_propose_32 : decode mb_Mod_propose 32 = .ok (.iconst 0, 1) := by decide +kernel
theorem md_Mod_propose_33 : decode mb_Mod_propose 33 = .ok (.invokevirtual 97, 3) := by decide +kernel
theorem md_Mod_propose_36 : decode mb_Mod_propose 36 = .ok (.aload_n 0, 1) := by decide +kernel
theorem md_Mod_propose_37 : decode mb_Mod_propose 37 = .ok (.iconst 1, 1) := by decide +kernel
theorem md_Mod_propose_38 : decode mb_Mod_propose 38 = .ok (.iload_n 1, 1) := by decide +kernel
theorem md_Mod_propose_39 : decode mb_Mod_propose 39 = .ok (.iconst 0, 1) := by decide +kernel
theorem md_Mod_propose_40 : decode mb_Mod_propose 40 = .ok (.iconst 0, 1) := by decide +kernel
theorem md_Mod_propose_41 : decode mb_Mod_propose 41 = .ok (.bipush 9, 2) := by decide +kernel
theorem md_Mod_propose_43 : decode mb_Mod_propose 43 = .ok (.iload_n 2, 1) := by decide +kernel
theorem md_Mod_propose_44 : decode mb_Mod_propose 44 = .ok (.iconst 0, 1) := by decide +kernel
theorem md_Mod_propose_45 : decode mb_Mod_propose 45 = .ok (.invokevirtual 97, 3) := by decide +kernel
theorem md_Mod_propose_48 : decode mb_Mod_propose 48 = .ok (.aload_n 0, 1) := by decide +kernel
theorem md_Mod_propose_49 : decode mb_Mod_propose 49 = .ok (.getfield 91, 3) := by decide +kernel
theorem md_Mod_propose_52 : decode mb_Mod_propose 52 = .ok (.ireturn, 1) := by decide +kernel
theorem md_Mod_begin_0 : decode mb_Mod_begin 0 = .ok (.iload_n 1, 1) := by decide +kernel
theorem md_Mod_begin_1 : decode mb_Mod_begin 1 = .ok (.invokestatic 101, 3) := by decide +kernel
theorem md_Mod_begin_4 : decode mb_Mod_begin 4 = .ok (.ifCond .eq 10, 3) := by decide +kernel
theorem md_Mod_begin_7 : decode mb_Mod_begin 7 = .ok (.iload_n 2, 1) := by decide +kernel
theorem md_Mod_begin_8 : decode mb_Mod_begin 8 = .ok (.invokestatic 111, 3) := by decide +kernel
theorem md_Mod_begin_11 : decode mb_Mod_begin 11 = .ok (.ifCond .ne 5, 3) := by decide +kernel
theorem md_Mod_begin_14 : decode mb_Mod_begin 14 = .ok (.iconst (-1), 1) := by decide +kernel
theorem md_Mod_begin_15 : decode mb_Mod_begin 15 = .ok (.ireturn, 1) := by decide +kernel
theorem md_Mod_begin_16 : decode mb_Mod_begin 16 = .ok (.iload_n 2, 1) := by decide +kernel
theorem md_Mod_begin_17 : decode mb_Mod_begin 17 = .ok (.invokestatic 114, 3) := by decide +kernel
theorem md_Mod_begin_20 : decode mb_Mod_begin 20 = .ok (.istore_n 3, 1) := by decide +kernel
theorem md_Mod_begin_21 : decode mb_Mod_begin 21 = .ok (.iconst 3, 1) := by decide +kernel
theorem md_Mod_begin_22 : decode mb_Mod_begin 22 = .ok (.iload_n 3, 1) := by decide +kernel
theorem md_Mod_begin_23 : decode mb_Mod_begin 23 = .ok (.bipush 8, 2) := by decide +kernel
theorem md_Mod_begin_25 : decode mb_Mod_begin 25 = .ok (.isub, 1) := by decide +kernel
theorem md_Mod_begin_26 : decode mb_Mod_begin 26 = .ok (.imul, 1) := by decide +kernel
theorem md_Mod_begin_27 : decode mb_Mod_begin 27 = .ok (.iload_n 1, 1) := by decide +kernel
theorem md_Mod_begin_28 : decode mb_Mod_begin 28 = .ok (.iadd, 1) := by decide +kernel
theorem md_Mod_begin_29 : decode mb_Mod_begin 29 = .ok (.istore 4, 2) := by decide +kernel
theorem md_Mod_begin_31 : decode mb_Mod_begin 31 = .ok (.aload_n 0, 1) := by decide +kernel
theorem md_Mod_begin_32 : decode mb_Mod_begin 32 = .ok (.getfield 7, 3) := by decide +kernel
theorem md_Mod_begin_35 : decode mb_Mod_begin 35 = .ok (.iload_n 3, 1) := by decide +kernel
theorem md_Mod_begin_36 : decode mb_Mod_begin 36 = .ok (.baload, 1) := by decide +kernel
theorem md_Mod_begin_37 : decode mb_Mod_begin 37 = .ok (.ifCond .ne 14, 3) := by decide +kernel
theorem md_Mod_begin_40 : decode mb_Mod_begin 40 = .ok (.iload_n 2, 1) := by decide +kernel
theorem md_Mod_begin_41 : decode mb_Mod_begin 41 = .ok (.aload_n 0, 1) := by decide +kernel
theorem md_Mod_begin_42 : decode mb_Mod_begin 42 = .ok (.getfield 59, 3) := by decide +kernel
theorem md_Mod_begin_45 : decode mb_Mod_begin 45 = .ok (.iload 4, 2) := by decide +kernel
theorem md_Mod_begin_47 : decode mb_Mod_begin 47 = .ok (.iaload, 1) := by decide +kernel
theorem md_Mod_begin_48 : decode mb_Mod_begin 48 = .ok (.if_icmp .gt 5, 3) := by decide +kernel
theorem md_Mod_begin_51 : decode mb_Mod_begin 51 = .ok (.iconst (-1), 1) := by decide +kernel
theorem md_Mod_begin_52 : decode mb_Mod_begin 52 = .ok (.ireturn, 1) := by decide +kernel
theorem md_Mod_begin_53 : decode mb_Mod_begin 53 = .ok (.aload_n 0, 1) := by decide +kernel
theorem md_Mod_begin_54 : decode mb_Mod_begin 54 = .ok (.iload 4, 2) := by decide +kernel
theorem md_Mod_begin_56 : decode mb_Mod_begin 56 = .ok (.iload_n 2, 1) := by decide +kernel
theorem md_Mod_begin_57 : decode mb_Mod_begin 57 = .ok (.iconst 1, 1) := by decide +kernel
theorem md_Mod_begin_58 : decode mb_Mod_begin 58 = .ok (.invokevirtual 118, 3) := by decide +kernel
theorem md_Mod_begin_61 : decode mb_Mod_begin 61 = .ok (.aload_n 0, 1) := by decide +kernel
theorem md_Mod_begin_62 : decode mb_Mod_begin 62 = .ok (.iconst 2, 1) := by decide +kernel
theorem md_Mod_begin_63 : decode mb_Mod_begin 63 = .ok (.iload_n 1, 1) := by decide +kernel
theorem md_Mod_begin_64 : decode mb_Mod_begin 64 = .ok (.iload_n 2, 1) := by decide +kernel
theorem md_Mod_begin_65 : decode mb_Mod_begin 65 = .ok (.iconst 0, 1) := by decide +kernel
theorem md_Mod_begin_66 : decode mb_Mod_begin 66 = .ok (.invokevirtual 107, 3) := by decide +kernel
theorem md_Mod_begin_69 : decode mb_Mod_begin 69 = .ok (.aload_n 0, 1) := by decide +kernel
theorem md_Mod_begin_70 : decode mb_Mod_begin 70 = .ok (.getfield 91, 3) := by decide +kernel
theorem md_Mod_begin_73 : decode mb_Mod_begin 73 = .ok (.ireturn, 1) := by decide +kernel
theorem md_Mod_deliver_0 : decode mb_Mod_deliver 0 = .ok (.aload_n 0, 1) := by decide +kernel
theorem md_Mod_deliver_1 : decode mb_Mod_deliver 1 = .ok (.iload_n 1, 1) := by decide +kernel
theorem md_Mod_deliver_2 : decode mb_Mod_deliver 2 = .ok (.invokevirtual 122, 3) := by decide +kernel
theorem md_Mod_deliver_5 : decode mb_Mod_deliver 5 = .ok (.ifCond .ne 5, 3) := by decide +kernel
theorem md_Mod_deliver_8 : decode mb_Mod_deliver 8 = .ok (.iconst (-1), 1) := by decide +kernel
theorem md_Mod_deliver_9 : decode mb_Mod_deliver 9 = .ok (.ireturn, 1) := by decide +kernel
theorem md_Mod_deliver_10 : decode mb_Mod_deliver 10 = .ok (.aload_n 0, 1) := by decide +kernel
theorem md_Mod_deliver_11 : decode mb_Mod_deliver 11 = .ok (.getfield 13, 3) := by decide +kernel
theorem md_Mod_deliver_14 : decode mb_Mod_deliver 14 = .ok (.iload_n 1, 1) := by decide +kernel
theorem md_Mod_deliver_15 : decode mb_Mod_deliver 15 = .ok (.iaload, 1) := by decide +kernel
theorem md_Mod_deliver_16 : decode mb_Mod_deliver 16 = .ok (.istore_n 2, 1) := by decide +kernel
theorem md_Mod_deliver_17 : decode mb_Mod_deliver 17 = .ok (.aload_n 0, 1) := by decide +kernel
theorem md_Mod_deliver_18 : decode mb_Mod_deliver 18 = .ok (.getfield 17, 3) := by decide +kernel
theorem md_Mod_deliver_21 : decode mb_Mod_deliver 21 = .ok (.iload_n 1, 1) := by decide +kernel
theorem md_Mod_deliver_22 : decode mb_Mod_deliver 22 = .ok (.iaload, 1) := by decide +kernel
theorem md_Mod_deliver_23 : decode mb_Mod_deliver 23 = .ok (.istore_n 3, 1) := by decide +kernel
theorem md_Mod_deliver_24 : decode mb_Mod_deliver 24 = .ok (.aload_n 0, 1) := by decide +kernel
theorem md_Mod_deliver_25 : decode mb_Mod_deliver 25 = .ok (.getfield 20, 3) := by decide +kernel
theorem md_Mod_deliver_28 : decode mb_Mod_deliver 28 = .ok (.iload_n 1, 1) := by decide +kernel
theorem md_Mod_deliver_29 : decode mb_Mod_deliver 29 = .ok (.iaload, 1) := by decide +kernel
theorem md_Mod_deliver_30 : decode mb_Mod_deliver 30 = .ok (.istore 4, 2) := by decide +kernel
theorem md_Mod_deliver_32 : decode mb_Mod_deliver 32 = .ok (.aload_n 0, 1) := by decide +kernel
theorem md_Mod_deliver_33 : decode mb_Mod_deliver 33 = .ok (.getfield 26, 3) := by decide +kernel
theorem md_Mod_deliver_36 : decode mb_Mod_deliver 36 = .ok (.iload_n 1, 1) := by decide +kernel
theorem md_Mod_deliver_37 : decode mb_Mod_deliver 37 = .ok (.iaload, 1) := by decide +kernel
theorem md_Mod_deliver_38 : decode mb_Mod_deliver 38 = .ok (.istore 5, 2) := by decide +kernel
theorem md_Mod_deliver_40 : decode mb_Mod_deliver 40 = .ok (.aload_n 0, 1) := by decide +kernel
theorem md_Mod_deliver_41 : decode mb_Mod_deliver 41 = .ok (.getfield 23, 3) := by decide +kernel
theorem md_Mod_deliver_44 : decode mb_Mod_deliver 44 = .ok (.iload_n 1, 1) := by decide +kernel
theorem md_Mod_deliver_45 : decode mb_Mod_deliver 45 = .ok (.iaload, 1) := by decide +kernel
theorem md_Mod_deliver_46 : decode mb_Mod_deliver 46 = .ok (.istore 6, 2) := by decide +kernel
theorem md_Mod_deliver_48 : decode mb_Mod_deliver 48 = .ok (.aload_n 0, 1) := by decide +kernel
theorem md_Mod_deliver_49 : decode mb_Mod_deliver 49 = .ok (.getfield 29, 3) := by decide +kernel
theorem md_Mod_deliver_52 : decode mb_Mod_deliver 52 = .ok (.iload_n 1, 1) := by decide +kernel
theorem md_Mod_deliver_53 : decode mb_Mod_deliver 53 = .ok (.iaload, 1) := by decide +kernel
theorem md_Mod_deliver_54 : decode mb_Mod_deliver 54 = .ok (.istore 7, 2) := by decide +kernel
theorem md_Mod_deliver_56 : decode mb_Mod_deliver 56 = .ok (.aload_n 0, 1) := by decide +kernel
theorem md_Mod_deliver_57 : decode mb_Mod_deliver 57 = .ok (.getfield 32, 3) := by decide +kernel
theorem md_Mod_deliver_60 : decode mb_Mod_deliver 60 = .ok (.iload_n 1, 1) := by decide +kernel
theorem md_Mod_deliver_61 : decode mb_Mod_deliver 61 = .ok (.iaload, 1) := by decide +kernel
theorem md_Mod_deliver_62 : decode mb_Mod_deliver 62 = .ok (.istore 8, 2) := by decide +kernel
theorem md_Mod_deliver_64 : decode mb_Mod_deliver 64 = .ok (.aload_n 0, 1) := by decide +kernel
theorem md_Mod_deliver_65 : decode mb_Mod_deliver 65 = .ok (.iload_n 1, 1) := by decide +kernel
theorem md_Mod_deliver_66 : decode mb_Mod_deliver 66 = .ok (.invokevirtual 125, 3) := by decide +kernel
theorem md_Mod_deliver_69 : decode mb_Mod_deliver 69 = .ok (.aload_n 0, 1) := by decide +kernel
theorem md_Mod_deliver_70 : decode mb_Mod_deliver 70 = .ok (.getfield 7, 3) := by decide +kernel
theorem md_Mod_deliver_73 : decode mb_Mod_deliver 73 = .ok (.iload 6, 2) := by decide +kernel
theorem md_Mod_deliver_75 : decode mb_Mod_deliver 75 = .ok (.baload, 1) := by decide +kernel
theorem md_Mod_deliver_76 : decode mb_Mod_deliver 76 = .ok (.ifCond .eq 5, 3) := by decide +kernel
theorem md_Mod_deliver_79 : decode mb_Mod_deliver 79 = .ok (.iload_n 2, 1) := by decide +kernel
theorem md_Mod_deliver_80 : decode mb_Mod_deliver 80 = .ok (.ireturn, 1) := by decide +kernel
theorem md_Mod_deliver_81 : decode mb_Mod_deliver 81 = .ok (.iload 6, 2) := by decide +kernel
theorem md_Mod_deliver_83 : decode mb_Mod_deliver 83 = .ok (.bipush 8, 2) := by decide +kernel
theorem md_Mod_deliver_85 : decode mb_Mod_deliver 85 = .ok (.if_icmp .ge 18, 3) := by decide +kernel
theorem md_Mod_deliver_88 : decode mb_Mod_deliver 88 = .ok (.aload_n 0, 1) := by decide +kernel
theorem md_Mod_deliver_89 : decode mb_Mod_deliver 89 = .ok (.iload 6, 2) := by decide +kernel
theorem md_Mod_deliver_91 : decode mb_Mod_deliver 91 = .ok (.iload_n 2, 1) := by decide +kernel
theorem md_Mod_deliver_92 : decode mb_Mod_deliver 92 = .ok (.iload_n 3, 1) := by decide +kernel
theorem md_Mod_deliver_93 : decode mb_Mod_deliver 93 = .ok (.iload 4, 2) := by decide +kernel
theorem md_Mod_deliver_95 : decode mb_Mod_deliver 95 = .ok (.iload 7, 2) := by decide +kernel
theorem md_Mod_deliver_97 : decode mb_Mod_deliver 97 = .ok (.invokevirtual 129, 3) := by decide +kernel
theorem md_Mod_deliver_100 : decode mb_Mod_deliver 100 = .ok (.goto 40, 3) := by decide +kernel
theorem md_Mod_deliver_103 : decode mb_Mod_deliver 103 = .ok (.iload 6, 2) := by decide +kernel
theorem md_Mod_deliver_105 : decode mb_Mod_deliver 105 = .ok (.bipush 10, 2) := by decide +kernel
theorem md_Mod_deliver_107 : decode mb_Mod_deliver 107 = .ok (.if_icmp .ge 22, 3) := by decide +kernel
theorem md_Mod_deliver_110 : decode mb_Mod_deliver 110 = .ok (.aload_n 0, 1) := by decide +kernel
theorem md_Mod_deliver_111 : decode mb_Mod_deliver 111 = .ok (.iload 6, 2) := by decide +kernel
theorem md_Mod_deliver_113 : decode mb_Mod_deliver 113 = .ok (.iload_n 2, 1) := by decide +kernel
theorem md_Mod_deliver_114 : decode mb_Mod_deliver 114 = .ok (.iload_n 3, 1) := by decide +kernel
theorem md_Mod_deliver_115 : decode mb_Mod_deliver 115 = .ok (.iload 4, 2) := by decide +kernel
theorem md_Mod_deliver_117 : decode mb_Mod_deliver 117 = .ok (.iload 5, 2) := by decide +kernel
theorem md_Mod_deliver_119 : decode mb_Mod_deliver 119 = .ok (.iload 7, 2) := by decide +kernel
theorem md_Mod_deliver_121 : decode mb_Mod_deliver 121 = .ok (.iload 8, 2) := by decide +kernel
theorem md_Mod_deliver_123 : decode mb_Mod_deliver 123 = .ok (.invokevirtual 133, 3) := by decide +kernel
theorem md_Mod_deliver_126 : decode mb_Mod_deliver 126 = .ok (.goto 14, 3) := by decide +kernel
theorem md_Mod_deliver_129 : decode mb_Mod_deliver 129 = .ok (.aload_n 0, 1) := by decide +kernel
theorem md_Mod_deliver_130 : decode mb_Mod_deliver 130 = .ok (.iload_n 3, 1) := by decide +kernel
theorem md_Mod_deliver_131 : decode mb_Mod_deliver 131 = .ok (.iload 4, 2) := by decide +kernel
theorem md_Mod_deliver_133 : decode mb_Mod_deliver 133 = .ok (.iload 5, 2) := by decide +kernel
theorem md_Mod_deliver_135 : decode mb_Mod_deliver 135 = .ok (.iload 7, 2) := by decide +kernel
theorem md_Mod_deliver_137 : decode mb_Mod_deliver 137 = .ok (.invokevirtual 136, 3) := by decide +kernel
theorem md_Mod_deliver_140 : decode mb_Mod_deliver 140 = .ok (.iload_n 2, 1) := by decide +kernel
theorem md_Mod_deliver_141 : decode mb_Mod_deliver 141 = .ok (.ireturn, 1) := by decide +kernel
theorem md_Mod_drop_0 : decode mb_Mod_drop 0 = .ok (.aload_n 0, 1) := by decide +kernel
theorem md_Mod_drop_1 : decode mb_Mod_drop 1 = .ok (.iload_n 1, 1) := by decide +kernel
theorem md_Mod_drop_2 : decode mb_Mod_drop 2 = .ok (.invokevirtual 122, 3) := by decide +kernel
theorem md_Mod_drop_5 : decode mb_Mod_drop 5 = .ok (.ifCond .ne 5, 3) := by decide +kernel
theorem md_Mod_drop_8 : decode mb_Mod_drop 8 = .ok (.iconst 0, 1) := by decide +kernel
theorem md_Mod_drop_9 : decode mb_Mod_drop 9 = .ok (.ireturn, 1) := by decide +kernel
theorem md_Mod_drop_10 : decode mb_Mod_drop 10 = .ok (.aload_n 0, 1) := by decide +kernel
theorem md_Mod_drop_11 : decode mb_Mod_drop 11 = .ok (.iload_n 1, 1) := by decide +kernel
theorem md_Mod_drop_12 : decode mb_Mod_drop 12 = .ok (.invokevirtual 125, 3) := by decide +kernel
theorem md_Mod_drop_15 : decode mb_Mod_drop 15 = .ok (.iconst 1, 1) := by decide +kernel
theorem md_Mod_drop_16 : decode mb_Mod_drop 16 = .ok (.ireturn, 1) := by decide +kernel
theorem md_Mod_halt_0 : decode mb_Mod_halt 0 = .ok (.aload_n 0, 1) := by decide +kernel
theorem md_Mod_halt_1 : decode mb_Mod_halt 1 = .ok (.iload_n 1, 1) := by decide +kernel
theorem md_Mod_halt_2 : decode mb_Mod_halt 2 = .ok (.invokevirtual 139, 3) := by decide +kernel
theorem md_Mod_halt_5 : decode mb_Mod_halt 5 = .ok (.ifCond .ne 15, 3) := by decide +kernel
theorem md_Mod_halt_8 : decode mb_Mod_halt 8 = .ok (.iload_n 1, 1) := by decide +kernel
theorem md_Mod_halt_9 : decode mb_Mod_halt 9 = .ok (.bipush 8, 2) := by decide +kernel
theorem md_Mod_halt_11 : decode mb_Mod_halt 11 = .ok (.if_icmp .lt 19, 3) := by decide +kernel
theorem md_Mod_halt_14 : decode mb_Mod_halt 14 = .ok (.iload_n 1, 1) := by decide +kernel
theorem md_Mod_halt_15 : decode mb_Mod_halt 15 = .ok (.bipush 10, 2) := by decide +kernel
theorem md_Mod_halt_17 : decode mb_Mod_halt 17 = .ok (.if_icmp .gt 13, 3) := by decide +kernel
theorem md_Mod_halt_20 : decode mb_Mod_halt 20 = .ok (.aload_n 0, 1) := by decide +kernel
theorem md_Mod_halt_21 : decode mb_Mod_halt 21 = .ok (.getfield 7, 3) := by decide +kernel
theorem md_Mod_halt_24 : decode mb_Mod_halt 24 = .ok (.iload_n 1, 1) := by decide +kernel
theorem md_Mod_halt_25 : decode mb_Mod_halt 25 = .ok (.baload, 1) := by decide +kernel
theorem md_Mod_halt_26 : decode mb_Mod_halt 26 = .ok (.iload_n 2, 1) := by decide +kernel
theorem md_Mod_halt_27 : decode mb_Mod_halt 27 = .ok (.if_icmp .ne 5, 3) := by decide +kernel
theorem md_Mod_halt_30 : decode mb_Mod_halt 30 = .ok (.iconst 0, 1) := by decide +kernel
theorem md_Mod_halt_31 : decode mb_Mod_halt 31 = .ok (.ireturn, 1) := by decide +kernel
theorem md_Mod_halt_32 : decode mb_Mod_halt 32 = .ok (.aload_n 0, 1) := by decide +kernel
theorem md_Mod_halt_33 : decode mb_Mod_halt 33 = .ok (.getfield 7, 3) := by decide +kernel
theorem md_Mod_halt_36 : decode mb_Mod_halt 36 = .ok (.iload_n 1, 1) := by decide +kernel
theorem md_Mod_halt_37 : decode mb_Mod_halt 37 = .ok (.iload_n 2, 1) := by decide +kernel
theorem md_Mod_halt_38 : decode mb_Mod_halt 38 = .ok (.bastore, 1) := by decide +kernel
theorem md_Mod_halt_39 : decode mb_Mod_halt 39 = .ok (.iconst 1, 1) := by decide +kernel
theorem md_Mod_halt_40 : decode mb_Mod_halt 40 = .ok (.ireturn, 1) := by decide +kernel
theorem md_Mod_learned_0 : decode mb_Mod_learned 0 = .ok (.iload_n 1, 1) := by decide +kernel
theorem md_Mod_learned_1 : decode mb_Mod_learned 1 = .ok (.invokestatic 101, 3) := by decide +kernel
theorem md_Mod_learned_4 : decode mb_Mod_learned 4 = .ok (.ifCond .eq 12, 3) := by decide +kernel
theorem md_Mod_learned_7 : decode mb_Mod_learned 7 = .ok (.aload_n 0, 1) := by decide +kernel
theorem md_Mod_learned_8 : decode mb_Mod_learned 8 = .ok (.getfield 56, 3) := by decide +kernel
theorem md_Mod_learned_11 : decode mb_Mod_learned 11 = .ok (.iload_n 1, 1) := by decide +kernel
theorem md_Mod_learned_12 : decode mb_Mod_learned 12 = .ok (.iaload, 1) := by decide +kernel
theorem md_Mod_learned_13 : decode mb_Mod_learned 13 = .ok (.goto 4, 3) := by decide +kernel
theorem md_Mod_learned_16 : decode mb_Mod_learned 16 = .ok (.iconst (-1), 1) := by decide +kernel
theorem md_Mod_learned_17 : decode mb_Mod_learned 17 = .ok (.ireturn, 1) := by decide +kernel
theorem md_Mod_chosen_0 : decode mb_Mod_chosen 0 = .ok (.iload_n 1, 1) := by decide +kernel
theorem md_Mod_chosen_1 : decode mb_Mod_chosen 1 = .ok (.invokestatic 101, 3) := by decide +kernel
theorem md_Mod_chosen_4 : decode mb_Mod_chosen 4 = .ok (.ifCond .ne 5, 3) := by decide +kernel
theorem md_Mod_chosen_7 : decode mb_Mod_chosen 7 = .ok (.iconst (-1), 1) := by decide +kernel
theorem md_Mod_chosen_8 : decode mb_Mod_chosen 8 = .ok (.ireturn, 1) := by decide +kernel
theorem md_Mod_chosen_9 : decode mb_Mod_chosen 9 = .ok (.iconst 1, 1) := by decide +kernel
theorem md_Mod_chosen_10 : decode mb_Mod_chosen 10 = .ok (.istore_n 2, 1) := by decide +kernel
theorem md_Mod_chosen_11 : decode mb_Mod_chosen 11 = .ok (.iload_n 2, 1) := by decide +kernel
theorem md_Mod_chosen_12 : decode mb_Mod_chosen 12 = .ok (.bipush 12, 2) := by decide +kernel
theorem md_Mod_chosen_14 : decode mb_Mod_chosen 14 = .ok (.if_icmp .gt 69, 3) := by decide +kernel
theorem md_Mod_chosen_17 : decode mb_Mod_chosen 17 = .ok (.iconst 0, 1) := by decide +kernel
theorem md_Mod_chosen_18 : decode mb_Mod_chosen 18 = .ok (.istore_n 3, 1) := by decide +kernel
theorem md_Mod_chosen_19 : decode mb_Mod_chosen 19 = .ok (.iload_n 3, 1) := by decide +kernel
theorem md_Mod_chosen_20 : decode mb_Mod_chosen 20 = .ok (.aload_n 0, 1) := by decide +kernel
theorem md_Mod_chosen_21 : decode mb_Mod_chosen 21 = .ok (.getfield 77, 3) := by decide +kernel
theorem md_Mod_chosen_24 : decode mb_Mod_chosen 24 = .ok (.if_icmp .ge 53, 3) := by decide +kernel
theorem md_Mod_chosen_27 : decode mb_Mod_chosen 27 = .ok (.aload_n 0, 1) := by decide +kernel
theorem md_Mod_chosen_28 : decode mb_Mod_chosen 28 = .ok (.getfield 50, 3) := by decide +kernel
theorem md_Mod_chosen_31 : decode mb_Mod_chosen 31 = .ok (.bipush 65, 2) := by decide +kernel
theorem md_Mod_chosen_33 : decode mb_Mod_chosen 33 = .ok (.iload_n 1, 1) := by decide +kernel
theorem md_Mod_chosen_34 : decode mb_Mod_chosen 34 = .ok (.imul, 1) := by decide +kernel
theorem md_Mod_chosen_35 : decode mb_Mod_chosen 35 = .ok (.iconst 5, 1) := by decide +kernel
theorem md_Mod_chosen_36 : decode mb_Mod_chosen 36 = .ok (.iload_n 2, 1) := by decide +kernel
theorem md_Mod_chosen_37 : decode mb_Mod_chosen 37 = .ok (.imul, 1) := by decide +kernel
theorem md_Mod_chosen_38 : decode mb_Mod_chosen 38 = .ok (.iadd, 1) := by decide +kernel
theorem md_Mod_chosen_39 : decode mb_Mod_chosen 39 = .ok (.iload_n 3, 1) := by decide +kernel
theorem md_Mod_chosen_40 : decode mb_Mod_chosen 40 = .ok (.iadd, 1) := by decide +kernel
theorem md_Mod_chosen_41 : decode mb_Mod_chosen 41 = .ok (.iaload, 1) := by decide +kernel
theorem md_Mod_chosen_42 : decode mb_Mod_chosen 42 = .ok (.istore 4, 2) := by decide +kernel
theorem md_Mod_chosen_44 : decode mb_Mod_chosen 44 = .ok (.iload 4, 2) := by decide +kernel
theorem md_Mod_chosen_46 : decode mb_Mod_chosen 46 = .ok (.ifCond .le 25, 3) := by decide +kernel
theorem md_Mod_chosen_49 : decode mb_Mod_chosen 49 = .ok (.aload_n 0, 1) := by decide +kernel
theorem md_Mod_chosen_50 : decode mb_Mod_chosen 50 = .ok (.getfield 50, 3) := by decide +kernel
theorem md_Mod_chosen_53 : decode mb_Mod_chosen 53 = .ok (.iload_n 1, 1) := by decide +kernel
theorem md_Mod_chosen_54 : decode mb_Mod_chosen 54 = .ok (.iload_n 2, 1) := by decide +kernel
theorem md_Mod_chosen_55 : decode mb_Mod_chosen 55 = .ok (.iload 4, 2) := by decide +kernel
theorem md_Mod_chosen_57 : decode mb_Mod_chosen 57 = .ok (.invokestatic 172, 3) := by decide +kernel
theorem md_Mod_chosen_60 : decode mb_Mod_chosen 60 = .ok (.aload_n 0, 1) := by decide +kernel
theorem md_Mod_chosen_61 : decode mb_Mod_chosen 61 = .ok (.iload_n 2, 1) := by decide +kernel
theorem md_Mod_chosen_62 : decode mb_Mod_chosen 62 = .ok (.invokevirtual 176, 3) := by decide +kernel
theorem md_Mod_chosen_65 : decode mb_Mod_chosen 65 = .ok (.if_icmp .lt 6, 3) := by decide +kernel
theorem md_Mod_chosen_68 : decode mb_Mod_chosen 68 = .ok (.iload 4, 2) := by decide +kernel
theorem md_Mod_chosen_70 : decode mb_Mod_chosen 70 = .ok (.ireturn, 1) := by decide +kernel
theorem md_Mod_chosen_71 : decode mb_Mod_chosen 71 = .ok (.iinc 3 1, 3) := by decide +kernel
theorem md_Mod_chosen_74 : decode mb_Mod_chosen 74 = .ok (.goto (-55), 3) := by decide +kernel
theorem md_Mod_chosen_77 : decode mb_Mod_chosen 77 = .ok (.iinc 2 1, 3) := by decide +kernel
theorem md_Mod_chosen_80 : decode mb_Mod_chosen 80 = .ok (.goto (-69), 3) := by decide +kernel
theorem md_Mod_chosen_83 : decode mb_Mod_chosen 83 = .ok (.iconst 0, 1) := by decide +kernel
theorem md_Mod_chosen_84 : decode mb_Mod_chosen 84 = .ok (.ireturn, 1) := by decide +kernel
theorem md_Mod_votes_0 : decode mb_Mod_votes 0 = .ok (.iload_n 1, 1) := by decide +kernel
theorem md_Mod_votes_1 : decode mb_Mod_votes 1 = .ok (.invokestatic 101, 3) := by decide +kernel
theorem md_Mod_votes_4 : decode mb_Mod_votes 4 = .ok (.ifCond .eq 30, 3) := by decide +kernel
theorem md_Mod_votes_7 : decode mb_Mod_votes 7 = .ok (.iload_n 2, 1) := by decide +kernel
theorem md_Mod_votes_8 : decode mb_Mod_votes 8 = .ok (.invokestatic 111, 3) := by decide +kernel
theorem md_Mod_votes_11 : decode mb_Mod_votes 11 = .ok (.ifCond .eq 23, 3) := by decide +kernel
theorem md_Mod_votes_14 : decode mb_Mod_votes 14 = .ok (.iload_n 3, 1) := by decide +kernel
theorem md_Mod_votes_15 : decode mb_Mod_votes 15 = .ok (.invokestatic 104, 3) := by decide +kernel
theorem md_Mod_votes_18 : decode mb_Mod_votes 18 = .ok (.ifCond .eq 16, 3) := by decide +kernel
theorem md_Mod_votes_21 : decode mb_Mod_votes 21 = .ok (.aload_n 0, 1) := by decide +kernel
theorem md_Mod_votes_22 : decode mb_Mod_votes 22 = .ok (.getfield 50, 3) := by decide +kernel
theorem md_Mod_votes_25 : decode mb_Mod_votes 25 = .ok (.iload_n 1, 1) := by decide +kernel
theorem md_Mod_votes_26 : decode mb_Mod_votes 26 = .ok (.iload_n 2, 1) := by decide +kernel
theorem md_Mod_votes_27 : decode mb_Mod_votes 27 = .ok (.iload_n 3, 1) := by decide +kernel
theorem md_Mod_votes_28 : decode mb_Mod_votes 28 = .ok (.invokestatic 172, 3) := by decide +kernel
theorem md_Mod_votes_31 : decode mb_Mod_votes 31 = .ok (.goto 4, 3) := by decide +kernel
theorem md_Mod_votes_34 : decode mb_Mod_votes 34 = .ok (.iconst (-1), 1) := by decide +kernel
theorem md_Mod_votes_35 : decode mb_Mod_votes 35 = .ok (.ireturn, 1) := by decide +kernel
theorem md_Mod_waiting_0 : decode mb_Mod_waiting 0 = .ok (.aload_n 0, 1) := by decide +kernel
theorem md_Mod_waiting_1 : decode mb_Mod_waiting 1 = .ok (.getfield 91, 3) := by decide +kernel
theorem md_Mod_waiting_4 : decode mb_Mod_waiting 4 = .ok (.ireturn, 1) := by decide +kernel
theorem md_Mod_lost_0 : decode mb_Mod_lost 0 = .ok (.aload_n 0, 1) := by decide +kernel
theorem md_Mod_lost_1 : decode mb_Mod_lost 1 = .ok (.getfield 94, 3) := by decide +kernel
theorem md_Mod_lost_4 : decode mb_Mod_lost 4 = .ok (.ireturn, 1) := by decide +kernel
theorem md_Mod_message_0 : decode mb_Mod_message 0 = .ok (.aload_n 0, 1) := by decide +kernel
theorem md_Mod_message_1 : decode mb_Mod_message 1 = .ok (.iload_n 1, 1) := by decide +kernel
theorem md_Mod_message_2 : decode mb_Mod_message 2 = .ok (.invokevirtual 122, 3) := by decide +kernel
theorem md_Mod_message_5 : decode mb_Mod_message 5 = .ok (.ifCond .eq 43, 3) := by decide +kernel
theorem md_Mod_message_8 : decode mb_Mod_message 8 = .ok (.ldc 179, 2) := by decide +kernel
theorem md_Mod_message_10 : decode mb_Mod_message 10 = .ok (.aload_n 0, 1) := by decide +kernel
theorem md_Mod_message_11 : decode mb_Mod_message 11 = .ok (.getfield 13, 3) := by decide +kernel
theorem md_Mod_message_14 : decode mb_Mod_message 14 = .ok (.iload_n 1, 1) := by decide +kernel
theorem md_Mod_message_15 : decode mb_Mod_message 15 = .ok (.iaload, 1) := by decide +kernel
theorem md_Mod_message_16 : decode mb_Mod_message 16 = .ok (.imul, 1) := by decide +kernel
theorem md_Mod_message_17 : decode mb_Mod_message 17 = .ok (.sipush 10000, 3) := by decide +kernel
theorem md_Mod_message_20 : decode mb_Mod_message 20 = .ok (.aload_n 0, 1) := by decide +kernel
theorem md_Mod_message_21 : decode mb_Mod_message 21 = .ok (.getfield 17, 3) := by decide +kernel
theorem md_Mod_message_24 : decode mb_Mod_message 24 = .ok (.iload_n 1, 1) := by decide +kernel
theorem md_Mod_message_25 : decode mb_Mod_message 25 = .ok (.iaload, 1) := by decide +kernel
theorem md_Mod_message_26 : decode mb_Mod_message 26 = .ok (.imul, 1) := by decide +kernel
theorem md_Mod_message_27 : decode mb_Mod_message 27 = .ok (.iadd, 1) := by decide +kernel
theorem md_Mod_message_28 : decode mb_Mod_message 28 = .ok (.bipush 100, 2) := by decide +kernel
theorem md_Mod_message_30 : decode mb_Mod_message 30 = .ok (.aload_n 0, 1) := by decide +kernel
theorem md_Mod_message_31 : decode mb_Mod_message 31 = .ok (.getfield 20, 3) := by decide +kernel
theorem md_Mod_message_34 : decode mb_Mod_message 34 = .ok (.iload_n 1, 1) := by decide +kernel
theorem md_Mod_message_35 : decode mb_Mod_message 35 = .ok (.iaload, 1) := by decide +kernel
theorem md_Mod_message_36 : decode mb_Mod_message 36 = .ok (.imul, 1) := by decide +kernel
theorem md_Mod_message_37 : decode mb_Mod_message 37 = .ok (.iadd, 1) := by decide +kernel
theorem md_Mod_message_38 : decode mb_Mod_message 38 = .ok (.aload_n 0, 1) := by decide +kernel
theorem md_Mod_message_39 : decode mb_Mod_message 39 = .ok (.getfield 23, 3) := by decide +kernel
theorem md_Mod_message_42 : decode mb_Mod_message 42 = .ok (.iload_n 1, 1) := by decide +kernel
theorem md_Mod_message_43 : decode mb_Mod_message 43 = .ok (.iaload, 1) := by decide +kernel
theorem md_Mod_message_44 : decode mb_Mod_message 44 = .ok (.iadd, 1) := by decide +kernel
theorem md_Mod_message_45 : decode mb_Mod_message 45 = .ok (.goto 4, 3) := by decide +kernel
theorem md_Mod_message_48 : decode mb_Mod_message 48 = .ok (.iconst (-1), 1) := by decide +kernel
theorem md_Mod_message_49 : decode mb_Mod_message 49 = .ok (.ireturn, 1) := by decide +kernel
theorem md_Mod_value_0 : decode mb_Mod_value 0 = .ok (.aload_n 0, 1) := by decide +kernel
theorem md_Mod_value_1 : decode mb_Mod_value 1 = .ok (.iload_n 1, 1) := by decide +kernel
theorem md_Mod_value_2 : decode mb_Mod_value 2 = .ok (.invokevirtual 122, 3) := by decide +kernel
theorem md_Mod_value_5 : decode mb_Mod_value 5 = .ok (.ifCond .eq 12, 3) := by decide +kernel
theorem md_Mod_value_8 : decode mb_Mod_value 8 = .ok (.aload_n 0, 1) := by decide +kernel
theorem md_Mod_value_9 : decode mb_Mod_value 9 = .ok (.getfield 29, 3) := by decide +kernel
theorem md_Mod_value_12 : decode mb_Mod_value 12 = .ok (.iload_n 1, 1) := by decide +kernel
theorem md_Mod_value_13 : decode mb_Mod_value 13 = .ok (.iaload, 1) := by decide +kernel
theorem md_Mod_value_14 : decode mb_Mod_value 14 = .ok (.goto 4, 3) := by decide +kernel
theorem md_Mod_value_17 : decode mb_Mod_value 17 = .ok (.iconst (-1), 1) := by decide +kernel
theorem md_Mod_value_18 : decode mb_Mod_value 18 = .ok (.ireturn, 1) := by decide +kernel
theorem md_Mod_round_0 : decode mb_Mod_round 0 = .ok (.aload_n 0, 1) := by decide +kernel
theorem md_Mod_round_1 : decode mb_Mod_round 1 = .ok (.iload_n 1, 1) := by decide +kernel
theorem md_Mod_round_2 : decode mb_Mod_round 2 = .ok (.invokevirtual 139, 3) := by decide +kernel
theorem md_Mod_round_5 : decode mb_Mod_round 5 = .ok (.ifCond .eq 23, 3) := by decide +kernel
theorem md_Mod_round_8 : decode mb_Mod_round 8 = .ok (.iload_n 2, 1) := by decide +kernel
theorem md_Mod_round_9 : decode mb_Mod_round 9 = .ok (.invokestatic 101, 3) := by decide +kernel
theorem md_Mod_round_12 : decode mb_Mod_round 12 = .ok (.ifCond .eq 16, 3) := by decide +kernel
theorem md_Mod_round_15 : decode mb_Mod_round 15 = .ok (.aload_n 0, 1) := by decide +kernel
theorem md_Mod_round_16 : decode mb_Mod_round 16 = .ok (.getfield 35, 3) := by decide +kernel
theorem md_Mod_round_19 : decode mb_Mod_round 19 = .ok (.iconst 5, 1) := by decide +kernel
theorem md_Mod_round_20 : decode mb_Mod_round 20 = .ok (.iload_n 2, 1) := by decide +kernel
theorem md_Mod_round_21 : decode mb_Mod_round 21 = .ok (.imul, 1) := by decide +kernel
theorem md_Mod_round_22 : decode mb_Mod_round 22 = .ok (.iload_n 1, 1) := by decide +kernel
theorem md_Mod_round_23 : decode mb_Mod_round 23 = .ok (.iadd, 1) := by decide +kernel
theorem md_Mod_round_24 : decode mb_Mod_round 24 = .ok (.iaload, 1) := by decide +kernel
theorem md_Mod_round_25 : decode mb_Mod_round 25 = .ok (.goto 4, 3) := by decide +kernel
theorem md_Mod_round_28 : decode mb_Mod_round 28 = .ok (.iconst (-1), 1) := by decide +kernel
theorem md_Mod_round_29 : decode mb_Mod_round 29 = .ok (.ireturn, 1) := by decide +kernel
theorem md_Mod_vote_0 : decode mb_Mod_vote 0 = .ok (.aload_n 0, 1) := by decide +kernel
theorem md_Mod_vote_1 : decode mb_Mod_vote 1 = .ok (.iload_n 1, 1) := by decide +kernel
theorem md_Mod_vote_2 : decode mb_Mod_vote 2 = .ok (.invokevirtual 139, 3) := by decide +kernel
theorem md_Mod_vote_5 : decode mb_Mod_vote 5 = .ok (.ifCond .eq 23, 3) := by decide +kernel
theorem md_Mod_vote_8 : decode mb_Mod_vote 8 = .ok (.iload_n 2, 1) := by decide +kernel
theorem md_Mod_vote_9 : decode mb_Mod_vote 9 = .ok (.invokestatic 101, 3) := by decide +kernel
theorem md_Mod_vote_12 : decode mb_Mod_vote 12 = .ok (.ifCond .eq 16, 3) := by decide +kernel
theorem md_Mod_vote_15 : decode mb_Mod_vote 15 = .ok (.aload_n 0, 1) := by decide +kernel
theorem md_Mod_vote_16 : decode mb_Mod_vote 16 = .ok (.getfield 38, 3) := by decide +kernel
theorem md_Mod_vote_19 : decode mb_Mod_vote 19 = .ok (.iconst 5, 1) := by decide +kernel
theorem md_Mod_vote_20 : decode mb_Mod_vote 20 = .ok (.iload_n 2, 1) := by decide +kernel
theorem md_Mod_vote_21 : decode mb_Mod_vote 21 = .ok (.imul, 1) := by decide +kernel
theorem md_Mod_vote_22 : decode mb_Mod_vote 22 = .ok (.iload_n 1, 1) := by decide +kernel
theorem md_Mod_vote_23 : decode mb_Mod_vote 23 = .ok (.iadd, 1) := by decide +kernel
theorem md_Mod_vote_24 : decode mb_Mod_vote 24 = .ok (.iaload, 1) := by decide +kernel
theorem md_Mod_vote_25 : decode mb_Mod_vote 25 = .ok (.goto 4, 3) := by decide +kernel
theorem md_Mod_vote_28 : decode mb_Mod_vote 28 = .ok (.iconst (-1), 1) := by decide +kernel
theorem md_Mod_vote_29 : decode mb_Mod_vote 29 = .ok (.ireturn, 1) := by decide +kernel
theorem md_Mod_voteRound_0 : decode mb_Mod_voteRound 0 = .ok (.aload_n 0, 1) := by decide +kernel
theorem md_Mod_voteRound_1 : decode mb_Mod_voteRound 1 = .ok (.iload_n 1, 1) := by decide +kernel
theorem md_Mod_voteRound_2 : decode mb_Mod_voteRound 2 = .ok (.invokevirtual 139, 3) := by decide +kernel
theorem md_Mod_voteRound_5 : decode mb_Mod_voteRound 5 = .ok (.ifCond .eq 23, 3) := by decide +kernel
theorem md_Mod_voteRound_8 : decode mb_Mod_voteRound 8 = .ok (.iload_n 2, 1) := by decide +kernel
theorem md_Mod_voteRound_9 : decode mb_Mod_voteRound 9 = .ok (.invokestatic 101, 3) := by decide +kernel
theorem md_Mod_voteRound_12 : decode mb_Mod_voteRound 12 = .ok (.ifCond .eq 16, 3) := by decide +kernel
theorem md_Mod_voteRound_15 : decode mb_Mod_voteRound 15 = .ok (.aload_n 0, 1) := by decide +kernel
theorem md_Mod_voteRound_16 : decode mb_Mod_voteRound 16 = .ok (.getfield 41, 3) := by decide +kernel
theorem md_Mod_voteRound_19 : decode mb_Mod_voteRound 19 = .ok (.iconst 5, 1) := by decide +kernel
theorem md_Mod_voteRound_20 : decode mb_Mod_voteRound 20 = .ok (.iload_n 2, 1) := by decide +kernel
theorem md_Mod_voteRound_21 : decode mb_Mod_voteRound 21 = .ok (.imul, 1) := by decide +kernel
theorem md_Mod_voteRound_22 : decode mb_Mod_voteRound 22 = .ok (.iload_n 1, 1) := by decide +kernel
theorem md_Mod_voteRound_23 : decode mb_Mod_voteRound 23 = .ok (.iadd, 1) := by decide +kernel
theorem md_Mod_voteRound_24 : decode mb_Mod_voteRound 24 = .ok (.iaload, 1) := by decide +kernel
theorem md_Mod_voteRound_25 : decode mb_Mod_voteRound 25 = .ok (.goto 4, 3) := by decide +kernel
theorem md_Mod_voteRound_28 : decode mb_Mod_voteRound 28 = .ok (.iconst (-1), 1) := by decide +kernel
theorem md_Mod_voteRound_29 : decode mb_Mod_voteRound 29 = .ok (.ireturn, 1) := by decide +kernel
theorem md_Mod_leads_0 : decode mb_Mod_leads 0 = .ok (.iload_n 1, 1) := by decide +kernel
theorem md_Mod_leads_1 : decode mb_Mod_leads 1 = .ok (.invokestatic 180, 3) := by decide +kernel
theorem md_Mod_leads_4 : decode mb_Mod_leads 4 = .ok (.ifCond .eq 26, 3) := by decide +kernel
theorem md_Mod_leads_7 : decode mb_Mod_leads 7 = .ok (.iload_n 2, 1) := by decide +kernel
theorem md_Mod_leads_8 : decode mb_Mod_leads 8 = .ok (.invokestatic 101, 3) := by decide +kernel
theorem md_Mod_leads_11 : decode mb_Mod_leads 11 = .ok (.ifCond .eq 19, 3) := by decide +kernel
theorem md_Mod_leads_14 : decode mb_Mod_leads 14 = .ok (.aload_n 0, 1) := by decide +kernel
theorem md_Mod_leads_15 : decode mb_Mod_leads 15 = .ok (.getfield 59, 3) := by decide +kernel
theorem md_Mod_leads_18 : decode mb_Mod_leads 18 = .ok (.iconst 3, 1) := by decide +kernel
theorem md_Mod_leads_19 : decode mb_Mod_leads 19 = .ok (.iload_n 1, 1) := by decide +kernel
theorem md_Mod_leads_20 : decode mb_Mod_leads 20 = .ok (.bipush 8, 2) := by decide +kernel
theorem md_Mod_leads_22 : decode mb_Mod_leads 22 = .ok (.isub, 1) := by decide +kernel
theorem md_Mod_leads_23 : decode mb_Mod_leads 23 = .ok (.imul, 1) := by decide +kernel
theorem md_Mod_leads_24 : decode mb_Mod_leads 24 = .ok (.iload_n 2, 1) := by decide +kernel
theorem md_Mod_leads_25 : decode mb_Mod_leads 25 = .ok (.iadd, 1) := by decide +kernel
theorem md_Mod_leads_26 : decode mb_Mod_leads 26 = .ok (.iaload, 1) := by decide +kernel
theorem md_Mod_leads_27 : decode mb_Mod_leads 27 = .ok (.goto 4, 3) := by decide +kernel
theorem md_Mod_leads_30 : decode mb_Mod_leads 30 = .ok (.iconst (-1), 1) := by decide +kernel
theorem md_Mod_leads_31 : decode mb_Mod_leads 31 = .ok (.ireturn, 1) := by decide +kernel
theorem md_Mod_phase_0 : decode mb_Mod_phase 0 = .ok (.iload_n 1, 1) := by decide +kernel
theorem md_Mod_phase_1 : decode mb_Mod_phase 1 = .ok (.invokestatic 180, 3) := by decide +kernel
theorem md_Mod_phase_4 : decode mb_Mod_phase 4 = .ok (.ifCond .eq 26, 3) := by decide +kernel
theorem md_Mod_phase_7 : decode mb_Mod_phase 7 = .ok (.iload_n 2, 1) := by decide +kernel
theorem md_Mod_phase_8 : decode mb_Mod_phase 8 = .ok (.invokestatic 101, 3) := by decide +kernel
theorem md_Mod_phase_11 : decode mb_Mod_phase 11 = .ok (.ifCond .eq 19, 3) := by decide +kernel
theorem md_Mod_phase_14 : decode mb_Mod_phase 14 = .ok (.aload_n 0, 1) := by decide +kernel
theorem md_Mod_phase_15 : decode mb_Mod_phase 15 = .ok (.getfield 62, 3) := by decide +kernel
theorem md_Mod_phase_18 : decode mb_Mod_phase 18 = .ok (.iconst 3, 1) := by decide +kernel
theorem md_Mod_phase_19 : decode mb_Mod_phase 19 = .ok (.iload_n 1, 1) := by decide +kernel
theorem md_Mod_phase_20 : decode mb_Mod_phase 20 = .ok (.bipush 8, 2) := by decide +kernel
theorem md_Mod_phase_22 : decode mb_Mod_phase 22 = .ok (.isub, 1) := by decide +kernel
theorem md_Mod_phase_23 : decode mb_Mod_phase 23 = .ok (.imul, 1) := by decide +kernel
theorem md_Mod_phase_24 : decode mb_Mod_phase 24 = .ok (.iload_n 2, 1) := by decide +kernel
theorem md_Mod_phase_25 : decode mb_Mod_phase 25 = .ok (.iadd, 1) := by decide +kernel
theorem md_Mod_phase_26 : decode mb_Mod_phase 26 = .ok (.iaload, 1) := by decide +kernel
theorem md_Mod_phase_27 : decode mb_Mod_phase 27 = .ok (.goto 4, 3) := by decide +kernel
theorem md_Mod_phase_30 : decode mb_Mod_phase 30 = .ok (.iconst (-1), 1) := by decide +kernel
theorem md_Mod_phase_31 : decode mb_Mod_phase 31 = .ok (.ireturn, 1) := by decide +kernel
theorem md_Mod_size_0 : decode mb_Mod_size 0 = .ok (.iload_n 1, 1) := by decide +kernel
theorem md_Mod_size_1 : decode mb_Mod_size 1 = .ok (.ifCond .ne 10, 3) := by decide +kernel
theorem md_Mod_size_4 : decode mb_Mod_size 4 = .ok (.aload_n 0, 1) := by decide +kernel
theorem md_Mod_size_5 : decode mb_Mod_size 5 = .ok (.getfield 77, 3) := by decide +kernel
theorem md_Mod_size_8 : decode mb_Mod_size 8 = .ok (.goto 28, 3) := by decide +kernel
theorem md_Mod_size_11 : decode mb_Mod_size 11 = .ok (.iload_n 1, 1) := by decide +kernel
theorem md_Mod_size_12 : decode mb_Mod_size 12 = .ok (.iconst 1, 1) := by decide +kernel
theorem md_Mod_size_13 : decode mb_Mod_size 13 = .ok (.if_icmp .ne 10, 3) := by decide +kernel
theorem md_Mod_size_16 : decode mb_Mod_size 16 = .ok (.aload_n 0, 1) := by decide +kernel
theorem md_Mod_size_17 : decode mb_Mod_size 17 = .ok (.getfield 81, 3) := by decide +kernel
theorem md_Mod_size_20 : decode mb_Mod_size 20 = .ok (.goto 16, 3) := by decide +kernel
theorem md_Mod_size_23 : decode mb_Mod_size 23 = .ok (.iload_n 1, 1) := by decide +kernel
theorem md_Mod_size_24 : decode mb_Mod_size 24 = .ok (.iconst 2, 1) := by decide +kernel
theorem md_Mod_size_25 : decode mb_Mod_size 25 = .ok (.if_icmp .ne 10, 3) := by decide +kernel
theorem md_Mod_size_28 : decode mb_Mod_size 28 = .ok (.aload_n 0, 1) := by decide +kernel
theorem md_Mod_size_29 : decode mb_Mod_size 29 = .ok (.getfield 84, 3) := by decide +kernel
theorem md_Mod_size_32 : decode mb_Mod_size 32 = .ok (.goto 4, 3) := by decide +kernel
theorem md_Mod_size_35 : decode mb_Mod_size 35 = .ok (.iconst (-1), 1) := by decide +kernel
theorem md_Mod_size_36 : decode mb_Mod_size 36 = .ok (.ireturn, 1) := by decide +kernel
def gm_I (n q f : Nat) (S : pz_T) (M : fr_M) : Prop := pz_Inv n q f S ∧ gm_R n q f S M
/-- what the scan of the votes finds is the first value that was chosen -/
theorem pz_scan {n q f : Nat} {p : pz_P} (Q : pz_Q n q f) (I : pz_IV n q f p) {r v : Nat} (hv : v ≠ 0) (h : pz_en q f r ≤ pz_cv p n r v) : v = p 16 0 0 := by
  rcases I.2.2.2.2.2.2.2 with ⟨_, z⟩ | ⟨z1, x, z2⟩
  · have := z r v hv
    omega
  · exact pz_uniq Q I hv z1 h z2
theorem pz_scan0 {n q f : Nat} {p : pz_P} (Q : pz_Q n q f) (I : pz_IV n q f p) (h : ∀ x, 1 ≤ x → x < 13 → ∀ b, b < n → p 5 x b ≠ 0 → pz_cv p n x (p 5 x b) < pz_en q f x) : p 16 0 0 = 0 := by
  rcases I.2.2.2.2.2.2.2 with ⟨z, _⟩ | ⟨z1, x, z2⟩
  · exact z
  · exfalso
    obtain ⟨b, hb, e⟩ := pz_sm_pos n (Nat.lt_of_lt_of_le (pz_en_pos Q x) z2)
    have e : p 5 x b = p 16 0 0 := by
      by_cases y : p 5 x b = p 16 0 0
      · exact y
      · rw [if_neg y] at e; exact absurd e (Nat.lt_irrefl 0)
    have a := (I.1 b hb)
    have a3 := a.2.2.1 x (by rw [e]; exact z1)
    have := h x a3.1 (by omega) b hb (by rw [e]; exact z1)
    rw [e] at this
    omega
set_option maxHeartbeats 4000000 in
theorem r_propose (l : Launch) (D : va_G) (ad : Nat × Nat → Nat) (cI cZ : ClassId) {M : fr_M} {n q f : Nat} {S : pz_T} (hn : n ≤ 5) (hq5 : q ≤ 5) (hf5 : f ≤ 5) (Q : pz_Q n q f) (hI : gm_I n q f S M) {s v : Nat} (hs : s < 3) (hv1 : 1 ≤ v) (hv2 : v ≤ 1000) : gm_C l D ad cI cZ my_Mod_propose mb_Mod_propose 3 (some .int) 2 52 M [.ref (ad (0, 0)), .int (nI (s)), .int (nI (v))] (some (.int (nI (pz_propose n S s v).1.length))) (gm_I n q f (pz_propose n S s v)) := by
  have h := hI.2
  have I := hI.1
  have hL := I.1
  refine xw_start [.ref (ad (0, 0)), .int (nI (s)), .int (nI (v))] (by decide) (Nat.le_of_ble_eq_true rfl) ?_
  intro p e st m below meth cd0 ls Z hml hr hlk hN hl hw
  have hl : lv_has ls 3 [(0, .ref (ad (0, 0))), (1, .int (nI (s))), (2, .int (nI (v)))] := hl
  refine lv_iload_n Z.1 Z.2.1 md_Mod_propose_0 rfl (lv_at hl 1 rfl) ?_
  refine xw_cS (n := 1) (rest := []) Z hml hl.1 hN hw (r_isSlot1 l D ad cI cZ (M := M) hs) tb_g mc_Mod_isSlot mk_Mod_101 mt_Mod_isSlot mz_Mod ⟨by decide, by decide, by decide +kernel⟩ ⟨Nat.le_of_ble_eq_true rfl, Nat.le_of_ble_eq_true rfl⟩ rfl rfl (Nat.le_of_ble_eq_true rfl) ⟨Nat.le_refl _, Nat.le_refl _⟩ md_Mod_propose_1 (fun M1 H1 locs1 e1 hw => ?_)
  have ey1 := e1.symm
  subst ey1
  refine W.eq (g2 := F0 m 4 ls [.int (nI (1))]) rfl ?_
  refine xi_if_eq (tgt := 14) Z md_Mod_propose_4 (by decide) (by omega) (fun h4 => by exfalso; omega) (fun h4 => ?_)
  refine lv_iload_n Z.1 Z.2.1 md_Mod_propose_7 rfl (lv_at hl 2 rfl) ?_
  refine xw_cS (n := 1) (rest := []) Z hml hl.1 hN hw (r_isValue1 l D ad cI cZ (M := M) hv1 hv2) tb_g mc_Mod_isValue mk_Mod_104 mt_Mod_isValue mz_Mod ⟨by decide, by decide, by decide +kernel⟩ ⟨Nat.le_of_ble_eq_true rfl, Nat.le_of_ble_eq_true rfl⟩ rfl rfl (Nat.le_of_ble_eq_true rfl) ⟨Nat.le_refl _, Nat.le_refl _⟩ md_Mod_propose_8 (fun M2 H2 locs2 e2 hw => ?_)
  have ey2 := e2.symm
  subst ey2
  refine W.eq (g2 := F0 m 11 ls [.int (nI (1))]) rfl ?_
  refine xi_if_ne (tgt := 16) Z md_Mod_propose_11 (by decide) (by omega) (fun h11 => ?_) (fun h11 => by exfalso; omega)
  refine lv_aload_n Z.1 Z.2.1 md_Mod_propose_16 rfl (lv_at hl 0 rfl) ?_
  refine lv_iconst (v := nI 1) Z.1 Z.2.1 md_Mod_propose_17 (by decide) ?_
  refine lv_iload_n Z.1 Z.2.1 md_Mod_propose_18 rfl (lv_at hl 1 rfl) ?_
  refine lv_iconst (v := nI 0) Z.1 Z.2.1 md_Mod_propose_19 (by decide) ?_
  refine lv_iload_n Z.1 Z.2.1 md_Mod_propose_20 rfl (lv_at hl 2 rfl) ?_
  refine xw_cV (n := 4) (rest := []) Z hml hl.1 hN hw (r_sendAll (kd := 1) (s := s) (r := 0) (v := v) l D ad cI cZ hn h hL) tb_g mc_Mod_sendAll mk_Mod_107 mi_Mod_sendAll ms_Mod_sendAll mz_Mod ⟨by decide, by decide, by decide +kernel⟩ ⟨Nat.le_of_ble_eq_true rfl, Nat.le_of_ble_eq_true rfl⟩ (by decide) (gm_e0 ad cI cZ _) rfl rfl rfl rfl (Nat.le_of_ble_eq_true rfl) ⟨Nat.le_refl _, Nat.le_refl _⟩ md_Mod_propose_21 (fun M3 H3 locs3 h1 hw => ?_)
  refine W.eq (g2 := F0 m 24 ls []) rfl ?_
  refine lv_aload_n Z.1 Z.2.1 md_Mod_propose_24 rfl (lv_at hl 0 rfl) ?_
  refine lv_iconst (v := nI 1) Z.1 Z.2.1 md_Mod_propose_25 (by decide) ?_
  refine lv_iload_n Z.1 Z.2.1 md_Mod_propose_26 rfl (lv_at hl 1 rfl) ?_
  refine lv_iconst (v := nI 0) Z.1 Z.2.1 md_Mod_propose_27 (by decide) ?_
  refine lv_iconst (v := nI 0) Z.1 Z.2.1 md_Mod_propose_28 (by decide) ?_
  refine lv_bipush (v := nI 8) Z.1 Z.2.1 md_Mod_propose_29 (by decide) ?_
  refine lv_iload_n Z.1 Z.2.1 md_Mod_propose_31 rfl (lv_at hl 2 rfl) ?_
  refine lv_iconst (v := nI 0) Z.1 Z.2.1 md_Mod_propose_32 (by decide) ?_
  refine xw_cV (n := 7) (rest := []) Z hml hl.1 hN hw (r_send (g := pz_mg 1 s 0 0 8 v 0) l D ad cI cZ h1 (fr_sa_len hL n)) tb_g mc_Mod_send mk_Mod_97 mi_Mod_send ms_Mod_send mz_Mod ⟨by decide, by decide, by decide +kernel⟩ ⟨Nat.le_of_ble_eq_true rfl, Nat.le_of_ble_eq_true rfl⟩ (by decide) (gm_e0 ad cI cZ _) rfl rfl rfl rfl (Nat.le_of_ble_eq_true rfl) ⟨Nat.le_refl _, Nat.le_refl _⟩ md_Mod_propose_33 (fun M4 H4 locs4 h2 hw => ?_)
  refine W.eq (g2 := F0 m 36 ls []) rfl ?_
  refine lv_aload_n Z.1 Z.2.1 md_Mod_propose_36 rfl (lv_at hl 0 rfl) ?_
  refine lv_iconst (v := nI 1) Z.1 Z.2.1 md_Mod_propose_37 (by decide) ?_
  refine lv_iload_n Z.1 Z.2.1 md_Mod_propose_38 rfl (lv_at hl 1 rfl) ?_
  refine lv_iconst (v := nI 0) Z.1 Z.2.1 md_Mod_propose_39 (by decide) ?_
  refine lv_iconst (v := nI 0) Z.1 Z.2.1 md_Mod_propose_40 (by decide) ?_
  refine lv_bipush (v := nI 9) Z.1 Z.2.1 md_Mod_propose_41 (by decide) ?_
  refine lv_iload_n Z.1 Z.2.1 md_Mod_propose_43 rfl (lv_at hl 2 rfl) ?_
  refine lv_iconst (v := nI 0) Z.1 Z.2.1 md_Mod_propose_44 (by decide) ?_
  refine xw_cV (n := 7) (rest := []) Z hml hl.1 hN hw (r_send (g := pz_mg 1 s 0 0 9 v 0) l D ad cI cZ h2 (fr_sd_len (fr_sa_len hL n))) tb_g mc_Mod_send mk_Mod_97 mi_Mod_send ms_Mod_send mz_Mod ⟨by decide, by decide, by decide +kernel⟩ ⟨Nat.le_of_ble_eq_true rfl, Nat.le_of_ble_eq_true rfl⟩ (by decide) (gm_e0 ad cI cZ _) rfl rfl rfl rfl (Nat.le_of_ble_eq_true rfl) ⟨Nat.le_refl _, Nat.le_refl _⟩ md_Mod_propose_45 (fun M5 H5 locs5 h3 hw => ?_)
  refine W.eq (g2 := F0 m 48 ls []) rfl ?_
  refine lv_aload_n Z.1 Z.2.1 md_Mod_propose_48 rfl (lv_at hl 0 rfl) ?_
  refine xb_get (v := .int (M5 (0, 0) 4)) Z hw (by decide) (gm_e0 ad cI cZ) rfl tb_iMod 4 (by decide) mk_Mod_91 rfl rfl md_Mod_propose_49 ?_
  refine xi_re (show M5 (0, 0) 4 = nI ((pz_propose n S s v).1.length) from h3.2.1.1) ?_
  exact xw_iret Z hr hlk hw md_Mod_propose_52 rfl ⟨pz_propose_Inv I hs hv1 hv2, h3⟩
set_option maxHeartbeats 4000000 in
theorem r_propose_b1 (l : Launch) (D : va_G) (ad : Nat × Nat → Nat) (cI cZ : ClassId) {M : fr_M} {x : Int32} (hx : x < 0 ∨ nI 3 ≤ x) {y : Int32} : gm_C l D ad cI cZ my_Mod_propose mb_Mod_propose 3 (some .int) 1 20 M [.ref (ad (0, 0)), .int (x), .int (y)] (some (.int (-1))) (fun M' => M' = M) := by
  refine xw_start [.ref (ad (0, 0)), .int (x), .int (y)] (by decide) (Nat.le_of_ble_eq_true rfl) ?_
  intro p e st m below meth cd0 ls Z hml hr hlk hN hl hw
  have hl : lv_has ls 3 [(0, .ref (ad (0, 0))), (1, .int (x)), (2, .int (y))] := hl
  refine lv_iload_n Z.1 Z.2.1 md_Mod_propose_0 rfl (lv_at hl 1 rfl) ?_
  refine xw_cS (n := 1) (rest := []) Z hml hl.1 hN hw (r_isSlot0 l D ad cI cZ (M := M) hx) tb_g mc_Mod_isSlot mk_Mod_101 mt_Mod_isSlot mz_Mod ⟨by decide, by decide, by decide +kernel⟩ ⟨Nat.le_of_ble_eq_true rfl, Nat.le_of_ble_eq_true rfl⟩ rfl rfl (Nat.le_of_ble_eq_true rfl) ⟨Nat.le_refl _, Nat.le_refl _⟩ md_Mod_propose_1 (fun M1 H1 locs1 e1 hw => ?_)
  have ey1 := e1.symm
  subst ey1
  refine W.eq (g2 := F0 m 4 ls [.int (nI (0))]) rfl ?_
  refine xi_if_eq (tgt := 14) Z md_Mod_propose_4 (by decide) (by omega) (fun h4 => ?_) (fun h4 => by exfalso; omega)
  refine lv_iconst (v := -1) Z.1 Z.2.1 md_Mod_propose_14 (by decide) ?_
  exact xw_iret Z hr hlk hw md_Mod_propose_15 rfl rfl
set_option maxHeartbeats 4000000 in
theorem r_begin_b1 (l : Launch) (D : va_G) (ad : Nat × Nat → Nat) (cI cZ : ClassId) {M : fr_M} {x : Int32} (hx : x < 0 ∨ nI 3 ≤ x) {y : Int32} : gm_C l D ad cI cZ my_Mod_begin mb_Mod_begin 5 (some .int) 1 20 M [.ref (ad (0, 0)), .int (x), .int (y)] (some (.int (-1))) (fun M' => M' = M) := by
  refine xw_start [.ref (ad (0, 0)), .int (x), .int (y)] (by decide) (Nat.le_of_ble_eq_true rfl) ?_
  intro p e st m below meth cd0 ls Z hml hr hlk hN hl hw
  have hl : lv_has ls 5 [(0, .ref (ad (0, 0))), (1, .int (x)), (2, .int (y))] := hl
  refine lv_iload_n Z.1 Z.2.1 md_Mod_begin_0 rfl (lv_at hl 1 rfl) ?_
  refine xw_cS (n := 1) (rest := []) Z hml hl.1 hN hw (r_isSlot0 l D ad cI cZ (M := M) hx) tb_g mc_Mod_isSlot mk_Mod_101 mt_Mod_isSlot mz_Mod ⟨by decide, by decide, by decide +kernel⟩ ⟨Nat.le_of_ble_eq_true rfl, Nat.le_of_ble_eq_true rfl⟩ rfl rfl (Nat.le_of_ble_eq_true rfl) ⟨Nat.le_refl _, Nat.le_refl _⟩ md_Mod_begin_1 (fun M1 H1 locs1 e1 hw => ?_)
  have ey1 := e1.symm
  subst ey1
  refine W.eq (g2 := F0 m 4 ls [.int (nI (0))]) rfl ?_
  refine xi_if_eq (tgt := 14) Z md_Mod_begin_4 (by decide) (by omega) (fun h4 => ?_) (fun h4 => by exfalso; omega)
  refine lv_iconst (v := -1) Z.1 Z.2.1 md_Mod_begin_14 (by decide) ?_
  exact xw_iret Z hr hlk hw md_Mod_begin_15 rfl rfl
set_option maxHeartbeats 4000000 in
theorem r_propose_b2 (l : Launch) (D : va_G) (ad : Nat × Nat → Nat) (cI cZ : ClassId) {M : fr_M} {s : Nat} (hs : s < 3) {y : Int32} (hy : y < nI 1 ∨ nI 1000 < y) : gm_C l D ad cI cZ my_Mod_propose mb_Mod_propose 3 (some .int) 1 20 M [.ref (ad (0, 0)), .int (nI (s)), .int (y)] (some (.int (-1))) (fun M' => M' = M) := by
  refine xw_start [.ref (ad (0, 0)), .int (nI (s)), .int (y)] (by decide) (Nat.le_of_ble_eq_true rfl) ?_
  intro p e st m below meth cd0 ls Z hml hr hlk hN hl hw
  have hl : lv_has ls 3 [(0, .ref (ad (0, 0))), (1, .int (nI (s))), (2, .int (y))] := hl
  refine lv_iload_n Z.1 Z.2.1 md_Mod_propose_0 rfl (lv_at hl 1 rfl) ?_
  refine xw_cS (n := 1) (rest := []) Z hml hl.1 hN hw (r_isSlot1 l D ad cI cZ (M := M) hs) tb_g mc_Mod_isSlot mk_Mod_101 mt_Mod_isSlot mz_Mod ⟨by decide, by decide, by decide +kernel⟩ ⟨Nat.le_of_ble_eq_true rfl, Nat.le_of_ble_eq_true rfl⟩ rfl rfl (Nat.le_of_ble_eq_true rfl) ⟨Nat.le_refl _, Nat.le_refl _⟩ md_Mod_propose_1 (fun M1 H1 locs1 e1 hw => ?_)
  have ey1 := e1.symm
  subst ey1
  refine W.eq (g2 := F0 m 4 ls [.int (nI (1))]) rfl ?_
  refine xi_if_eq (tgt := 14) Z md_Mod_propose_4 (by decide) (by omega) (fun h4 => by exfalso; omega) (fun h4 => ?_)
  refine lv_iload_n Z.1 Z.2.1 md_Mod_propose_7 rfl (lv_at hl 2 rfl) ?_
  refine xw_cS (n := 1) (rest := []) Z hml hl.1 hN hw (r_isValue0 l D ad cI cZ (M := M) hy) tb_g mc_Mod_isValue mk_Mod_104 mt_Mod_isValue mz_Mod ⟨by decide, by decide, by decide +kernel⟩ ⟨Nat.le_of_ble_eq_true rfl, Nat.le_of_ble_eq_true rfl⟩ rfl rfl (Nat.le_of_ble_eq_true rfl) ⟨Nat.le_refl _, Nat.le_refl _⟩ md_Mod_propose_8 (fun M2 H2 locs2 e2 hw => ?_)
  have ey2 := e2.symm
  subst ey2
  refine W.eq (g2 := F0 m 11 ls [.int (nI (0))]) rfl ?_
  refine xi_if_ne (tgt := 16) Z md_Mod_propose_11 (by decide) (by omega) (fun h11 => by exfalso; omega) (fun h11 => ?_)
  refine lv_iconst (v := -1) Z.1 Z.2.1 md_Mod_propose_14 (by decide) ?_
  exact xw_iret Z hr hlk hw md_Mod_propose_15 rfl rfl
set_option maxHeartbeats 4000000 in
theorem r_begin_b2 (l : Launch) (D : va_G) (ad : Nat × Nat → Nat) (cI cZ : ClassId) {M : fr_M} {s : Nat} (hs : s < 3) {y : Int32} (hy : y < nI 1 ∨ nI 12 < y) : gm_C l D ad cI cZ my_Mod_begin mb_Mod_begin 5 (some .int) 1 20 M [.ref (ad (0, 0)), .int (nI (s)), .int (y)] (some (.int (-1))) (fun M' => M' = M) := by
  refine xw_start [.ref (ad (0, 0)), .int (nI (s)), .int (y)] (by decide) (Nat.le_of_ble_eq_true rfl) ?_
  intro p e st m below meth cd0 ls Z hml hr hlk hN hl hw
  have hl : lv_has ls 5 [(0, .ref (ad (0, 0))), (1, .int (nI (s))), (2, .int (y))] := hl
  refine lv_iload_n Z.1 Z.2.1 md_Mod_begin_0 rfl (lv_at hl 1 rfl) ?_
  refine xw_cS (n := 1) (rest := []) Z hml hl.1 hN hw (r_isSlot1 l D ad cI cZ (M := M) hs) tb_g mc_Mod_isSlot mk_Mod_101 mt_Mod_isSlot mz_Mod ⟨by decide, by decide, by decide +kernel⟩ ⟨Nat.le_of_ble_eq_true rfl, Nat.le_of_ble_eq_true rfl⟩ rfl rfl (Nat.le_of_ble_eq_true rfl) ⟨Nat.le_refl _, Nat.le_refl _⟩ md_Mod_begin_1 (fun M1 H1 locs1 e1 hw => ?_)
  have ey1 := e1.symm
  subst ey1
  refine W.eq (g2 := F0 m 4 ls [.int (nI (1))]) rfl ?_
  refine xi_if_eq (tgt := 14) Z md_Mod_begin_4 (by decide) (by omega) (fun h4 => by exfalso; omega) (fun h4 => ?_)
  refine lv_iload_n Z.1 Z.2.1 md_Mod_begin_7 rfl (lv_at hl 2 rfl) ?_
  refine xw_cS (n := 1) (rest := []) Z hml hl.1 hN hw (r_isRound0 l D ad cI cZ (M := M) hy) tb_g mc_Mod_isRound mk_Mod_111 mt_Mod_isRound mz_Mod ⟨by decide, by decide, by decide +kernel⟩ ⟨Nat.le_of_ble_eq_true rfl, Nat.le_of_ble_eq_true rfl⟩ rfl rfl (Nat.le_of_ble_eq_true rfl) ⟨Nat.le_refl _, Nat.le_refl _⟩ md_Mod_begin_8 (fun M2 H2 locs2 e2 hw => ?_)
  have ey2 := e2.symm
  subst ey2
  refine W.eq (g2 := F0 m 11 ls [.int (nI (0))]) rfl ?_
  refine xi_if_ne (tgt := 16) Z md_Mod_begin_11 (by decide) (by omega) (fun h11 => by exfalso; omega) (fun h11 => ?_)
  refine lv_iconst (v := -1) Z.1 Z.2.1 md_Mod_begin_14 (by decide) ?_
  exact xw_iret Z hr hlk hw md_Mod_begin_15 rfl rfl
set_option maxHeartbeats 4000000 in
theorem r_begin (l : Launch) (D : va_G) (ad : Nat × Nat → Nat) (cI cZ : ClassId) {M : fr_M} {n q f : Nat} {S : pz_T} (hn : n ≤ 5) (hq5 : q ≤ 5) (hf5 : f ≤ 5) (Q : pz_Q n q f) (hI : gm_I n q f S M) {s r c : Nat} (hs : s < 3) (hr1 : 1 ≤ r) (hr12 : r ≤ 12) (hci : pz_ci r = c) (hno : S.2 3 14 (8 + c) 0 = 0) (hgo : S.2 s 8 c 0 < r) : gm_C l D ad cI cZ my_Mod_begin mb_Mod_begin 5 (some .int) 2 52 M [.ref (ad (0, 0)), .int (nI (s)), .int (nI (r))] (some (.int (nI (pz_begin n S s r).1.length))) (gm_I n q f (pz_begin n S s r)) := by
  have h := hI.2
  have I := hI.1
  have hL := I.1
  have hc : c < 2 := by rw [← hci]; exact pz_ci_lt r
  refine xw_start [.ref (ad (0, 0)), .int (nI (s)), .int (nI (r))] (by decide) (Nat.le_of_ble_eq_true rfl) ?_
  intro p e st m below meth cd0 ls Z hml hr hlk hN hl hw
  have hl : lv_has ls 5 [(0, .ref (ad (0, 0))), (1, .int (nI (s))), (2, .int (nI (r)))] := hl
  refine lv_iload_n Z.1 Z.2.1 md_Mod_begin_0 rfl (lv_at hl 1 rfl) ?_
  refine xw_cS (n := 1) (rest := []) Z hml hl.1 hN hw (r_isSlot1 l D ad cI cZ (M := M) hs) tb_g mc_Mod_isSlot mk_Mod_101 mt_Mod_isSlot mz_Mod ⟨by decide, by decide, by decide +kernel⟩ ⟨Nat.le_of_ble_eq_true rfl, Nat.le_of_ble_eq_true rfl⟩ rfl rfl (Nat.le_of_ble_eq_true rfl) ⟨Nat.le_refl _, Nat.le_refl _⟩ md_Mod_begin_1 (fun M1 H1 locs1 e1 hw => ?_)
  have ey1 := e1.symm
  subst ey1
  refine W.eq (g2 := F0 m 4 ls [.int (nI (1))]) rfl ?_
  refine xi_if_eq (tgt := 14) Z md_Mod_begin_4 (by decide) (by omega) (fun h4 => by exfalso; omega) (fun h4 => ?_)
  refine lv_iload_n Z.1 Z.2.1 md_Mod_begin_7 rfl (lv_at hl 2 rfl) ?_
  refine xw_cS (n := 1) (rest := []) Z hml hl.1 hN hw (r_isRound1 l D ad cI cZ (M := M) hr1 hr12) tb_g mc_Mod_isRound mk_Mod_111 mt_Mod_isRound mz_Mod ⟨by decide, by decide, by decide +kernel⟩ ⟨Nat.le_of_ble_eq_true rfl, Nat.le_of_ble_eq_true rfl⟩ rfl rfl (Nat.le_of_ble_eq_true rfl) ⟨Nat.le_refl _, Nat.le_refl _⟩ md_Mod_begin_8 (fun M2 H2 locs2 e2 hw => ?_)
  have ey2 := e2.symm
  subst ey2
  refine W.eq (g2 := F0 m 11 ls [.int (nI (1))]) rfl ?_
  refine xi_if_ne (tgt := 16) Z md_Mod_begin_11 (by decide) (by omega) (fun h11 => ?_) (fun h11 => by exfalso; omega)
  refine lv_iload_n Z.1 Z.2.1 md_Mod_begin_16 rfl (lv_at hl 2 rfl) ?_
  refine xw_cS (n := 1) (rest := []) Z hml hl.1 hN hw (r_coordinatorOf l D ad cI cZ (M := M) (by omega)) tb_g mc_Mod_coordinatorOf mk_Mod_114 mt_Mod_coordinatorOf mz_Mod ⟨by decide, by decide, by decide +kernel⟩ ⟨Nat.le_of_ble_eq_true rfl, Nat.le_of_ble_eq_true rfl⟩ rfl rfl (Nat.le_of_ble_eq_true rfl) ⟨Nat.le_refl _, Nat.le_refl _⟩ md_Mod_begin_17 (fun M3 H3 locs3 e3 hw => ?_)
  have ey3 := e3.symm
  subst ey3
  refine W.eq (g2 := F0 m 20 ls [.int (nI (8 + pz_ci r))]) rfl ?_
  refine xi_re (show _ = nI (8 + c) from (by rw [hci])) ?_
  refine lv_istore_n Z.1 Z.2.1 md_Mod_begin_20 rfl hl (by decide) rfl (fun ls hl => ?_)
  have hl : lv_has ls 5 [(3, .int (nI (8 + c))), (0, .ref (ad (0, 0))), (1, .int (nI (s))), (2, .int (nI (r)))] := hl
  refine lv_iconst (v := nI 3) Z.1 Z.2.1 md_Mod_begin_21 (by decide) ?_
  refine lv_iload_n Z.1 Z.2.1 md_Mod_begin_22 rfl (lv_at hl 0 rfl) ?_
  refine lv_bipush (v := nI 8) Z.1 Z.2.1 md_Mod_begin_23 (by decide) ?_
  refine xi_sub Z md_Mod_begin_25 (by omega) ?_
  refine xi_re (show _ = nI (c) from congrArg nI (by omega)) ?_
  refine xi_mul Z md_Mod_begin_26 ?_
  refine lv_iload_n Z.1 Z.2.1 md_Mod_begin_27 rfl (lv_at hl 2 rfl) ?_
  refine xi_add Z md_Mod_begin_28 ?_
  refine lv_istore Z.1 Z.2.1 md_Mod_begin_29 hl (by decide) rfl (fun ls hl => ?_)
  have hl : lv_has ls 5 [(4, .int (nI ((3 * c) + s))), (3, .int (nI (8 + c))), (0, .ref (ad (0, 0))), (1, .int (nI (s))), (2, .int (nI (r)))] := hl
  refine lv_aload_n Z.1 Z.2.1 md_Mod_begin_31 rfl (lv_at hl 2 rfl) ?_
  refine xb_get (v := .ref (ad (3, 0))) Z hw (by decide) (gm_e0 ad cI cZ) rfl tb_iMod 3 (by decide) mk_Mod_7 rfl rfl md_Mod_begin_32 ?_
  refine lv_iload_n Z.1 Z.2.1 md_Mod_begin_35 rfl (lv_at hl 1 rfl) ?_
  refine xw_zald Z hw (by decide) (gm_e3 ad cI cZ) 1 rfl (8 + c) rfl (by omega) (by omega) md_Mod_begin_36 ?_
  refine xi_re (show M (3, 0) (8 + c) = nI (S.2 3 14 (8 + c) 0) from h.2.2.1 (8 + c) (by omega)) ?_
  have l14 := I.2.2.2 (8 + c)
  refine xi_if_ne (tgt := 51) Z md_Mod_begin_37 (by decide) (by omega) (fun h37 => by exfalso; omega) (fun h37 => ?_)
  refine lv_iload_n Z.1 Z.2.1 md_Mod_begin_40 rfl (lv_at hl 4 rfl) ?_
  refine lv_aload_n Z.1 Z.2.1 md_Mod_begin_41 rfl (lv_at hl 2 rfl) ?_
  refine xb_get (v := .ref (ad (21, 0))) Z hw (by decide) (gm_e0 ad cI cZ) rfl tb_iMod 21 (by decide) mk_Mod_59 rfl rfl md_Mod_begin_42 ?_
  refine lv_iload Z.1 Z.2.1 md_Mod_begin_45 (lv_at hl 0 rfl) ?_
  refine xw_iald Z hw (by decide) (gm_e21 ad cI cZ) 0 rfl (3 * c + s) rfl (by omega) (by omega) md_Mod_begin_47 ?_
  refine xi_re (show M (21, 0) (3 * c + s) = nI (S.2 s 8 c 0) from gm_g8 h hs hc) ?_
  have l8 := (I.2.1 s hs).2.2.2.2.2.1 c hc |>.1
  refine xi_icmp_gt (tgt := 53) Z md_Mod_begin_48 (by decide) (by omega) (by omega) (fun h48 => ?_) (fun h48 => by exfalso; omega)
  refine lv_aload_n Z.1 Z.2.1 md_Mod_begin_53 rfl (lv_at hl 2 rfl) ?_
  refine lv_iload Z.1 Z.2.1 md_Mod_begin_54 (lv_at hl 0 rfl) ?_
  refine lv_iload_n Z.1 Z.2.1 md_Mod_begin_56 rfl (lv_at hl 4 rfl) ?_
  refine lv_iconst (v := nI 1) Z.1 Z.2.1 md_Mod_begin_57 (by decide) ?_
  refine xw_cV (n := 3) (rest := []) Z hml hl.1 hN hw (r_lead (r := r) (w := 1) l D ad cI cZ hn h hs hc) tb_g mc_Mod_lead mk_Mod_118 mi_Mod_lead ms_Mod_lead mz_Mod ⟨by decide, by decide, by decide +kernel⟩ ⟨Nat.le_of_ble_eq_true rfl, Nat.le_of_ble_eq_true rfl⟩ (by decide) (gm_e0 ad cI cZ _) rfl rfl rfl rfl (Nat.le_of_ble_eq_true rfl) ⟨Nat.le_refl _, Nat.le_refl _⟩ md_Mod_begin_58 (fun M4 H4 locs4 h1 hw => ?_)
  refine W.eq (g2 := F0 m 61 ls []) rfl ?_
  refine lv_aload_n Z.1 Z.2.1 md_Mod_begin_61 rfl (lv_at hl 2 rfl) ?_
  refine lv_iconst (v := nI 2) Z.1 Z.2.1 md_Mod_begin_62 (by decide) ?_
  refine lv_iload_n Z.1 Z.2.1 md_Mod_begin_63 rfl (lv_at hl 3 rfl) ?_
  refine lv_iload_n Z.1 Z.2.1 md_Mod_begin_64 rfl (lv_at hl 4 rfl) ?_
  refine lv_iconst (v := nI 0) Z.1 Z.2.1 md_Mod_begin_65 (by decide) ?_
  refine xw_cV (n := 4) (rest := []) Z hml hl.1 hN hw (r_sendAll (kd := 2) (s := s) (r := r) (v := 0) l D ad cI cZ hn h1 hL) tb_g mc_Mod_sendAll mk_Mod_107 mi_Mod_sendAll ms_Mod_sendAll mz_Mod ⟨by decide, by decide, by decide +kernel⟩ ⟨Nat.le_of_ble_eq_true rfl, Nat.le_of_ble_eq_true rfl⟩ (by decide) (gm_e0 ad cI cZ _) rfl rfl rfl rfl (Nat.le_of_ble_eq_true rfl) ⟨Nat.le_refl _, Nat.le_refl _⟩ md_Mod_begin_66 (fun M5 H5 locs5 h2 hw => ?_)
  refine W.eq (g2 := F0 m 69 ls []) rfl ?_
  have h2r : gm_R n q f (pz_begin n S s r) M5 := by unfold pz_begin; rw [hci]; exact h2
  refine lv_aload_n Z.1 Z.2.1 md_Mod_begin_69 rfl (lv_at hl 2 rfl) ?_
  refine xb_get (v := .int (M5 (0, 0) 4)) Z hw (by decide) (gm_e0 ad cI cZ) rfl tb_iMod 4 (by decide) mk_Mod_91 rfl rfl md_Mod_begin_70 ?_
  refine xi_re (show M5 (0, 0) 4 = nI ((pz_begin n S s r).1.length) from h2r.2.1.1) ?_
  exact xw_iret Z hr hlk hw md_Mod_begin_73 rfl ⟨pz_begin_Inv Q I hs hr1 hr12 (by rw [hci]; exact hgo), h2r⟩
set_option maxHeartbeats 4000000 in
theorem r_begin_no (l : Launch) (D : va_G) (ad : Nat × Nat → Nat) (cI cZ : ClassId) {M : fr_M} {n q f : Nat} {S : pz_T} (hn : n ≤ 5) (hq5 : q ≤ 5) (hf5 : f ≤ 5) (Q : pz_Q n q f) (hI : gm_I n q f S M) {s r c : Nat} (hs : s < 3) (hr1 : 1 ≤ r) (hr12 : r ≤ 12) (hci : pz_ci r = c) (hno : S.2 3 14 (8 + c) 0 ≠ 0 ∨ r ≤ S.2 s 8 c 0) : gm_C l D ad cI cZ my_Mod_begin mb_Mod_begin 5 (some .int) 1 20 M [.ref (ad (0, 0)), .int (nI (s)), .int (nI (r))] (some (.int (-1))) (fun M' => M' = M) := by
  have h := hI.2
  have I := hI.1
  have hL := I.1
  have hc : c < 2 := by rw [← hci]; exact pz_ci_lt r
  refine xw_start [.ref (ad (0, 0)), .int (nI (s)), .int (nI (r))] (by decide) (Nat.le_of_ble_eq_true rfl) ?_
  intro p e st m below meth cd0 ls Z hml hr hlk hN hl hw
  have hl : lv_has ls 5 [(0, .ref (ad (0, 0))), (1, .int (nI (s))), (2, .int (nI (r)))] := hl
  refine lv_iload_n Z.1 Z.2.1 md_Mod_begin_0 rfl (lv_at hl 1 rfl) ?_
  refine xw_cS (n := 1) (rest := []) Z hml hl.1 hN hw (r_isSlot1 l D ad cI cZ (M := M) hs) tb_g mc_Mod_isSlot mk_Mod_101 mt_Mod_isSlot mz_Mod ⟨by decide, by decide, by decide +kernel⟩ ⟨Nat.le_of_ble_eq_true rfl, Nat.le_of_ble_eq_true rfl⟩ rfl rfl (Nat.le_of_ble_eq_true rfl) ⟨Nat.le_refl _, Nat.le_refl _⟩ md_Mod_begin_1 (fun M1 H1 locs1 e1 hw => ?_)
  have ey1 := e1.symm
  subst ey1
  refine W.eq (g2 := F0 m 4 ls [.int (nI (1))]) rfl ?_
  refine xi_if_eq (tgt := 14) Z md_Mod_begin_4 (by decide) (by omega) (fun h4 => by exfalso; omega) (fun h4 => ?_)
  refine lv_iload_n Z.1 Z.2.1 md_Mod_begin_7 rfl (lv_at hl 2 rfl) ?_
  refine xw_cS (n := 1) (rest := []) Z hml hl.1 hN hw (r_isRound1 l D ad cI cZ (M := M) hr1 hr12) tb_g mc_Mod_isRound mk_Mod_111 mt_Mod_isRound mz_Mod ⟨by decide, by decide, by decide +kernel⟩ ⟨Nat.le_of_ble_eq_true rfl, Nat.le_of_ble_eq_true rfl⟩ rfl rfl (Nat.le_of_ble_eq_true rfl) ⟨Nat.le_refl _, Nat.le_refl _⟩ md_Mod_begin_8 (fun M2 H2 locs2 e2 hw => ?_)
  have ey2 := e2.symm
  subst ey2
  refine W.eq (g2 := F0 m 11 ls [.int (nI (1))]) rfl ?_
  refine xi_if_ne (tgt := 16) Z md_Mod_begin_11 (by decide) (by omega) (fun h11 => ?_) (fun h11 => by exfalso; omega)
  refine lv_iload_n Z.1 Z.2.1 md_Mod_begin_16 rfl (lv_at hl 2 rfl) ?_
  refine xw_cS (n := 1) (rest := []) Z hml hl.1 hN hw (r_coordinatorOf l D ad cI cZ (M := M) (by omega)) tb_g mc_Mod_coordinatorOf mk_Mod_114 mt_Mod_coordinatorOf mz_Mod ⟨by decide, by decide, by decide +kernel⟩ ⟨Nat.le_of_ble_eq_true rfl, Nat.le_of_ble_eq_true rfl⟩ rfl rfl (Nat.le_of_ble_eq_true rfl) ⟨Nat.le_refl _, Nat.le_refl _⟩ md_Mod_begin_17 (fun M3 H3 locs3 e3 hw => ?_)
  have ey3 := e3.symm
  subst ey3
  refine W.eq (g2 := F0 m 20 ls [.int (nI (8 + pz_ci r))]) rfl ?_
  refine xi_re (show _ = nI (8 + c) from (by rw [hci])) ?_
  refine lv_istore_n Z.1 Z.2.1 md_Mod_begin_20 rfl hl (by decide) rfl (fun ls hl => ?_)
  have hl : lv_has ls 5 [(3, .int (nI (8 + c))), (0, .ref (ad (0, 0))), (1, .int (nI (s))), (2, .int (nI (r)))] := hl
  refine lv_iconst (v := nI 3) Z.1 Z.2.1 md_Mod_begin_21 (by decide) ?_
  refine lv_iload_n Z.1 Z.2.1 md_Mod_begin_22 rfl (lv_at hl 0 rfl) ?_
  refine lv_bipush (v := nI 8) Z.1 Z.2.1 md_Mod_begin_23 (by decide) ?_
  refine xi_sub Z md_Mod_begin_25 (by omega) ?_
  refine xi_re (show _ = nI (c) from congrArg nI (by omega)) ?_
  refine xi_mul Z md_Mod_begin_26 ?_
  refine lv_iload_n Z.1 Z.2.1 md_Mod_begin_27 rfl (lv_at hl 2 rfl) ?_
  refine xi_add Z md_Mod_begin_28 ?_
  refine lv_istore Z.1 Z.2.1 md_Mod_begin_29 hl (by decide) rfl (fun ls hl => ?_)
  have hl : lv_has ls 5 [(4, .int (nI ((3 * c) + s))), (3, .int (nI (8 + c))), (0, .ref (ad (0, 0))), (1, .int (nI (s))), (2, .int (nI (r)))] := hl
  refine lv_aload_n Z.1 Z.2.1 md_Mod_begin_31 rfl (lv_at hl 2 rfl) ?_
  refine xb_get (v := .ref (ad (3, 0))) Z hw (by decide) (gm_e0 ad cI cZ) rfl tb_iMod 3 (by decide) mk_Mod_7 rfl rfl md_Mod_begin_32 ?_
  refine lv_iload_n Z.1 Z.2.1 md_Mod_begin_35 rfl (lv_at hl 1 rfl) ?_
  refine xw_zald Z hw (by decide) (gm_e3 ad cI cZ) 1 rfl (8 + c) rfl (by omega) (by omega) md_Mod_begin_36 ?_
  refine xi_re (show M (3, 0) (8 + c) = nI (S.2 3 14 (8 + c) 0) from h.2.2.1 (8 + c) (by omega)) ?_
  have l14 := I.2.2.2 (8 + c)
  refine xi_if_ne (tgt := 51) Z md_Mod_begin_37 (by decide) (by omega) (fun h37 => ?_) (fun h37 => ?_)
  · refine lv_iconst (v := -1) Z.1 Z.2.1 md_Mod_begin_51 (by decide) ?_
    exact xw_iret Z hr hlk hw md_Mod_begin_52 rfl rfl
  · refine lv_iload_n Z.1 Z.2.1 md_Mod_begin_40 rfl (lv_at hl 4 rfl) ?_
    refine lv_aload_n Z.1 Z.2.1 md_Mod_begin_41 rfl (lv_at hl 2 rfl) ?_
    refine xb_get (v := .ref (ad (21, 0))) Z hw (by decide) (gm_e0 ad cI cZ) rfl tb_iMod 21 (by decide) mk_Mod_59 rfl rfl md_Mod_begin_42 ?_
    refine lv_iload Z.1 Z.2.1 md_Mod_begin_45 (lv_at hl 0 rfl) ?_
    refine xw_iald Z hw (by decide) (gm_e21 ad cI cZ) 0 rfl (3 * c + s) rfl (by omega) (by omega) md_Mod_begin_47 ?_
    refine xi_re (show M (21, 0) (3 * c + s) = nI (S.2 s 8 c 0) from gm_g8 h hs hc) ?_
    have l8 := (I.2.1 s hs).2.2.2.2.2.1 c hc |>.1
    refine xi_icmp_gt (tgt := 53) Z md_Mod_begin_48 (by decide) (by omega) (by omega) (fun h48 => by exfalso; omega) (fun h48 => ?_)
    refine lv_iconst (v := -1) Z.1 Z.2.1 md_Mod_begin_51 (by decide) ?_
    exact xw_iret Z hr hlk hw md_Mod_begin_52 rfl rfl
set_option maxHeartbeats 4000000 in
theorem r_waiting (l : Launch) (D : va_G) (ad : Nat × Nat → Nat) (cI cZ : ClassId) {M : fr_M} {n q f : Nat} {S : pz_T} (hn : n ≤ 5) (hI : gm_I n q f S M) : gm_C l D ad cI cZ my_Mod_waiting mb_Mod_waiting 1 (some .int) 0 0 M [.ref (ad (0, 0))] (some (.int (nI S.1.length))) (fun M' => M' = M) := by
  have h := hI.2
  have I := hI.1
  have hL := I.1
  refine xw_start [.ref (ad (0, 0))] (by decide) (Nat.le_of_ble_eq_true rfl) ?_
  intro p e st m below meth cd0 ls Z hml hr hlk hN hl hw
  have hl : lv_has ls 1 [(0, .ref (ad (0, 0)))] := hl
  refine lv_aload_n Z.1 Z.2.1 md_Mod_waiting_0 rfl (lv_at hl 0 rfl) ?_
  refine xb_get (v := .int (M (0, 0) 4)) Z hw (by decide) (gm_e0 ad cI cZ) rfl tb_iMod 4 (by decide) mk_Mod_91 rfl rfl md_Mod_waiting_1 ?_
  refine xi_re (show M (0, 0) 4 = nI (S.1.length) from h.2.1.1) ?_
  exact xw_iret Z hr hlk hw md_Mod_waiting_4 rfl rfl
set_option maxHeartbeats 4000000 in
theorem r_lost (l : Launch) (D : va_G) (ad : Nat × Nat → Nat) (cI cZ : ClassId) {M : fr_M} {n q f : Nat} {S : pz_T} (hn : n ≤ 5) (hI : gm_I n q f S M) : gm_C l D ad cI cZ my_Mod_lost mb_Mod_lost 1 (some .int) 0 0 M [.ref (ad (0, 0))] (some (.int (nI (S.2 3 15 0 0)))) (fun M' => M' = M) := by
  have h := hI.2
  have I := hI.1
  have hL := I.1
  refine xw_start [.ref (ad (0, 0))] (by decide) (Nat.le_of_ble_eq_true rfl) ?_
  intro p e st m below meth cd0 ls Z hml hr hlk hN hl hw
  have hl : lv_has ls 1 [(0, .ref (ad (0, 0)))] := hl
  refine lv_aload_n Z.1 Z.2.1 md_Mod_lost_0 rfl (lv_at hl 0 rfl) ?_
  refine xb_get (v := .int (M (0, 0) 5)) Z hw (by decide) (gm_e0 ad cI cZ) rfl tb_iMod 5 (by decide) mk_Mod_94 rfl rfl md_Mod_lost_1 ?_
  refine xi_re (show M (0, 0) 5 = nI (S.2 3 15 0 0) from h.2.1.2) ?_
  exact xw_iret Z hr hlk hw md_Mod_lost_4 rfl rfl
set_option maxHeartbeats 4000000 in
theorem r_message (l : Launch) (D : va_G) (ad : Nat × Nat → Nat) (cI cZ : ClassId) {M : fr_M} {n q f : Nat} {S : pz_T} (hn : n ≤ 5) (hI : gm_I n q f S M) {j : Nat} {g : pz_M} (hg : S.1[j]? = some g) : gm_C l D ad cI cZ my_Mod_message mb_Mod_message 2 (some .int) 1 21 M [.ref (ad (0, 0)), .int (nI (j))] (some (.int (nI (100000 * g 0 + 10000 * g 1 + 100 * g 2 + g 4)))) (fun M' => M' = M) := by
  have h := hI.2
  have I := hI.1
  have hL := I.1
  have hj : j < S.1.length := (List.getElem?_eq_some_iff.mp hg).1
  have hrow := h.2.2.2.1 j g hg
  refine xw_start [.ref (ad (0, 0)), .int (nI (j))] (by decide) (Nat.le_of_ble_eq_true rfl) ?_
  intro p e st m below meth cd0 ls Z hml hr hlk hN hl hw
  have hl : lv_has ls 2 [(0, .ref (ad (0, 0))), (1, .int (nI (j)))] := hl
  refine lv_aload_n Z.1 Z.2.1 md_Mod_message_0 rfl (lv_at hl 0 rfl) ?_
  refine lv_iload_n Z.1 Z.2.1 md_Mod_message_1 rfl (lv_at hl 1 rfl) ?_
  refine xw_cV (n := 1) (rest := []) Z hml hl.1 hN hw (r_isMessage1 l D ad cI cZ (n := n) (q := q) (f := f) (M := M) hL h.2.1 hj) tb_g mc_Mod_isMessage mk_Mod_122 mi_Mod_isMessage ms_Mod_isMessage mz_Mod ⟨by decide, by decide, by decide +kernel⟩ ⟨Nat.le_of_ble_eq_true rfl, Nat.le_of_ble_eq_true rfl⟩ (by decide) (gm_e0 ad cI cZ _) rfl rfl rfl rfl (Nat.le_of_ble_eq_true rfl) ⟨Nat.le_refl _, Nat.le_refl _⟩ md_Mod_message_2 (fun M1 H1 locs1 e1 hw => ?_)
  have ey1 := e1.symm
  subst ey1
  refine W.eq (g2 := F0 m 5 ls [.int (nI (1))]) rfl ?_
  refine xi_if_eq (tgt := 48) Z md_Mod_message_5 (by decide) (by omega) (fun h5 => by exfalso; omega) (fun h5 => ?_)
  refine lv_ldc Z.1 Z.2.1 Z.2.2.2.1 (Z.2.2.1 _ (List.mem_cons_of_mem _ mk_Mod_179)) md_Mod_message_8 ?_
  refine xi_re (show _ = nI (100000) by decide) ?_
  refine lv_aload_n Z.1 Z.2.1 md_Mod_message_10 rfl (lv_at hl 0 rfl) ?_
  refine xb_get (v := .ref (ad (6, 0))) Z hw (by decide) (gm_e0 ad cI cZ) rfl tb_iMod 6 (by decide) mk_Mod_13 rfl rfl md_Mod_message_11 ?_
  refine lv_iload_n Z.1 Z.2.1 md_Mod_message_14 rfl (lv_at hl 1 rfl) ?_
  refine xw_iald Z hw (by decide) (gm_e6 ad cI cZ) 0 rfl (j) rfl (by omega) (by omega) md_Mod_message_15 ?_
  refine xi_re (show M (6, 0) (j) = nI (g 0) from hrow.1) ?_
  refine xi_mul Z md_Mod_message_16 ?_
  refine lv_sipush (v := nI 10000) Z.1 Z.2.1 md_Mod_message_17 (by decide) ?_
  refine lv_aload_n Z.1 Z.2.1 md_Mod_message_20 rfl (lv_at hl 0 rfl) ?_
  refine xb_get (v := .ref (ad (7, 0))) Z hw (by decide) (gm_e0 ad cI cZ) rfl tb_iMod 7 (by decide) mk_Mod_17 rfl rfl md_Mod_message_21 ?_
  refine lv_iload_n Z.1 Z.2.1 md_Mod_message_24 rfl (lv_at hl 1 rfl) ?_
  refine xw_iald Z hw (by decide) (gm_e7 ad cI cZ) 0 rfl (j) rfl (by omega) (by omega) md_Mod_message_25 ?_
  refine xi_re (show M (7, 0) (j) = nI (g 1) from hrow.2.1) ?_
  refine xi_mul Z md_Mod_message_26 ?_
  refine xi_add Z md_Mod_message_27 ?_
  refine lv_bipush (v := nI 100) Z.1 Z.2.1 md_Mod_message_28 (by decide) ?_
  refine lv_aload_n Z.1 Z.2.1 md_Mod_message_30 rfl (lv_at hl 0 rfl) ?_
  refine xb_get (v := .ref (ad (8, 0))) Z hw (by decide) (gm_e0 ad cI cZ) rfl tb_iMod 8 (by decide) mk_Mod_20 rfl rfl md_Mod_message_31 ?_
  refine lv_iload_n Z.1 Z.2.1 md_Mod_message_34 rfl (lv_at hl 1 rfl) ?_
  refine xw_iald Z hw (by decide) (gm_e8 ad cI cZ) 0 rfl (j) rfl (by omega) (by omega) md_Mod_message_35 ?_
  refine xi_re (show M (8, 0) (j) = nI (g 2) from hrow.2.2.1) ?_
  refine xi_mul Z md_Mod_message_36 ?_
  refine xi_add Z md_Mod_message_37 ?_
  refine lv_aload_n Z.1 Z.2.1 md_Mod_message_38 rfl (lv_at hl 0 rfl) ?_
  refine xb_get (v := .ref (ad (9, 0))) Z hw (by decide) (gm_e0 ad cI cZ) rfl tb_iMod 9 (by decide) mk_Mod_23 rfl rfl md_Mod_message_39 ?_
  refine lv_iload_n Z.1 Z.2.1 md_Mod_message_42 rfl (lv_at hl 1 rfl) ?_
  refine xw_iald Z hw (by decide) (gm_e9 ad cI cZ) 0 rfl (j) rfl (by omega) (by omega) md_Mod_message_43 ?_
  refine xi_re (show M (9, 0) (j) = nI (g 4) from hrow.2.2.2.1) ?_
  refine xi_add Z md_Mod_message_44 ?_
  refine lv_goto (tgt := 49) Z.1 Z.2.1 md_Mod_message_45 (by decide) ?_
  exact xw_iret Z hr hlk hw md_Mod_message_49 rfl rfl
set_option maxHeartbeats 4000000 in
theorem r_value (l : Launch) (D : va_G) (ad : Nat × Nat → Nat) (cI cZ : ClassId) {M : fr_M} {n q f : Nat} {S : pz_T} (hn : n ≤ 5) (hI : gm_I n q f S M) {j : Nat} {g : pz_M} (hg : S.1[j]? = some g) : gm_C l D ad cI cZ my_Mod_value mb_Mod_value 2 (some .int) 1 21 M [.ref (ad (0, 0)), .int (nI (j))] (some (.int (nI (g 5)))) (fun M' => M' = M) := by
  have h := hI.2
  have I := hI.1
  have hL := I.1
  have hj : j < S.1.length := (List.getElem?_eq_some_iff.mp hg).1
  have hrow := h.2.2.2.1 j g hg
  refine xw_start [.ref (ad (0, 0)), .int (nI (j))] (by decide) (Nat.le_of_ble_eq_true rfl) ?_
  intro p e st m below meth cd0 ls Z hml hr hlk hN hl hw
  have hl : lv_has ls 2 [(0, .ref (ad (0, 0))), (1, .int (nI (j)))] := hl
  refine lv_aload_n Z.1 Z.2.1 md_Mod_value_0 rfl (lv_at hl 0 rfl) ?_
  refine lv_iload_n Z.1 Z.2.1 md_Mod_value_1 rfl (lv_at hl 1 rfl) ?_
  refine xw_cV (n := 1) (rest := []) Z hml hl.1 hN hw (r_isMessage1 l D ad cI cZ (n := n) (q := q) (f := f) (M := M) hL h.2.1 hj) tb_g mc_Mod_isMessage mk_Mod_122 mi_Mod_isMessage ms_Mod_isMessage mz_Mod ⟨by decide, by decide, by decide +kernel⟩ ⟨Nat.le_of_ble_eq_true rfl, Nat.le_of_ble_eq_true rfl⟩ (by decide) (gm_e0 ad cI cZ _) rfl rfl rfl rfl (Nat.le_of_ble_eq_true rfl) ⟨Nat.le_refl _, Nat.le_refl _⟩ md_Mod_value_2 (fun M1 H1 locs1 e1 hw => ?_)
  have ey1 := e1.symm
  subst ey1
  refine W.eq (g2 := F0 m 5 ls [.int (nI (1))]) rfl ?_
  refine xi_if_eq (tgt := 17) Z md_Mod_value_5 (by decide) (by omega) (fun h5 => by exfalso; omega) (fun h5 => ?_)
  refine lv_aload_n Z.1 Z.2.1 md_Mod_value_8 rfl (lv_at hl 0 rfl) ?_
  refine xb_get (v := .ref (ad (11, 0))) Z hw (by decide) (gm_e0 ad cI cZ) rfl tb_iMod 11 (by decide) mk_Mod_29 rfl rfl md_Mod_value_9 ?_
  refine lv_iload_n Z.1 Z.2.1 md_Mod_value_12 rfl (lv_at hl 1 rfl) ?_
  refine xw_iald Z hw (by decide) (gm_e11 ad cI cZ) 0 rfl (j) rfl (by omega) (by omega) md_Mod_value_13 ?_
  refine xi_re (show M (11, 0) (j) = nI (g 5) from hrow.2.2.2.2.2.1) ?_
  refine lv_goto (tgt := 18) Z.1 Z.2.1 md_Mod_value_14 (by decide) ?_
  exact xw_iret Z hr hlk hw md_Mod_value_18 rfl rfl
set_option maxHeartbeats 4000000 in
theorem r_message_b (l : Launch) (D : va_G) (ad : Nat × Nat → Nat) (cI cZ : ClassId) {M : fr_M} {n q f : Nat} {S : pz_T} (hn : n ≤ 5) (hI : gm_I n q f S M) {x : Int32} (hx : x < 0 ∨ nI S.1.length ≤ x) : gm_C l D ad cI cZ my_Mod_message mb_Mod_message 2 (some .int) 1 21 M [.ref (ad (0, 0)), .int (x)] (some (.int (-1))) (fun M' => M' = M) := by
  have h := hI.2
  have I := hI.1
  have hL := I.1
  refine xw_start [.ref (ad (0, 0)), .int (x)] (by decide) (Nat.le_of_ble_eq_true rfl) ?_
  intro p e st m below meth cd0 ls Z hml hr hlk hN hl hw
  have hl : lv_has ls 2 [(0, .ref (ad (0, 0))), (1, .int (x))] := hl
  refine lv_aload_n Z.1 Z.2.1 md_Mod_message_0 rfl (lv_at hl 0 rfl) ?_
  refine lv_iload_n Z.1 Z.2.1 md_Mod_message_1 rfl (lv_at hl 1 rfl) ?_
  refine xw_cV (n := 1) (rest := []) Z hml hl.1 hN hw (r_isMessage0 l D ad cI cZ (n := n) (q := q) (f := f) (M := M) hL h.2.1 hx) tb_g mc_Mod_isMessage mk_Mod_122 mi_Mod_isMessage ms_Mod_isMessage mz_Mod ⟨by decide, by decide, by decide +kernel⟩ ⟨Nat.le_of_ble_eq_true rfl, Nat.le_of_ble_eq_true rfl⟩ (by decide) (gm_e0 ad cI cZ _) rfl rfl rfl rfl (Nat.le_of_ble_eq_true rfl) ⟨Nat.le_refl _, Nat.le_refl _⟩ md_Mod_message_2 (fun M1 H1 locs1 e1 hw => ?_)
  have ey1 := e1.symm
  subst ey1
  refine W.eq (g2 := F0 m 5 ls [.int (nI (0))]) rfl ?_
  refine xi_if_eq (tgt := 48) Z md_Mod_message_5 (by decide) (by omega) (fun h5 => ?_) (fun h5 => by exfalso; omega)
  refine lv_iconst (v := -1) Z.1 Z.2.1 md_Mod_message_48 (by decide) ?_
  exact xw_iret Z hr hlk hw md_Mod_message_49 rfl rfl
set_option maxHeartbeats 4000000 in
theorem r_value_b (l : Launch) (D : va_G) (ad : Nat × Nat → Nat) (cI cZ : ClassId) {M : fr_M} {n q f : Nat} {S : pz_T} (hn : n ≤ 5) (hI : gm_I n q f S M) {x : Int32} (hx : x < 0 ∨ nI S.1.length ≤ x) : gm_C l D ad cI cZ my_Mod_value mb_Mod_value 2 (some .int) 1 21 M [.ref (ad (0, 0)), .int (x)] (some (.int (-1))) (fun M' => M' = M) := by
  have h := hI.2
  have I := hI.1
  have hL := I.1
  refine xw_start [.ref (ad (0, 0)), .int (x)] (by decide) (Nat.le_of_ble_eq_true rfl) ?_
  intro p e st m below meth cd0 ls Z hml hr hlk hN hl hw
  have hl : lv_has ls 2 [(0, .ref (ad (0, 0))), (1, .int (x))] := hl
  refine lv_aload_n Z.1 Z.2.1 md_Mod_value_0 rfl (lv_at hl 0 rfl) ?_
  refine lv_iload_n Z.1 Z.2.1 md_Mod_value_1 rfl (lv_at hl 1 rfl) ?_
  refine xw_cV (n := 1) (rest := []) Z hml hl.1 hN hw (r_isMessage0 l D ad cI cZ (n := n) (q := q) (f := f) (M := M) hL h.2.1 hx) tb_g mc_Mod_isMessage mk_Mod_122 mi_Mod_isMessage ms_Mod_isMessage mz_Mod ⟨by decide, by decide, by decide +kernel⟩ ⟨Nat.le_of_ble_eq_true rfl, Nat.le_of_ble_eq_true rfl⟩ (by decide) (gm_e0 ad cI cZ _) rfl rfl rfl rfl (Nat.le_of_ble_eq_true rfl) ⟨Nat.le_refl _, Nat.le_refl _⟩ md_Mod_value_2 (fun M1 H1 locs1 e1 hw => ?_)
  have ey1 := e1.symm
  subst ey1
  refine W.eq (g2 := F0 m 5 ls [.int (nI (0))]) rfl ?_
  refine xi_if_eq (tgt := 17) Z md_Mod_value_5 (by decide) (by omega) (fun h5 => ?_) (fun h5 => by exfalso; omega)
  refine lv_iconst (v := -1) Z.1 Z.2.1 md_Mod_value_17 (by decide) ?_
  exact xw_iret Z hr hlk hw md_Mod_value_18 rfl rfl
set_option maxHeartbeats 4000000 in
theorem r_round (l : Launch) (D : va_G) (ad : Nat × Nat → Nat) (cI cZ : ClassId) {M : fr_M} {n q f : Nat} {S : pz_T} (hn : n ≤ 5) (hI : gm_I n q f S M) {s a : Nat} (hs : s < 3) (ha : a < n) : gm_C l D ad cI cZ my_Mod_round mb_Mod_round 3 (some .int) 1 21 M [.ref (ad (0, 0)), .int (nI (a)), .int (nI (s))] (some (.int (nI (S.2 s 0 a 0)))) (fun M' => M' = M) := by
  have h := hI.2
  have I := hI.1
  have hL := I.1
  refine xw_start [.ref (ad (0, 0)), .int (nI (a)), .int (nI (s))] (by decide) (Nat.le_of_ble_eq_true rfl) ?_
  intro p e st m below meth cd0 ls Z hml hr hlk hN hl hw
  have hl : lv_has ls 3 [(0, .ref (ad (0, 0))), (1, .int (nI (a))), (2, .int (nI (s)))] := hl
  refine lv_aload_n Z.1 Z.2.1 md_Mod_round_0 rfl (lv_at hl 0 rfl) ?_
  refine lv_iload_n Z.1 Z.2.1 md_Mod_round_1 rfl (lv_at hl 1 rfl) ?_
  refine xw_cV (n := 1) (rest := []) Z hml hl.1 hN hw (r_isAcceptor1 l D ad cI cZ (S := S) (M := M) hn h.1 ha) tb_g mc_Mod_isAcceptor mk_Mod_139 mi_Mod_isAcceptor ms_Mod_isAcceptor mz_Mod ⟨by decide, by decide, by decide +kernel⟩ ⟨Nat.le_of_ble_eq_true rfl, Nat.le_of_ble_eq_true rfl⟩ (by decide) (gm_e0 ad cI cZ _) rfl rfl rfl rfl (Nat.le_of_ble_eq_true rfl) ⟨Nat.le_refl _, Nat.le_refl _⟩ md_Mod_round_2 (fun M1 H1 locs1 e1 hw => ?_)
  have ey1 := e1.symm
  subst ey1
  refine W.eq (g2 := F0 m 5 ls [.int (nI (1))]) rfl ?_
  refine xi_if_eq (tgt := 28) Z md_Mod_round_5 (by decide) (by omega) (fun h5 => by exfalso; omega) (fun h5 => ?_)
  refine lv_iload_n Z.1 Z.2.1 md_Mod_round_8 rfl (lv_at hl 2 rfl) ?_
  refine xw_cS (n := 1) (rest := []) Z hml hl.1 hN hw (r_isSlot1 l D ad cI cZ (M := M) hs) tb_g mc_Mod_isSlot mk_Mod_101 mt_Mod_isSlot mz_Mod ⟨by decide, by decide, by decide +kernel⟩ ⟨Nat.le_of_ble_eq_true rfl, Nat.le_of_ble_eq_true rfl⟩ rfl rfl (Nat.le_of_ble_eq_true rfl) ⟨Nat.le_refl _, Nat.le_refl _⟩ md_Mod_round_9 (fun M2 H2 locs2 e2 hw => ?_)
  have ey2 := e2.symm
  subst ey2
  refine W.eq (g2 := F0 m 12 ls [.int (nI (1))]) rfl ?_
  refine xi_if_eq (tgt := 28) Z md_Mod_round_12 (by decide) (by omega) (fun h12 => by exfalso; omega) (fun h12 => ?_)
  refine lv_aload_n Z.1 Z.2.1 md_Mod_round_15 rfl (lv_at hl 0 rfl) ?_
  refine xb_get (v := .ref (ad (13, 0))) Z hw (by decide) (gm_e0 ad cI cZ) rfl tb_iMod 13 (by decide) mk_Mod_35 rfl rfl md_Mod_round_16 ?_
  refine lv_iconst (v := nI 5) Z.1 Z.2.1 md_Mod_round_19 (by decide) ?_
  refine lv_iload_n Z.1 Z.2.1 md_Mod_round_20 rfl (lv_at hl 2 rfl) ?_
  refine xi_mul Z md_Mod_round_21 ?_
  refine lv_iload_n Z.1 Z.2.1 md_Mod_round_22 rfl (lv_at hl 1 rfl) ?_
  refine xi_add Z md_Mod_round_23 ?_
  refine xw_iald Z hw (by decide) (gm_e13 ad cI cZ) 0 rfl (5 * s + a) rfl (by omega) (by omega) md_Mod_round_24 ?_
  refine xi_re (show M (13, 0) (5 * s + a) = nI (S.2 s 0 a 0) from gm_g0 h hs (by omega)) ?_
  refine lv_goto (tgt := 29) Z.1 Z.2.1 md_Mod_round_25 (by decide) ?_
  exact xw_iret Z hr hlk hw md_Mod_round_29 rfl rfl
set_option maxHeartbeats 4000000 in
theorem r_round_b1 (l : Launch) (D : va_G) (ad : Nat × Nat → Nat) (cI cZ : ClassId) {M : fr_M} {n q f : Nat} {S : pz_T} (hn : n ≤ 5) (hI : gm_I n q f S M) {x y : Int32} (hx : x < 0 ∨ nI n ≤ x) : gm_C l D ad cI cZ my_Mod_round mb_Mod_round 3 (some .int) 1 21 M [.ref (ad (0, 0)), .int (x), .int (y)] (some (.int (-1))) (fun M' => M' = M) := by
  have h := hI.2
  have I := hI.1
  have hL := I.1
  refine xw_start [.ref (ad (0, 0)), .int (x), .int (y)] (by decide) (Nat.le_of_ble_eq_true rfl) ?_
  intro p e st m below meth cd0 ls Z hml hr hlk hN hl hw
  have hl : lv_has ls 3 [(0, .ref (ad (0, 0))), (1, .int (x)), (2, .int (y))] := hl
  refine lv_aload_n Z.1 Z.2.1 md_Mod_round_0 rfl (lv_at hl 0 rfl) ?_
  refine lv_iload_n Z.1 Z.2.1 md_Mod_round_1 rfl (lv_at hl 1 rfl) ?_
  refine xw_cV (n := 1) (rest := []) Z hml hl.1 hN hw (r_isAcceptor0 l D ad cI cZ (S := S) (M := M) hn h.1 hx) tb_g mc_Mod_isAcceptor mk_Mod_139 mi_Mod_isAcceptor ms_Mod_isAcceptor mz_Mod ⟨by decide, by decide, by decide +kernel⟩ ⟨Nat.le_of_ble_eq_true rfl, Nat.le_of_ble_eq_true rfl⟩ (by decide) (gm_e0 ad cI cZ _) rfl rfl rfl rfl (Nat.le_of_ble_eq_true rfl) ⟨Nat.le_refl _, Nat.le_refl _⟩ md_Mod_round_2 (fun M1 H1 locs1 e1 hw => ?_)
  have ey1 := e1.symm
  subst ey1
  refine W.eq (g2 := F0 m 5 ls [.int (nI (0))]) rfl ?_
  refine xi_if_eq (tgt := 28) Z md_Mod_round_5 (by decide) (by omega) (fun h5 => ?_) (fun h5 => by exfalso; omega)
  refine lv_iconst (v := -1) Z.1 Z.2.1 md_Mod_round_28 (by decide) ?_
  exact xw_iret Z hr hlk hw md_Mod_round_29 rfl rfl
set_option maxHeartbeats 4000000 in
theorem r_round_b2 (l : Launch) (D : va_G) (ad : Nat × Nat → Nat) (cI cZ : ClassId) {M : fr_M} {n q f : Nat} {S : pz_T} (hn : n ≤ 5) (hI : gm_I n q f S M) {a : Nat} (ha : a < n) {y : Int32} (hy : y < 0 ∨ nI 3 ≤ y) : gm_C l D ad cI cZ my_Mod_round mb_Mod_round 3 (some .int) 1 21 M [.ref (ad (0, 0)), .int (nI (a)), .int (y)] (some (.int (-1))) (fun M' => M' = M) := by
  have h := hI.2
  have I := hI.1
  have hL := I.1
  refine xw_start [.ref (ad (0, 0)), .int (nI (a)), .int (y)] (by decide) (Nat.le_of_ble_eq_true rfl) ?_
  intro p e st m below meth cd0 ls Z hml hr hlk hN hl hw
  have hl : lv_has ls 3 [(0, .ref (ad (0, 0))), (1, .int (nI (a))), (2, .int (y))] := hl
  refine lv_aload_n Z.1 Z.2.1 md_Mod_round_0 rfl (lv_at hl 0 rfl) ?_
  refine lv_iload_n Z.1 Z.2.1 md_Mod_round_1 rfl (lv_at hl 1 rfl) ?_
  refine xw_cV (n := 1) (rest := []) Z hml hl.1 hN hw (r_isAcceptor1 l D ad cI cZ (S := S) (M := M) hn h.1 ha) tb_g mc_Mod_isAcceptor mk_Mod_139 mi_Mod_isAcceptor ms_Mod_isAcceptor mz_Mod ⟨by decide, by decide, by decide +kernel⟩ ⟨Nat.le_of_ble_eq_true rfl, Nat.le_of_ble_eq_true rfl⟩ (by decide) (gm_e0 ad cI cZ _) rfl rfl rfl rfl (Nat.le_of_ble_eq_true rfl) ⟨Nat.le_refl _, Nat.le_refl _⟩ md_Mod_round_2 (fun M1 H1 locs1 e1 hw => ?_)
  have ey1 := e1.symm
  subst ey1
  refine W.eq (g2 := F0 m 5 ls [.int (nI (1))]) rfl ?_
  refine xi_if_eq (tgt := 28) Z md_Mod_round_5 (by decide) (by omega) (fun h5 => by exfalso; omega) (fun h5 => ?_)
  refine lv_iload_n Z.1 Z.2.1 md_Mod_round_8 rfl (lv_at hl 2 rfl) ?_
  refine xw_cS (n := 1) (rest := []) Z hml hl.1 hN hw (r_isSlot0 l D ad cI cZ (M := M) hy) tb_g mc_Mod_isSlot mk_Mod_101 mt_Mod_isSlot mz_Mod ⟨by decide, by decide, by decide +kernel⟩ ⟨Nat.le_of_ble_eq_true rfl, Nat.le_of_ble_eq_true rfl⟩ rfl rfl (Nat.le_of_ble_eq_true rfl) ⟨Nat.le_refl _, Nat.le_refl _⟩ md_Mod_round_9 (fun M2 H2 locs2 e2 hw => ?_)
  have ey2 := e2.symm
  subst ey2
  refine W.eq (g2 := F0 m 12 ls [.int (nI (0))]) rfl ?_
  refine xi_if_eq (tgt := 28) Z md_Mod_round_12 (by decide) (by omega) (fun h12 => ?_) (fun h12 => by exfalso; omega)
  refine lv_iconst (v := -1) Z.1 Z.2.1 md_Mod_round_28 (by decide) ?_
  exact xw_iret Z hr hlk hw md_Mod_round_29 rfl rfl
set_option maxHeartbeats 4000000 in
theorem r_vote (l : Launch) (D : va_G) (ad : Nat × Nat → Nat) (cI cZ : ClassId) {M : fr_M} {n q f : Nat} {S : pz_T} (hn : n ≤ 5) (hI : gm_I n q f S M) {s a : Nat} (hs : s < 3) (ha : a < n) : gm_C l D ad cI cZ my_Mod_vote mb_Mod_vote 3 (some .int) 1 21 M [.ref (ad (0, 0)), .int (nI (a)), .int (nI (s))] (some (.int (nI (S.2 s 1 a 0)))) (fun M' => M' = M) := by
  have h := hI.2
  have I := hI.1
  have hL := I.1
  refine xw_start [.ref (ad (0, 0)), .int (nI (a)), .int (nI (s))] (by decide) (Nat.le_of_ble_eq_true rfl) ?_
  intro p e st m below meth cd0 ls Z hml hr hlk hN hl hw
  have hl : lv_has ls 3 [(0, .ref (ad (0, 0))), (1, .int (nI (a))), (2, .int (nI (s)))] := hl
  refine lv_aload_n Z.1 Z.2.1 md_Mod_vote_0 rfl (lv_at hl 0 rfl) ?_
  refine lv_iload_n Z.1 Z.2.1 md_Mod_vote_1 rfl (lv_at hl 1 rfl) ?_
  refine xw_cV (n := 1) (rest := []) Z hml hl.1 hN hw (r_isAcceptor1 l D ad cI cZ (S := S) (M := M) hn h.1 ha) tb_g mc_Mod_isAcceptor mk_Mod_139 mi_Mod_isAcceptor ms_Mod_isAcceptor mz_Mod ⟨by decide, by decide, by decide +kernel⟩ ⟨Nat.le_of_ble_eq_true rfl, Nat.le_of_ble_eq_true rfl⟩ (by decide) (gm_e0 ad cI cZ _) rfl rfl rfl rfl (Nat.le_of_ble_eq_true rfl) ⟨Nat.le_refl _, Nat.le_refl _⟩ md_Mod_vote_2 (fun M1 H1 locs1 e1 hw => ?_)
  have ey1 := e1.symm
  subst ey1
  refine W.eq (g2 := F0 m 5 ls [.int (nI (1))]) rfl ?_
  refine xi_if_eq (tgt := 28) Z md_Mod_vote_5 (by decide) (by omega) (fun h5 => by exfalso; omega) (fun h5 => ?_)
  refine lv_iload_n Z.1 Z.2.1 md_Mod_vote_8 rfl (lv_at hl 2 rfl) ?_
  refine xw_cS (n := 1) (rest := []) Z hml hl.1 hN hw (r_isSlot1 l D ad cI cZ (M := M) hs) tb_g mc_Mod_isSlot mk_Mod_101 mt_Mod_isSlot mz_Mod ⟨by decide, by decide, by decide +kernel⟩ ⟨Nat.le_of_ble_eq_true rfl, Nat.le_of_ble_eq_true rfl⟩ rfl rfl (Nat.le_of_ble_eq_true rfl) ⟨Nat.le_refl _, Nat.le_refl _⟩ md_Mod_vote_9 (fun M2 H2 locs2 e2 hw => ?_)
  have ey2 := e2.symm
  subst ey2
  refine W.eq (g2 := F0 m 12 ls [.int (nI (1))]) rfl ?_
  refine xi_if_eq (tgt := 28) Z md_Mod_vote_12 (by decide) (by omega) (fun h12 => by exfalso; omega) (fun h12 => ?_)
  refine lv_aload_n Z.1 Z.2.1 md_Mod_vote_15 rfl (lv_at hl 0 rfl) ?_
  refine xb_get (v := .ref (ad (14, 0))) Z hw (by decide) (gm_e0 ad cI cZ) rfl tb_iMod 14 (by decide) mk_Mod_38 rfl rfl md_Mod_vote_16 ?_
  refine lv_iconst (v := nI 5) Z.1 Z.2.1 md_Mod_vote_19 (by decide) ?_
  refine lv_iload_n Z.1 Z.2.1 md_Mod_vote_20 rfl (lv_at hl 2 rfl) ?_
  refine xi_mul Z md_Mod_vote_21 ?_
  refine lv_iload_n Z.1 Z.2.1 md_Mod_vote_22 rfl (lv_at hl 1 rfl) ?_
  refine xi_add Z md_Mod_vote_23 ?_
  refine xw_iald Z hw (by decide) (gm_e14 ad cI cZ) 0 rfl (5 * s + a) rfl (by omega) (by omega) md_Mod_vote_24 ?_
  refine xi_re (show M (14, 0) (5 * s + a) = nI (S.2 s 1 a 0) from gm_g1 h hs (by omega)) ?_
  refine lv_goto (tgt := 29) Z.1 Z.2.1 md_Mod_vote_25 (by decide) ?_
  exact xw_iret Z hr hlk hw md_Mod_vote_29 rfl rfl
set_option maxHeartbeats 4000000 in
theorem r_vote_b1 (l : Launch) (D : va_G) (ad : Nat × Nat → Nat) (cI cZ : ClassId) {M : fr_M} {n q f : Nat} {S : pz_T} (hn : n ≤ 5) (hI : gm_I n q f S M) {x y : Int32} (hx : x < 0 ∨ nI n ≤ x) : gm_C l D ad cI cZ my_Mod_vote mb_Mod_vote 3 (some .int) 1 21 M [.ref (ad (0, 0)), .int (x), .int (y)] (some (.int (-1))) (fun M' => M' = M) := by
  have h := hI.2
  have I := hI.1
  have hL := I.1
  refine xw_start [.ref (ad (0, 0)), .int (x), .int (y)] (by decide) (Nat.le_of_ble_eq_true rfl) ?_
  intro p e st m below meth cd0 ls Z hml hr hlk hN hl hw
  have hl : lv_has ls 3 [(0, .ref (ad (0, 0))), (1, .int (x)), (2, .int (y))] := hl
  refine lv_aload_n Z.1 Z.2.1 md_Mod_vote_0 rfl (lv_at hl 0 rfl) ?_
  refine lv_iload_n Z.1 Z.2.1 md_Mod_vote_1 rfl (lv_at hl 1 rfl) ?_
  refine xw_cV (n := 1) (rest := []) Z hml hl.1 hN hw (r_isAcceptor0 l D ad cI cZ (S := S) (M := M) hn h.1 hx) tb_g mc_Mod_isAcceptor mk_Mod_139 mi_Mod_isAcceptor ms_Mod_isAcceptor mz_Mod ⟨by decide, by decide, by decide +kernel⟩ ⟨Nat.le_of_ble_eq_true rfl, Nat.le_of_ble_eq_true rfl⟩ (by decide) (gm_e0 ad cI cZ _) rfl rfl rfl rfl (Nat.le_of_ble_eq_true rfl) ⟨Nat.le_refl _, Nat.le_refl _⟩ md_Mod_vote_2 (fun M1 H1 locs1 e1 hw => ?_)
  have ey1 := e1.symm
  subst ey1
  refine W.eq (g2 := F0 m 5 ls [.int (nI (0))]) rfl ?_
  refine xi_if_eq (tgt := 28) Z md_Mod_vote_5 (by decide) (by omega) (fun h5 => ?_) (fun h5 => by exfalso; omega)
  refine lv_iconst (v := -1) Z.1 Z.2.1 md_Mod_vote_28 (by decide) ?_
  exact xw_iret Z hr hlk hw md_Mod_vote_29 rfl rfl
set_option maxHeartbeats 4000000 in
theorem r_vote_b2 (l : Launch) (D : va_G) (ad : Nat × Nat → Nat) (cI cZ : ClassId) {M : fr_M} {n q f : Nat} {S : pz_T} (hn : n ≤ 5) (hI : gm_I n q f S M) {a : Nat} (ha : a < n) {y : Int32} (hy : y < 0 ∨ nI 3 ≤ y) : gm_C l D ad cI cZ my_Mod_vote mb_Mod_vote 3 (some .int) 1 21 M [.ref (ad (0, 0)), .int (nI (a)), .int (y)] (some (.int (-1))) (fun M' => M' = M) := by
  have h := hI.2
  have I := hI.1
  have hL := I.1
  refine xw_start [.ref (ad (0, 0)), .int (nI (a)), .int (y)] (by decide) (Nat.le_of_ble_eq_true rfl) ?_
  intro p e st m below meth cd0 ls Z hml hr hlk hN hl hw
  have hl : lv_has ls 3 [(0, .ref (ad (0, 0))), (1, .int (nI (a))), (2, .int (y))] := hl
  refine lv_aload_n Z.1 Z.2.1 md_Mod_vote_0 rfl (lv_at hl 0 rfl) ?_
  refine lv_iload_n Z.1 Z.2.1 md_Mod_vote_1 rfl (lv_at hl 1 rfl) ?_
  refine xw_cV (n := 1) (rest := []) Z hml hl.1 hN hw (r_isAcceptor1 l D ad cI cZ (S := S) (M := M) hn h.1 ha) tb_g mc_Mod_isAcceptor mk_Mod_139 mi_Mod_isAcceptor ms_Mod_isAcceptor mz_Mod ⟨by decide, by decide, by decide +kernel⟩ ⟨Nat.le_of_ble_eq_true rfl, Nat.le_of_ble_eq_true rfl⟩ (by decide) (gm_e0 ad cI cZ _) rfl rfl rfl rfl (Nat.le_of_ble_eq_true rfl) ⟨Nat.le_refl _, Nat.le_refl _⟩ md_Mod_vote_2 (fun M1 H1 locs1 e1 hw => ?_)
  have ey1 := e1.symm
  subst ey1
  refine W.eq (g2 := F0 m 5 ls [.int (nI (1))]) rfl ?_
  refine xi_if_eq (tgt := 28) Z md_Mod_vote_5 (by decide) (by omega) (fun h5 => by exfalso; omega) (fun h5 => ?_)
  refine lv_iload_n Z.1 Z.2.1 md_Mod_vote_8 rfl (lv_at hl 2 rfl) ?_
  refine xw_cS (n := 1) (rest := []) Z hml hl.1 hN hw (r_isSlot0 l D ad cI cZ (M := M) hy) tb_g mc_Mod_isSlot mk_Mod_101 mt_Mod_isSlot mz_Mod ⟨by decide, by decide, by decide +kernel⟩ ⟨Nat.le_of_ble_eq_true rfl, Nat.le_of_ble_eq_true rfl⟩ rfl rfl (Nat.le_of_ble_eq_true rfl) ⟨Nat.le_refl _, Nat.le_refl _⟩ md_Mod_vote_9 (fun M2 H2 locs2 e2 hw => ?_)
  have ey2 := e2.symm
  subst ey2
  refine W.eq (g2 := F0 m 12 ls [.int (nI (0))]) rfl ?_
  refine xi_if_eq (tgt := 28) Z md_Mod_vote_12 (by decide) (by omega) (fun h12 => ?_) (fun h12 => by exfalso; omega)
  refine lv_iconst (v := -1) Z.1 Z.2.1 md_Mod_vote_28 (by decide) ?_
  exact xw_iret Z hr hlk hw md_Mod_vote_29 rfl rfl
set_option maxHeartbeats 4000000 in
theorem r_voteRound (l : Launch) (D : va_G) (ad : Nat × Nat → Nat) (cI cZ : ClassId) {M : fr_M} {n q f : Nat} {S : pz_T} (hn : n ≤ 5) (hI : gm_I n q f S M) {s a : Nat} (hs : s < 3) (ha : a < n) : gm_C l D ad cI cZ my_Mod_voteRound mb_Mod_voteRound 3 (some .int) 1 21 M [.ref (ad (0, 0)), .int (nI (a)), .int (nI (s))] (some (.int (nI (S.2 s 2 a 0)))) (fun M' => M' = M) := by
  have h := hI.2
  have I := hI.1
  have hL := I.1
  refine xw_start [.ref (ad (0, 0)), .int (nI (a)), .int (nI (s))] (by decide) (Nat.le_of_ble_eq_true rfl) ?_
  intro p e st m below meth cd0 ls Z hml hr hlk hN hl hw
  have hl : lv_has ls 3 [(0, .ref (ad (0, 0))), (1, .int (nI (a))), (2, .int (nI (s)))] := hl
  refine lv_aload_n Z.1 Z.2.1 md_Mod_voteRound_0 rfl (lv_at hl 0 rfl) ?_
  refine lv_iload_n Z.1 Z.2.1 md_Mod_voteRound_1 rfl (lv_at hl 1 rfl) ?_
  refine xw_cV (n := 1) (rest := []) Z hml hl.1 hN hw (r_isAcceptor1 l D ad cI cZ (S := S) (M := M) hn h.1 ha) tb_g mc_Mod_isAcceptor mk_Mod_139 mi_Mod_isAcceptor ms_Mod_isAcceptor mz_Mod ⟨by decide, by decide, by decide +kernel⟩ ⟨Nat.le_of_ble_eq_true rfl, Nat.le_of_ble_eq_true rfl⟩ (by decide) (gm_e0 ad cI cZ _) rfl rfl rfl rfl (Nat.le_of_ble_eq_true rfl) ⟨Nat.le_refl _, Nat.le_refl _⟩ md_Mod_voteRound_2 (fun M1 H1 locs1 e1 hw => ?_)
  have ey1 := e1.symm
  subst ey1
  refine W.eq (g2 := F0 m 5 ls [.int (nI (1))]) rfl ?_
  refine xi_if_eq (tgt := 28) Z md_Mod_voteRound_5 (by decide) (by omega) (fun h5 => by exfalso; omega) (fun h5 => ?_)
  refine lv_iload_n Z.1 Z.2.1 md_Mod_voteRound_8 rfl (lv_at hl 2 rfl) ?_
  refine xw_cS (n := 1) (rest := []) Z hml hl.1 hN hw (r_isSlot1 l D ad cI cZ (M := M) hs) tb_g mc_Mod_isSlot mk_Mod_101 mt_Mod_isSlot mz_Mod ⟨by decide, by decide, by decide +kernel⟩ ⟨Nat.le_of_ble_eq_true rfl, Nat.le_of_ble_eq_true rfl⟩ rfl rfl (Nat.le_of_ble_eq_true rfl) ⟨Nat.le_refl _, Nat.le_refl _⟩ md_Mod_voteRound_9 (fun M2 H2 locs2 e2 hw => ?_)
  have ey2 := e2.symm
  subst ey2
  refine W.eq (g2 := F0 m 12 ls [.int (nI (1))]) rfl ?_
  refine xi_if_eq (tgt := 28) Z md_Mod_voteRound_12 (by decide) (by omega) (fun h12 => by exfalso; omega) (fun h12 => ?_)
  refine lv_aload_n Z.1 Z.2.1 md_Mod_voteRound_15 rfl (lv_at hl 0 rfl) ?_
  refine xb_get (v := .ref (ad (15, 0))) Z hw (by decide) (gm_e0 ad cI cZ) rfl tb_iMod 15 (by decide) mk_Mod_41 rfl rfl md_Mod_voteRound_16 ?_
  refine lv_iconst (v := nI 5) Z.1 Z.2.1 md_Mod_voteRound_19 (by decide) ?_
  refine lv_iload_n Z.1 Z.2.1 md_Mod_voteRound_20 rfl (lv_at hl 2 rfl) ?_
  refine xi_mul Z md_Mod_voteRound_21 ?_
  refine lv_iload_n Z.1 Z.2.1 md_Mod_voteRound_22 rfl (lv_at hl 1 rfl) ?_
  refine xi_add Z md_Mod_voteRound_23 ?_
  refine xw_iald Z hw (by decide) (gm_e15 ad cI cZ) 0 rfl (5 * s + a) rfl (by omega) (by omega) md_Mod_voteRound_24 ?_
  refine xi_re (show M (15, 0) (5 * s + a) = nI (S.2 s 2 a 0) from gm_g2 h hs (by omega)) ?_
  refine lv_goto (tgt := 29) Z.1 Z.2.1 md_Mod_voteRound_25 (by decide) ?_
  exact xw_iret Z hr hlk hw md_Mod_voteRound_29 rfl rfl
set_option maxHeartbeats 4000000 in
theorem r_voteRound_b1 (l : Launch) (D : va_G) (ad : Nat × Nat → Nat) (cI cZ : ClassId) {M : fr_M} {n q f : Nat} {S : pz_T} (hn : n ≤ 5) (hI : gm_I n q f S M) {x y : Int32} (hx : x < 0 ∨ nI n ≤ x) : gm_C l D ad cI cZ my_Mod_voteRound mb_Mod_voteRound 3 (some .int) 1 21 M [.ref (ad (0, 0)), .int (x), .int (y)] (some (.int (-1))) (fun M' => M' = M) := by
  have h := hI.2
  have I := hI.1
  have hL := I.1
  refine xw_start [.ref (ad (0, 0)), .int (x), .int (y)] (by decide) (Nat.le_of_ble_eq_true rfl) ?_
  intro p e st m below meth cd0 ls Z hml hr hlk hN hl hw
  have hl : lv_has ls 3 [(0, .ref (ad (0, 0))), (1, .int (x)), (2, .int (y))] := hl
  refine lv_aload_n Z.1 Z.2.1 md_Mod_voteRound_0 rfl (lv_at hl 0 rfl) ?_
  refine lv_iload_n Z.1 Z.2.1 md_Mod_voteRound_1 rfl (lv_at hl 1 rfl) ?_
  refine xw_cV (n := 1) (rest := []) Z hml hl.1 hN hw (r_isAcceptor0 l D ad cI cZ (S := S) (M := M) hn h.1 hx) tb_g mc_Mod_isAcceptor mk_Mod_139 mi_Mod_isAcceptor ms_Mod_isAcceptor mz_Mod ⟨by decide, by decide, by decide +kernel⟩ ⟨Nat.le_of_ble_eq_true rfl, Nat.le_of_ble_eq_true rfl⟩ (by decide) (gm_e0 ad cI cZ _) rfl rfl rfl rfl (Nat.le_of_ble_eq_true rfl) ⟨Nat.le_refl _, Nat.le_refl _⟩ md_Mod_voteRound_2 (fun M1 H1 locs1 e1 hw => ?_)
  have ey1 := e1.symm
  subst ey1
  refine W.eq (g2 := F0 m 5 ls [.int (nI (0))]) rfl ?_
  refine xi_if_eq (tgt := 28) Z md_Mod_voteRound_5 (by decide) (by omega) (fun h5 => ?_) (fun h5 => by exfalso; omega)
  refine lv_iconst (v := -1) Z.1 Z.2.1 md_Mod_voteRound_28 (by decide) ?_
  exact xw_iret Z hr hlk hw md_Mod_voteRound_29 rfl rfl
set_option maxHeartbeats 4000000 in
theorem r_voteRound_b2 (l : Launch) (D : va_G) (ad : Nat × Nat → Nat) (cI cZ : ClassId) {M : fr_M} {n q f : Nat} {S : pz_T} (hn : n ≤ 5) (hI : gm_I n q f S M) {a : Nat} (ha : a < n) {y : Int32} (hy : y < 0 ∨ nI 3 ≤ y) : gm_C l D ad cI cZ my_Mod_voteRound mb_Mod_voteRound 3 (some .int) 1 21 M [.ref (ad (0, 0)), .int (nI (a)), .int (y)] (some (.int (-1))) (fun M' => M' = M) := by
  have h := hI.2
  have I := hI.1
  have hL := I.1
  refine xw_start [.ref (ad (0, 0)), .int (nI (a)), .int (y)] (by decide) (Nat.le_of_ble_eq_true rfl) ?_
  intro p e st m below meth cd0 ls Z hml hr hlk hN hl hw
  have hl : lv_has ls 3 [(0, .ref (ad (0, 0))), (1, .int (nI (a))), (2, .int (y))] := hl
  refine lv_aload_n Z.1 Z.2.1 md_Mod_voteRound_0 rfl (lv_at hl 0 rfl) ?_
  refine lv_iload_n Z.1 Z.2.1 md_Mod_voteRound_1 rfl (lv_at hl 1 rfl) ?_
  refine xw_cV (n := 1) (rest := []) Z hml hl.1 hN hw (r_isAcceptor1 l D ad cI cZ (S := S) (M := M) hn h.1 ha) tb_g mc_Mod_isAcceptor mk_Mod_139 mi_Mod_isAcceptor ms_Mod_isAcceptor mz_Mod ⟨by decide, by decide, by decide +kernel⟩ ⟨Nat.le_of_ble_eq_true rfl, Nat.le_of_ble_eq_true rfl⟩ (by decide) (gm_e0 ad cI cZ _) rfl rfl rfl rfl (Nat.le_of_ble_eq_true rfl) ⟨Nat.le_refl _, Nat.le_refl _⟩ md_Mod_voteRound_2 (fun M1 H1 locs1 e1 hw => ?_)
  have ey1 := e1.symm
  subst ey1
  refine W.eq (g2 := F0 m 5 ls [.int (nI (1))]) rfl ?_
  refine xi_if_eq (tgt := 28) Z md_Mod_voteRound_5 (by decide) (by omega) (fun h5 => by exfalso; omega) (fun h5 => ?_)
  refine lv_iload_n Z.1 Z.2.1 md_Mod_voteRound_8 rfl (lv_at hl 2 rfl) ?_
  refine xw_cS (n := 1) (rest := []) Z hml hl.1 hN hw (r_isSlot0 l D ad cI cZ (M := M) hy) tb_g mc_Mod_isSlot mk_Mod_101 mt_Mod_isSlot mz_Mod ⟨by decide, by decide, by decide +kernel⟩ ⟨Nat.le_of_ble_eq_true rfl, Nat.le_of_ble_eq_true rfl⟩ rfl rfl (Nat.le_of_ble_eq_true rfl) ⟨Nat.le_refl _, Nat.le_refl _⟩ md_Mod_voteRound_9 (fun M2 H2 locs2 e2 hw => ?_)
  have ey2 := e2.symm
  subst ey2
  refine W.eq (g2 := F0 m 12 ls [.int (nI (0))]) rfl ?_
  refine xi_if_eq (tgt := 28) Z md_Mod_voteRound_12 (by decide) (by omega) (fun h12 => ?_) (fun h12 => by exfalso; omega)
  refine lv_iconst (v := -1) Z.1 Z.2.1 md_Mod_voteRound_28 (by decide) ?_
  exact xw_iret Z hr hlk hw md_Mod_voteRound_29 rfl rfl
set_option maxHeartbeats 4000000 in
theorem r_leads (l : Launch) (D : va_G) (ad : Nat × Nat → Nat) (cI cZ : ClassId) {M : fr_M} {n q f : Nat} {S : pz_T} (hn : n ≤ 5) (hI : gm_I n q f S M) {s c : Nat} (hs : s < 3) (hc : c < 2) : gm_C l D ad cI cZ my_Mod_leads mb_Mod_leads 3 (some .int) 1 20 M [.ref (ad (0, 0)), .int (nI (8 + c)), .int (nI (s))] (some (.int (nI (S.2 s 8 c 0)))) (fun M' => M' = M) := by
  have h := hI.2
  have I := hI.1
  have hL := I.1
  refine xw_start [.ref (ad (0, 0)), .int (nI (8 + c)), .int (nI (s))] (by decide) (Nat.le_of_ble_eq_true rfl) ?_
  intro p e st m below meth cd0 ls Z hml hr hlk hN hl hw
  have hl : lv_has ls 3 [(0, .ref (ad (0, 0))), (1, .int (nI (8 + c))), (2, .int (nI (s)))] := hl
  refine lv_iload_n Z.1 Z.2.1 md_Mod_leads_0 rfl (lv_at hl 1 rfl) ?_
  refine xw_cS (n := 1) (rest := []) Z hml hl.1 hN hw (r_isCoordinator1 l D ad cI cZ (M := M) (show 8 + c = 8 ∨ 8 + c = 9 by omega)) tb_g mc_Mod_isCoordinator mk_Mod_180 mt_Mod_isCoordinator mz_Mod ⟨by decide, by decide, by decide +kernel⟩ ⟨Nat.le_of_ble_eq_true rfl, Nat.le_of_ble_eq_true rfl⟩ rfl rfl (Nat.le_of_ble_eq_true rfl) ⟨Nat.le_refl _, Nat.le_refl _⟩ md_Mod_leads_1 (fun M1 H1 locs1 e1 hw => ?_)
  have ey1 := e1.symm
  subst ey1
  refine W.eq (g2 := F0 m 4 ls [.int (nI (1))]) rfl ?_
  refine xi_if_eq (tgt := 30) Z md_Mod_leads_4 (by decide) (by omega) (fun h4 => by exfalso; omega) (fun h4 => ?_)
  refine lv_iload_n Z.1 Z.2.1 md_Mod_leads_7 rfl (lv_at hl 2 rfl) ?_
  refine xw_cS (n := 1) (rest := []) Z hml hl.1 hN hw (r_isSlot1 l D ad cI cZ (M := M) hs) tb_g mc_Mod_isSlot mk_Mod_101 mt_Mod_isSlot mz_Mod ⟨by decide, by decide, by decide +kernel⟩ ⟨Nat.le_of_ble_eq_true rfl, Nat.le_of_ble_eq_true rfl⟩ rfl rfl (Nat.le_of_ble_eq_true rfl) ⟨Nat.le_refl _, Nat.le_refl _⟩ md_Mod_leads_8 (fun M2 H2 locs2 e2 hw => ?_)
  have ey2 := e2.symm
  subst ey2
  refine W.eq (g2 := F0 m 11 ls [.int (nI (1))]) rfl ?_
  refine xi_if_eq (tgt := 30) Z md_Mod_leads_11 (by decide) (by omega) (fun h11 => by exfalso; omega) (fun h11 => ?_)
  refine lv_aload_n Z.1 Z.2.1 md_Mod_leads_14 rfl (lv_at hl 0 rfl) ?_
  refine xb_get (v := .ref (ad (21, 0))) Z hw (by decide) (gm_e0 ad cI cZ) rfl tb_iMod 21 (by decide) mk_Mod_59 rfl rfl md_Mod_leads_15 ?_
  refine lv_iconst (v := nI 3) Z.1 Z.2.1 md_Mod_leads_18 (by decide) ?_
  refine lv_iload_n Z.1 Z.2.1 md_Mod_leads_19 rfl (lv_at hl 1 rfl) ?_
  refine lv_bipush (v := nI 8) Z.1 Z.2.1 md_Mod_leads_20 (by decide) ?_
  refine xi_sub Z md_Mod_leads_22 (by omega) ?_
  refine xi_re (show _ = nI (c) from congrArg nI (by omega)) ?_
  refine xi_mul Z md_Mod_leads_23 ?_
  refine lv_iload_n Z.1 Z.2.1 md_Mod_leads_24 rfl (lv_at hl 2 rfl) ?_
  refine xi_add Z md_Mod_leads_25 ?_
  refine xw_iald Z hw (by decide) (gm_e21 ad cI cZ) 0 rfl (3 * c + s) rfl (by omega) (by omega) md_Mod_leads_26 ?_
  refine xi_re (show M (21, 0) (3 * c + s) = nI (S.2 s 8 c 0) from gm_g8 h hs hc) ?_
  refine lv_goto (tgt := 31) Z.1 Z.2.1 md_Mod_leads_27 (by decide) ?_
  exact xw_iret Z hr hlk hw md_Mod_leads_31 rfl rfl
set_option maxHeartbeats 4000000 in
theorem r_leads_b1 (l : Launch) (D : va_G) (ad : Nat × Nat → Nat) (cI cZ : ClassId) {M : fr_M} {n q f : Nat} {S : pz_T} (hn : n ≤ 5) (hI : gm_I n q f S M) {x y : Int32} (hx8 : ¬ x = nI 8) (hx9 : ¬ x = nI 9) : gm_C l D ad cI cZ my_Mod_leads mb_Mod_leads 3 (some .int) 1 20 M [.ref (ad (0, 0)), .int (x), .int (y)] (some (.int (-1))) (fun M' => M' = M) := by
  have h := hI.2
  have I := hI.1
  have hL := I.1
  refine xw_start [.ref (ad (0, 0)), .int (x), .int (y)] (by decide) (Nat.le_of_ble_eq_true rfl) ?_
  intro p e st m below meth cd0 ls Z hml hr hlk hN hl hw
  have hl : lv_has ls 3 [(0, .ref (ad (0, 0))), (1, .int (x)), (2, .int (y))] := hl
  refine lv_iload_n Z.1 Z.2.1 md_Mod_leads_0 rfl (lv_at hl 1 rfl) ?_
  refine xw_cS (n := 1) (rest := []) Z hml hl.1 hN hw (r_isCoordinator0 l D ad cI cZ (M := M) hx8 hx9) tb_g mc_Mod_isCoordinator mk_Mod_180 mt_Mod_isCoordinator mz_Mod ⟨by decide, by decide, by decide +kernel⟩ ⟨Nat.le_of_ble_eq_true rfl, Nat.le_of_ble_eq_true rfl⟩ rfl rfl (Nat.le_of_ble_eq_true rfl) ⟨Nat.le_refl _, Nat.le_refl _⟩ md_Mod_leads_1 (fun M1 H1 locs1 e1 hw => ?_)
  have ey1 := e1.symm
  subst ey1
  refine W.eq (g2 := F0 m 4 ls [.int (nI (0))]) rfl ?_
  refine xi_if_eq (tgt := 30) Z md_Mod_leads_4 (by decide) (by omega) (fun h4 => ?_) (fun h4 => by exfalso; omega)
  refine lv_iconst (v := -1) Z.1 Z.2.1 md_Mod_leads_30 (by decide) ?_
  exact xw_iret Z hr hlk hw md_Mod_leads_31 rfl rfl
set_option maxHeartbeats 4000000 in
theorem r_leads_b2 (l : Launch) (D : va_G) (ad : Nat × Nat → Nat) (cI cZ : ClassId) {M : fr_M} {n q f : Nat} {S : pz_T} (hn : n ≤ 5) (hI : gm_I n q f S M) {c : Nat} (hc : c < 2) {y : Int32} (hy : y < 0 ∨ nI 3 ≤ y) : gm_C l D ad cI cZ my_Mod_leads mb_Mod_leads 3 (some .int) 1 20 M [.ref (ad (0, 0)), .int (nI (8 + c)), .int (y)] (some (.int (-1))) (fun M' => M' = M) := by
  have h := hI.2
  have I := hI.1
  have hL := I.1
  refine xw_start [.ref (ad (0, 0)), .int (nI (8 + c)), .int (y)] (by decide) (Nat.le_of_ble_eq_true rfl) ?_
  intro p e st m below meth cd0 ls Z hml hr hlk hN hl hw
  have hl : lv_has ls 3 [(0, .ref (ad (0, 0))), (1, .int (nI (8 + c))), (2, .int (y))] := hl
  refine lv_iload_n Z.1 Z.2.1 md_Mod_leads_0 rfl (lv_at hl 1 rfl) ?_
  refine xw_cS (n := 1) (rest := []) Z hml hl.1 hN hw (r_isCoordinator1 l D ad cI cZ (M := M) (show 8 + c = 8 ∨ 8 + c = 9 by omega)) tb_g mc_Mod_isCoordinator mk_Mod_180 mt_Mod_isCoordinator mz_Mod ⟨by decide, by decide, by decide +kernel⟩ ⟨Nat.le_of_ble_eq_true rfl, Nat.le_of_ble_eq_true rfl⟩ rfl rfl (Nat.le_of_ble_eq_true rfl) ⟨Nat.le_refl _, Nat.le_refl _⟩ md_Mod_leads_1 (fun M1 H1 locs1 e1 hw => ?_)
  have ey1 := e1.symm
  subst ey1
  refine W.eq (g2 := F0 m 4 ls [.int (nI (1))]) rfl ?_
  refine xi_if_eq (tgt := 30) Z md_Mod_leads_4 (by decide) (by omega) (fun h4 => by exfalso; omega) (fun h4 => ?_)
  refine lv_iload_n Z.1 Z.2.1 md_Mod_leads_7 rfl (lv_at hl 2 rfl) ?_
  refine xw_cS (n := 1) (rest := []) Z hml hl.1 hN hw (r_isSlot0 l D ad cI cZ (M := M) hy) tb_g mc_Mod_isSlot mk_Mod_101 mt_Mod_isSlot mz_Mod ⟨by decide, by decide, by decide +kernel⟩ ⟨Nat.le_of_ble_eq_true rfl, Nat.le_of_ble_eq_true rfl⟩ rfl rfl (Nat.le_of_ble_eq_true rfl) ⟨Nat.le_refl _, Nat.le_refl _⟩ md_Mod_leads_8 (fun M2 H2 locs2 e2 hw => ?_)
  have ey2 := e2.symm
  subst ey2
  refine W.eq (g2 := F0 m 11 ls [.int (nI (0))]) rfl ?_
  refine xi_if_eq (tgt := 30) Z md_Mod_leads_11 (by decide) (by omega) (fun h11 => ?_) (fun h11 => by exfalso; omega)
  refine lv_iconst (v := -1) Z.1 Z.2.1 md_Mod_leads_30 (by decide) ?_
  exact xw_iret Z hr hlk hw md_Mod_leads_31 rfl rfl
set_option maxHeartbeats 4000000 in
theorem r_phase (l : Launch) (D : va_G) (ad : Nat × Nat → Nat) (cI cZ : ClassId) {M : fr_M} {n q f : Nat} {S : pz_T} (hn : n ≤ 5) (hI : gm_I n q f S M) {s c : Nat} (hs : s < 3) (hc : c < 2) : gm_C l D ad cI cZ my_Mod_phase mb_Mod_phase 3 (some .int) 1 20 M [.ref (ad (0, 0)), .int (nI (8 + c)), .int (nI (s))] (some (.int (nI (S.2 s 9 c 0)))) (fun M' => M' = M) := by
  have h := hI.2
  have I := hI.1
  have hL := I.1
  refine xw_start [.ref (ad (0, 0)), .int (nI (8 + c)), .int (nI (s))] (by decide) (Nat.le_of_ble_eq_true rfl) ?_
  intro p e st m below meth cd0 ls Z hml hr hlk hN hl hw
  have hl : lv_has ls 3 [(0, .ref (ad (0, 0))), (1, .int (nI (8 + c))), (2, .int (nI (s)))] := hl
  refine lv_iload_n Z.1 Z.2.1 md_Mod_phase_0 rfl (lv_at hl 1 rfl) ?_
  refine xw_cS (n := 1) (rest := []) Z hml hl.1 hN hw (r_isCoordinator1 l D ad cI cZ (M := M) (show 8 + c = 8 ∨ 8 + c = 9 by omega)) tb_g mc_Mod_isCoordinator mk_Mod_180 mt_Mod_isCoordinator mz_Mod ⟨by decide, by decide, by decide +kernel⟩ ⟨Nat.le_of_ble_eq_true rfl, Nat.le_of_ble_eq_true rfl⟩ rfl rfl (Nat.le_of_ble_eq_true rfl) ⟨Nat.le_refl _, Nat.le_refl _⟩ md_Mod_phase_1 (fun M1 H1 locs1 e1 hw => ?_)
  have ey1 := e1.symm
  subst ey1
  refine W.eq (g2 := F0 m 4 ls [.int (nI (1))]) rfl ?_
  refine xi_if_eq (tgt := 30) Z md_Mod_phase_4 (by decide) (by omega) (fun h4 => by exfalso; omega) (fun h4 => ?_)
  refine lv_iload_n Z.1 Z.2.1 md_Mod_phase_7 rfl (lv_at hl 2 rfl) ?_
  refine xw_cS (n := 1) (rest := []) Z hml hl.1 hN hw (r_isSlot1 l D ad cI cZ (M := M) hs) tb_g mc_Mod_isSlot mk_Mod_101 mt_Mod_isSlot mz_Mod ⟨by decide, by decide, by decide +kernel⟩ ⟨Nat.le_of_ble_eq_true rfl, Nat.le_of_ble_eq_true rfl⟩ rfl rfl (Nat.le_of_ble_eq_true rfl) ⟨Nat.le_refl _, Nat.le_refl _⟩ md_Mod_phase_8 (fun M2 H2 locs2 e2 hw => ?_)
  have ey2 := e2.symm
  subst ey2
  refine W.eq (g2 := F0 m 11 ls [.int (nI (1))]) rfl ?_
  refine xi_if_eq (tgt := 30) Z md_Mod_phase_11 (by decide) (by omega) (fun h11 => by exfalso; omega) (fun h11 => ?_)
  refine lv_aload_n Z.1 Z.2.1 md_Mod_phase_14 rfl (lv_at hl 0 rfl) ?_
  refine xb_get (v := .ref (ad (22, 0))) Z hw (by decide) (gm_e0 ad cI cZ) rfl tb_iMod 22 (by decide) mk_Mod_62 rfl rfl md_Mod_phase_15 ?_
  refine lv_iconst (v := nI 3) Z.1 Z.2.1 md_Mod_phase_18 (by decide) ?_
  refine lv_iload_n Z.1 Z.2.1 md_Mod_phase_19 rfl (lv_at hl 1 rfl) ?_
  refine lv_bipush (v := nI 8) Z.1 Z.2.1 md_Mod_phase_20 (by decide) ?_
  refine xi_sub Z md_Mod_phase_22 (by omega) ?_
  refine xi_re (show _ = nI (c) from congrArg nI (by omega)) ?_
  refine xi_mul Z md_Mod_phase_23 ?_
  refine lv_iload_n Z.1 Z.2.1 md_Mod_phase_24 rfl (lv_at hl 2 rfl) ?_
  refine xi_add Z md_Mod_phase_25 ?_
  refine xw_iald Z hw (by decide) (gm_e22 ad cI cZ) 0 rfl (3 * c + s) rfl (by omega) (by omega) md_Mod_phase_26 ?_
  refine xi_re (show M (22, 0) (3 * c + s) = nI (S.2 s 9 c 0) from gm_g9 h hs hc) ?_
  refine lv_goto (tgt := 31) Z.1 Z.2.1 md_Mod_phase_27 (by decide) ?_
  exact xw_iret Z hr hlk hw md_Mod_phase_31 rfl rfl
set_option maxHeartbeats 4000000 in
theorem r_phase_b1 (l : Launch) (D : va_G) (ad : Nat × Nat → Nat) (cI cZ : ClassId) {M : fr_M} {n q f : Nat} {S : pz_T} (hn : n ≤ 5) (hI : gm_I n q f S M) {x y : Int32} (hx8 : ¬ x = nI 8) (hx9 : ¬ x = nI 9) : gm_C l D ad cI cZ my_Mod_phase mb_Mod_phase 3 (some .int) 1 20 M [.ref (ad (0, 0)), .int (x), .int (y)] (some (.int (-1))) (fun M' => M' = M) := by
  have h := hI.2
  have I := hI.1
  have hL := I.1
  refine xw_start [.ref (ad (0, 0)), .int (x), .int (y)] (by decide) (Nat.le_of_ble_eq_true rfl) ?_
  intro p e st m below meth cd0 ls Z hml hr hlk hN hl hw
  have hl : lv_has ls 3 [(0, .ref (ad (0, 0))), (1, .int (x)), (2, .int (y))] := hl
  refine lv_iload_n Z.1 Z.2.1 md_Mod_phase_0 rfl (lv_at hl 1 rfl) ?_
  refine xw_cS (n := 1) (rest := []) Z hml hl.1 hN hw (r_isCoordinator0 l D ad cI cZ (M := M) hx8 hx9) tb_g mc_Mod_isCoordinator mk_Mod_180 mt_Mod_isCoordinator mz_Mod ⟨by decide, by decide, by decide +kernel⟩ ⟨Nat.le_of_ble_eq_true rfl, Nat.le_of_ble_eq_true rfl⟩ rfl rfl (Nat.le_of_ble_eq_true rfl) ⟨Nat.le_refl _, Nat.le_refl _⟩ md_Mod_phase_1 (fun M1 H1 locs1 e1 hw => ?_)
  have ey1 := e1.symm
  subst ey1
  refine W.eq (g2 := F0 m 4 ls [.int (nI (0))]) rfl ?_
  refine xi_if_eq (tgt := 30) Z md_Mod_phase_4 (by decide) (by omega) (fun h4 => ?_) (fun h4 => by exfalso; omega)
  refine lv_iconst (v := -1) Z.1 Z.2.1 md_Mod_phase_30 (by decide) ?_
  exact xw_iret Z hr hlk hw md_Mod_phase_31 rfl rfl
set_option maxHeartbeats 4000000 in
theorem r_phase_b2 (l : Launch) (D : va_G) (ad : Nat × Nat → Nat) (cI cZ : ClassId) {M : fr_M} {n q f : Nat} {S : pz_T} (hn : n ≤ 5) (hI : gm_I n q f S M) {c : Nat} (hc : c < 2) {y : Int32} (hy : y < 0 ∨ nI 3 ≤ y) : gm_C l D ad cI cZ my_Mod_phase mb_Mod_phase 3 (some .int) 1 20 M [.ref (ad (0, 0)), .int (nI (8 + c)), .int (y)] (some (.int (-1))) (fun M' => M' = M) := by
  have h := hI.2
  have I := hI.1
  have hL := I.1
  refine xw_start [.ref (ad (0, 0)), .int (nI (8 + c)), .int (y)] (by decide) (Nat.le_of_ble_eq_true rfl) ?_
  intro p e st m below meth cd0 ls Z hml hr hlk hN hl hw
  have hl : lv_has ls 3 [(0, .ref (ad (0, 0))), (1, .int (nI (8 + c))), (2, .int (y))] := hl
  refine lv_iload_n Z.1 Z.2.1 md_Mod_phase_0 rfl (lv_at hl 1 rfl) ?_
  refine xw_cS (n := 1) (rest := []) Z hml hl.1 hN hw (r_isCoordinator1 l D ad cI cZ (M := M) (show 8 + c = 8 ∨ 8 + c = 9 by omega)) tb_g mc_Mod_isCoordinator mk_Mod_180 mt_Mod_isCoordinator mz_Mod ⟨by decide, by decide, by decide +kernel⟩ ⟨Nat.le_of_ble_eq_true rfl, Nat.le_of_ble_eq_true rfl⟩ rfl rfl (Nat.le_of_ble_eq_true rfl) ⟨Nat.le_refl _, Nat.le_refl _⟩ md_Mod_phase_1 (fun M1 H1 locs1 e1 hw => ?_)
  have ey1 := e1.symm
  subst ey1
  refine W.eq (g2 := F0 m 4 ls [.int (nI (1))]) rfl ?_
  refine xi_if_eq (tgt := 30) Z md_Mod_phase_4 (by decide) (by omega) (fun h4 => by exfalso; omega) (fun h4 => ?_)
  refine lv_iload_n Z.1 Z.2.1 md_Mod_phase_7 rfl (lv_at hl 2 rfl) ?_
  refine xw_cS (n := 1) (rest := []) Z hml hl.1 hN hw (r_isSlot0 l D ad cI cZ (M := M) hy) tb_g mc_Mod_isSlot mk_Mod_101 mt_Mod_isSlot mz_Mod ⟨by decide, by decide, by decide +kernel⟩ ⟨Nat.le_of_ble_eq_true rfl, Nat.le_of_ble_eq_true rfl⟩ rfl rfl (Nat.le_of_ble_eq_true rfl) ⟨Nat.le_refl _, Nat.le_refl _⟩ md_Mod_phase_8 (fun M2 H2 locs2 e2 hw => ?_)
  have ey2 := e2.symm
  subst ey2
  refine W.eq (g2 := F0 m 11 ls [.int (nI (0))]) rfl ?_
  refine xi_if_eq (tgt := 30) Z md_Mod_phase_11 (by decide) (by omega) (fun h11 => ?_) (fun h11 => by exfalso; omega)
  refine lv_iconst (v := -1) Z.1 Z.2.1 md_Mod_phase_30 (by decide) ?_
  exact xw_iret Z hr hlk hw md_Mod_phase_31 rfl rfl
set_option maxHeartbeats 4000000 in
theorem r_learned (l : Launch) (D : va_G) (ad : Nat × Nat → Nat) (cI cZ : ClassId) {M : fr_M} {n q f : Nat} {S : pz_T} (hn : n ≤ 5) (hI : gm_I n q f S M) {s : Nat} (hs : s < 3) : gm_C l D ad cI cZ my_Mod_learned mb_Mod_learned 2 (some .int) 1 20 M [.ref (ad (0, 0)), .int (nI (s))] (some (.int (nI (S.2 s 7 0 0)))) (fun M' => M' = M) := by
  have h := hI.2
  have I := hI.1
  have hL := I.1
  refine xw_start [.ref (ad (0, 0)), .int (nI (s))] (by decide) (Nat.le_of_ble_eq_true rfl) ?_
  intro p e st m below meth cd0 ls Z hml hr hlk hN hl hw
  have hl : lv_has ls 2 [(0, .ref (ad (0, 0))), (1, .int (nI (s)))] := hl
  refine lv_iload_n Z.1 Z.2.1 md_Mod_learned_0 rfl (lv_at hl 1 rfl) ?_
  refine xw_cS (n := 1) (rest := []) Z hml hl.1 hN hw (r_isSlot1 l D ad cI cZ (M := M) hs) tb_g mc_Mod_isSlot mk_Mod_101 mt_Mod_isSlot mz_Mod ⟨by decide, by decide, by decide +kernel⟩ ⟨Nat.le_of_ble_eq_true rfl, Nat.le_of_ble_eq_true rfl⟩ rfl rfl (Nat.le_of_ble_eq_true rfl) ⟨Nat.le_refl _, Nat.le_refl _⟩ md_Mod_learned_1 (fun M1 H1 locs1 e1 hw => ?_)
  have ey1 := e1.symm
  subst ey1
  refine W.eq (g2 := F0 m 4 ls [.int (nI (1))]) rfl ?_
  refine xi_if_eq (tgt := 16) Z md_Mod_learned_4 (by decide) (by omega) (fun h4 => by exfalso; omega) (fun h4 => ?_)
  refine lv_aload_n Z.1 Z.2.1 md_Mod_learned_7 rfl (lv_at hl 0 rfl) ?_
  refine xb_get (v := .ref (ad (20, 0))) Z hw (by decide) (gm_e0 ad cI cZ) rfl tb_iMod 20 (by decide) mk_Mod_56 rfl rfl md_Mod_learned_8 ?_
  refine lv_iload_n Z.1 Z.2.1 md_Mod_learned_11 rfl (lv_at hl 1 rfl) ?_
  refine xw_iald Z hw (by decide) (gm_e20 ad cI cZ) 0 rfl (s) rfl hs (by omega) md_Mod_learned_12 ?_
  refine xi_re (show M (20, 0) (s) = nI (S.2 s 7 0 0) from gm_g7 h hs) ?_
  refine lv_goto (tgt := 17) Z.1 Z.2.1 md_Mod_learned_13 (by decide) ?_
  exact xw_iret Z hr hlk hw md_Mod_learned_17 rfl rfl
set_option maxHeartbeats 4000000 in
theorem r_learned_b (l : Launch) (D : va_G) (ad : Nat × Nat → Nat) (cI cZ : ClassId) {M : fr_M} {n q f : Nat} {S : pz_T} (hn : n ≤ 5) (hI : gm_I n q f S M) {x : Int32} (hx : x < 0 ∨ nI 3 ≤ x) : gm_C l D ad cI cZ my_Mod_learned mb_Mod_learned 2 (some .int) 1 20 M [.ref (ad (0, 0)), .int (x)] (some (.int (-1))) (fun M' => M' = M) := by
  have h := hI.2
  have I := hI.1
  have hL := I.1
  refine xw_start [.ref (ad (0, 0)), .int (x)] (by decide) (Nat.le_of_ble_eq_true rfl) ?_
  intro p e st m below meth cd0 ls Z hml hr hlk hN hl hw
  have hl : lv_has ls 2 [(0, .ref (ad (0, 0))), (1, .int (x))] := hl
  refine lv_iload_n Z.1 Z.2.1 md_Mod_learned_0 rfl (lv_at hl 1 rfl) ?_
  refine xw_cS (n := 1) (rest := []) Z hml hl.1 hN hw (r_isSlot0 l D ad cI cZ (M := M) hx) tb_g mc_Mod_isSlot mk_Mod_101 mt_Mod_isSlot mz_Mod ⟨by decide, by decide, by decide +kernel⟩ ⟨Nat.le_of_ble_eq_true rfl, Nat.le_of_ble_eq_true rfl⟩ rfl rfl (Nat.le_of_ble_eq_true rfl) ⟨Nat.le_refl _, Nat.le_refl _⟩ md_Mod_learned_1 (fun M1 H1 locs1 e1 hw => ?_)
  have ey1 := e1.symm
  subst ey1
  refine W.eq (g2 := F0 m 4 ls [.int (nI (0))]) rfl ?_
  refine xi_if_eq (tgt := 16) Z md_Mod_learned_4 (by decide) (by omega) (fun h4 => ?_) (fun h4 => by exfalso; omega)
  refine lv_iconst (v := -1) Z.1 Z.2.1 md_Mod_learned_16 (by decide) ?_
  exact xw_iret Z hr hlk hw md_Mod_learned_17 rfl rfl
set_option maxHeartbeats 4000000 in
theorem r_votes (l : Launch) (D : va_G) (ad : Nat × Nat → Nat) (cI cZ : ClassId) {M : fr_M} {n q f : Nat} {S : pz_T} (hn : n ≤ 5) (hI : gm_I n q f S M) {s r v : Nat} (hs : s < 3) (hr1 : 1 ≤ r) (hr12 : r ≤ 12) (hv1 : 1 ≤ v) (hv2 : v ≤ 1000) : gm_C l D ad cI cZ my_Mod_votes mb_Mod_votes 4 (some .int) 1 25 M [.ref (ad (0, 0)), .int (nI (s)), .int (nI (r)), .int (nI (v))] (some (.int (nI (pz_cv (S.2 s) n r v)))) (fun M' => M' = M) := by
  have h := hI.2
  have I := hI.1
  have hL := I.1
  have IV := I.2.1 s hs
  have iZ := IV.2.2.2.2.2.2.1
  have iV : ∀ x b, S.2 s 5 x b < 2 ^ 31 := fun x b => by
    by_cases hb : b < n
    · by_cases z : S.2 s 5 x b = 0
      · omega
      · have := ((IV.1 b hb).2.2.1 x z).2.2
        omega
    · rw [(iZ.1 x b (by omega)).1]; decide
  have iN : ∀ x b, n ≤ b → S.2 s 5 x b = 0 := fun x b hb => (iZ.1 x b hb).1
  refine xw_start [.ref (ad (0, 0)), .int (nI (s)), .int (nI (r)), .int (nI (v))] (by decide) (Nat.le_of_ble_eq_true rfl) ?_
  intro p e st m below meth cd0 ls Z hml hr hlk hN hl hw
  have hl : lv_has ls 4 [(0, .ref (ad (0, 0))), (1, .int (nI (s))), (2, .int (nI (r))), (3, .int (nI (v)))] := hl
  refine lv_iload_n Z.1 Z.2.1 md_Mod_votes_0 rfl (lv_at hl 1 rfl) ?_
  refine xw_cS (n := 1) (rest := []) Z hml hl.1 hN hw (r_isSlot1 l D ad cI cZ (M := M) hs) tb_g mc_Mod_isSlot mk_Mod_101 mt_Mod_isSlot mz_Mod ⟨by decide, by decide, by decide +kernel⟩ ⟨Nat.le_of_ble_eq_true rfl, Nat.le_of_ble_eq_true rfl⟩ rfl rfl (Nat.le_of_ble_eq_true rfl) ⟨Nat.le_refl _, Nat.le_refl _⟩ md_Mod_votes_1 (fun M1 H1 locs1 e1 hw => ?_)
  have ey1 := e1.symm
  subst ey1
  refine W.eq (g2 := F0 m 4 ls [.int (nI (1))]) rfl ?_
  refine xi_if_eq (tgt := 34) Z md_Mod_votes_4 (by decide) (by omega) (fun h4 => by exfalso; omega) (fun h4 => ?_)
  refine lv_iload_n Z.1 Z.2.1 md_Mod_votes_7 rfl (lv_at hl 2 rfl) ?_
  refine xw_cS (n := 1) (rest := []) Z hml hl.1 hN hw (r_isRound1 l D ad cI cZ (M := M) hr1 hr12) tb_g mc_Mod_isRound mk_Mod_111 mt_Mod_isRound mz_Mod ⟨by decide, by decide, by decide +kernel⟩ ⟨Nat.le_of_ble_eq_true rfl, Nat.le_of_ble_eq_true rfl⟩ rfl rfl (Nat.le_of_ble_eq_true rfl) ⟨Nat.le_refl _, Nat.le_refl _⟩ md_Mod_votes_8 (fun M2 H2 locs2 e2 hw => ?_)
  have ey2 := e2.symm
  subst ey2
  refine W.eq (g2 := F0 m 11 ls [.int (nI (1))]) rfl ?_
  refine xi_if_eq (tgt := 34) Z md_Mod_votes_11 (by decide) (by omega) (fun h11 => by exfalso; omega) (fun h11 => ?_)
  refine lv_iload_n Z.1 Z.2.1 md_Mod_votes_14 rfl (lv_at hl 3 rfl) ?_
  refine xw_cS (n := 1) (rest := []) Z hml hl.1 hN hw (r_isValue1 l D ad cI cZ (M := M) hv1 hv2) tb_g mc_Mod_isValue mk_Mod_104 mt_Mod_isValue mz_Mod ⟨by decide, by decide, by decide +kernel⟩ ⟨Nat.le_of_ble_eq_true rfl, Nat.le_of_ble_eq_true rfl⟩ rfl rfl (Nat.le_of_ble_eq_true rfl) ⟨Nat.le_refl _, Nat.le_refl _⟩ md_Mod_votes_15 (fun M3 H3 locs3 e3 hw => ?_)
  have ey3 := e3.symm
  subst ey3
  refine W.eq (g2 := F0 m 18 ls [.int (nI (1))]) rfl ?_
  refine xi_if_eq (tgt := 34) Z md_Mod_votes_18 (by decide) (by omega) (fun h18 => by exfalso; omega) (fun h18 => ?_)
  refine lv_aload_n Z.1 Z.2.1 md_Mod_votes_21 rfl (lv_at hl 0 rfl) ?_
  refine xb_get (v := .ref (ad (18, 0))) Z hw (by decide) (gm_e0 ad cI cZ) rfl tb_iMod 18 (by decide) mk_Mod_50 rfl rfl md_Mod_votes_22 ?_
  refine lv_iload_n Z.1 Z.2.1 md_Mod_votes_25 rfl (lv_at hl 1 rfl) ?_
  refine lv_iload_n Z.1 Z.2.1 md_Mod_votes_26 rfl (lv_at hl 2 rfl) ?_
  refine lv_iload_n Z.1 Z.2.1 md_Mod_votes_27 rfl (lv_at hl 3 rfl) ?_
  refine xw_cS (n := 4) (rest := []) Z hml hl.1 hN hw (r_inRow5 l D ad cI cZ hn h hs hr12 (show v ≠ 0 by omega) (by omega) (iV r) (iN r)) tb_g mc_Mod_inRow mk_Mod_172 mt_Mod_inRow mz_Mod ⟨by decide, by decide, by decide +kernel⟩ ⟨Nat.le_of_ble_eq_true rfl, Nat.le_of_ble_eq_true rfl⟩ rfl rfl (Nat.le_of_ble_eq_true rfl) ⟨Nat.le_refl _, Nat.le_refl _⟩ md_Mod_votes_28 (fun M4 H4 locs4 e4 hw => ?_)
  have ey4 := e4.symm
  subst ey4
  refine W.eq (g2 := F0 m 31 ls [.int (nI (pz_cv (S.2 s) n r v))]) rfl ?_
  refine lv_goto (tgt := 35) Z.1 Z.2.1 md_Mod_votes_31 (by decide) ?_
  exact xw_iret Z hr hlk hw md_Mod_votes_35 rfl rfl
set_option maxHeartbeats 4000000 in
theorem r_votes_b1 (l : Launch) (D : va_G) (ad : Nat × Nat → Nat) (cI cZ : ClassId) {M : fr_M} {n q f : Nat} {S : pz_T} (hn : n ≤ 5) (hI : gm_I n q f S M) {x : Int32} (hx : x < 0 ∨ nI 3 ≤ x) {y z : Int32} : gm_C l D ad cI cZ my_Mod_votes mb_Mod_votes 4 (some .int) 1 20 M [.ref (ad (0, 0)), .int (x), .int (y), .int (z)] (some (.int (-1))) (fun M' => M' = M) := by
  have h := hI.2
  have I := hI.1
  have hL := I.1
  refine xw_start [.ref (ad (0, 0)), .int (x), .int (y), .int (z)] (by decide) (Nat.le_of_ble_eq_true rfl) ?_
  intro p e st m below meth cd0 ls Z hml hr hlk hN hl hw
  have hl : lv_has ls 4 [(0, .ref (ad (0, 0))), (1, .int (x)), (2, .int (y)), (3, .int (z))] := hl
  refine lv_iload_n Z.1 Z.2.1 md_Mod_votes_0 rfl (lv_at hl 1 rfl) ?_
  refine xw_cS (n := 1) (rest := []) Z hml hl.1 hN hw (r_isSlot0 l D ad cI cZ (M := M) hx) tb_g mc_Mod_isSlot mk_Mod_101 mt_Mod_isSlot mz_Mod ⟨by decide, by decide, by decide +kernel⟩ ⟨Nat.le_of_ble_eq_true rfl, Nat.le_of_ble_eq_true rfl⟩ rfl rfl (Nat.le_of_ble_eq_true rfl) ⟨Nat.le_refl _, Nat.le_refl _⟩ md_Mod_votes_1 (fun M1 H1 locs1 e1 hw => ?_)
  have ey1 := e1.symm
  subst ey1
  refine W.eq (g2 := F0 m 4 ls [.int (nI (0))]) rfl ?_
  refine xi_if_eq (tgt := 34) Z md_Mod_votes_4 (by decide) (by omega) (fun h4 => ?_) (fun h4 => by exfalso; omega)
  refine lv_iconst (v := -1) Z.1 Z.2.1 md_Mod_votes_34 (by decide) ?_
  exact xw_iret Z hr hlk hw md_Mod_votes_35 rfl rfl
set_option maxHeartbeats 4000000 in
theorem r_votes_b2 (l : Launch) (D : va_G) (ad : Nat × Nat → Nat) (cI cZ : ClassId) {M : fr_M} {n q f : Nat} {S : pz_T} (hn : n ≤ 5) (hI : gm_I n q f S M) {s : Nat} (hs : s < 3) {y z : Int32} (hy : y < nI 1 ∨ nI 12 < y) : gm_C l D ad cI cZ my_Mod_votes mb_Mod_votes 4 (some .int) 1 20 M [.ref (ad (0, 0)), .int (nI (s)), .int (y), .int (z)] (some (.int (-1))) (fun M' => M' = M) := by
  have h := hI.2
  have I := hI.1
  have hL := I.1
  refine xw_start [.ref (ad (0, 0)), .int (nI (s)), .int (y), .int (z)] (by decide) (Nat.le_of_ble_eq_true rfl) ?_
  intro p e st m below meth cd0 ls Z hml hr hlk hN hl hw
  have hl : lv_has ls 4 [(0, .ref (ad (0, 0))), (1, .int (nI (s))), (2, .int (y)), (3, .int (z))] := hl
  refine lv_iload_n Z.1 Z.2.1 md_Mod_votes_0 rfl (lv_at hl 1 rfl) ?_
  refine xw_cS (n := 1) (rest := []) Z hml hl.1 hN hw (r_isSlot1 l D ad cI cZ (M := M) hs) tb_g mc_Mod_isSlot mk_Mod_101 mt_Mod_isSlot mz_Mod ⟨by decide, by decide, by decide +kernel⟩ ⟨Nat.le_of_ble_eq_true rfl, Nat.le_of_ble_eq_true rfl⟩ rfl rfl (Nat.le_of_ble_eq_true rfl) ⟨Nat.le_refl _, Nat.le_refl _⟩ md_Mod_votes_1 (fun M1 H1 locs1 e1 hw => ?_)
  have ey1 := e1.symm
  subst ey1
  refine W.eq (g2 := F0 m 4 ls [.int (nI (1))]) rfl ?_
  refine xi_if_eq (tgt := 34) Z md_Mod_votes_4 (by decide) (by omega) (fun h4 => by exfalso; omega) (fun h4 => ?_)
  refine lv_iload_n Z.1 Z.2.1 md_Mod_votes_7 rfl (lv_at hl 2 rfl) ?_
  refine xw_cS (n := 1) (rest := []) Z hml hl.1 hN hw (r_isRound0 l D ad cI cZ (M := M) hy) tb_g mc_Mod_isRound mk_Mod_111 mt_Mod_isRound mz_Mod ⟨by decide, by decide, by decide +kernel⟩ ⟨Nat.le_of_ble_eq_true rfl, Nat.le_of_ble_eq_true rfl⟩ rfl rfl (Nat.le_of_ble_eq_true rfl) ⟨Nat.le_refl _, Nat.le_refl _⟩ md_Mod_votes_8 (fun M2 H2 locs2 e2 hw => ?_)
  have ey2 := e2.symm
  subst ey2
  refine W.eq (g2 := F0 m 11 ls [.int (nI (0))]) rfl ?_
  refine xi_if_eq (tgt := 34) Z md_Mod_votes_11 (by decide) (by omega) (fun h11 => ?_) (fun h11 => by exfalso; omega)
  refine lv_iconst (v := -1) Z.1 Z.2.1 md_Mod_votes_34 (by decide) ?_
  exact xw_iret Z hr hlk hw md_Mod_votes_35 rfl rfl
set_option maxHeartbeats 4000000 in
theorem r_votes_b3 (l : Launch) (D : va_G) (ad : Nat × Nat → Nat) (cI cZ : ClassId) {M : fr_M} {n q f : Nat} {S : pz_T} (hn : n ≤ 5) (hI : gm_I n q f S M) {s r : Nat} (hs : s < 3) (hr1 : 1 ≤ r) (hr12 : r ≤ 12) {z : Int32} (hz : z < nI 1 ∨ nI 1000 < z) : gm_C l D ad cI cZ my_Mod_votes mb_Mod_votes 4 (some .int) 1 20 M [.ref (ad (0, 0)), .int (nI (s)), .int (nI (r)), .int (z)] (some (.int (-1))) (fun M' => M' = M) := by
  have h := hI.2
  have I := hI.1
  have hL := I.1
  refine xw_start [.ref (ad (0, 0)), .int (nI (s)), .int (nI (r)), .int (z)] (by decide) (Nat.le_of_ble_eq_true rfl) ?_
  intro p e st m below meth cd0 ls Z hml hr hlk hN hl hw
  have hl : lv_has ls 4 [(0, .ref (ad (0, 0))), (1, .int (nI (s))), (2, .int (nI (r))), (3, .int (z))] := hl
  refine lv_iload_n Z.1 Z.2.1 md_Mod_votes_0 rfl (lv_at hl 1 rfl) ?_
  refine xw_cS (n := 1) (rest := []) Z hml hl.1 hN hw (r_isSlot1 l D ad cI cZ (M := M) hs) tb_g mc_Mod_isSlot mk_Mod_101 mt_Mod_isSlot mz_Mod ⟨by decide, by decide, by decide +kernel⟩ ⟨Nat.le_of_ble_eq_true rfl, Nat.le_of_ble_eq_true rfl⟩ rfl rfl (Nat.le_of_ble_eq_true rfl) ⟨Nat.le_refl _, Nat.le_refl _⟩ md_Mod_votes_1 (fun M1 H1 locs1 e1 hw => ?_)
  have ey1 := e1.symm
  subst ey1
  refine W.eq (g2 := F0 m 4 ls [.int (nI (1))]) rfl ?_
  refine xi_if_eq (tgt := 34) Z md_Mod_votes_4 (by decide) (by omega) (fun h4 => by exfalso; omega) (fun h4 => ?_)
  refine lv_iload_n Z.1 Z.2.1 md_Mod_votes_7 rfl (lv_at hl 2 rfl) ?_
  refine xw_cS (n := 1) (rest := []) Z hml hl.1 hN hw (r_isRound1 l D ad cI cZ (M := M) hr1 hr12) tb_g mc_Mod_isRound mk_Mod_111 mt_Mod_isRound mz_Mod ⟨by decide, by decide, by decide +kernel⟩ ⟨Nat.le_of_ble_eq_true rfl, Nat.le_of_ble_eq_true rfl⟩ rfl rfl (Nat.le_of_ble_eq_true rfl) ⟨Nat.le_refl _, Nat.le_refl _⟩ md_Mod_votes_8 (fun M2 H2 locs2 e2 hw => ?_)
  have ey2 := e2.symm
  subst ey2
  refine W.eq (g2 := F0 m 11 ls [.int (nI (1))]) rfl ?_
  refine xi_if_eq (tgt := 34) Z md_Mod_votes_11 (by decide) (by omega) (fun h11 => by exfalso; omega) (fun h11 => ?_)
  refine lv_iload_n Z.1 Z.2.1 md_Mod_votes_14 rfl (lv_at hl 3 rfl) ?_
  refine xw_cS (n := 1) (rest := []) Z hml hl.1 hN hw (r_isValue0 l D ad cI cZ (M := M) hz) tb_g mc_Mod_isValue mk_Mod_104 mt_Mod_isValue mz_Mod ⟨by decide, by decide, by decide +kernel⟩ ⟨Nat.le_of_ble_eq_true rfl, Nat.le_of_ble_eq_true rfl⟩ rfl rfl (Nat.le_of_ble_eq_true rfl) ⟨Nat.le_refl _, Nat.le_refl _⟩ md_Mod_votes_15 (fun M3 H3 locs3 e3 hw => ?_)
  have ey3 := e3.symm
  subst ey3
  refine W.eq (g2 := F0 m 18 ls [.int (nI (0))]) rfl ?_
  refine xi_if_eq (tgt := 34) Z md_Mod_votes_18 (by decide) (by omega) (fun h18 => ?_) (fun h18 => by exfalso; omega)
  refine lv_iconst (v := -1) Z.1 Z.2.1 md_Mod_votes_34 (by decide) ?_
  exact xw_iret Z hr hlk hw md_Mod_votes_35 rfl rfl
set_option maxHeartbeats 4000000 in
theorem r_size0 (l : Launch) (D : va_G) (ad : Nat × Nat → Nat) (cI cZ : ClassId) {M : fr_M} {n q f : Nat} {S : pz_T} (hn : n ≤ 5) (hI : gm_I n q f S M) : gm_C l D ad cI cZ my_Mod_size mb_Mod_size 2 (some .int) 0 0 M [.ref (ad (0, 0)), .int (nI (0))] (some (.int (nI n))) (fun M' => M' = M) := by
  have h := hI.2
  have I := hI.1
  have hL := I.1
  refine xw_start [.ref (ad (0, 0)), .int (nI (0))] (by decide) (Nat.le_of_ble_eq_true rfl) ?_
  intro p e st m below meth cd0 ls Z hml hr hlk hN hl hw
  have hl : lv_has ls 2 [(0, .ref (ad (0, 0))), (1, .int (nI (0)))] := hl
  refine lv_iload_n Z.1 Z.2.1 md_Mod_size_0 rfl (lv_at hl 1 rfl) ?_
  refine xi_if_ne (tgt := 11) Z md_Mod_size_1 (by decide) (by omega) (fun h1 => by exfalso; omega) (fun h1 => ?_)
  refine lv_aload_n Z.1 Z.2.1 md_Mod_size_4 rfl (lv_at hl 0 rfl) ?_
  refine xb_get (v := .int (M (0, 0) 0)) Z hw (by decide) (gm_e0 ad cI cZ) rfl tb_iMod 0 (by decide) mk_Mod_77 rfl rfl md_Mod_size_5 ?_
  refine xi_re (show M (0, 0) 0 = nI (n) from h.1.1) ?_
  refine lv_goto (tgt := 36) Z.1 Z.2.1 md_Mod_size_8 (by decide) ?_
  exact xw_iret Z hr hlk hw md_Mod_size_36 rfl rfl
set_option maxHeartbeats 4000000 in
theorem r_size1 (l : Launch) (D : va_G) (ad : Nat × Nat → Nat) (cI cZ : ClassId) {M : fr_M} {n q f : Nat} {S : pz_T} (hn : n ≤ 5) (hI : gm_I n q f S M) : gm_C l D ad cI cZ my_Mod_size mb_Mod_size 2 (some .int) 0 0 M [.ref (ad (0, 0)), .int (nI (1))] (some (.int (nI q))) (fun M' => M' = M) := by
  have h := hI.2
  have I := hI.1
  have hL := I.1
  refine xw_start [.ref (ad (0, 0)), .int (nI (1))] (by decide) (Nat.le_of_ble_eq_true rfl) ?_
  intro p e st m below meth cd0 ls Z hml hr hlk hN hl hw
  have hl : lv_has ls 2 [(0, .ref (ad (0, 0))), (1, .int (nI (1)))] := hl
  refine lv_iload_n Z.1 Z.2.1 md_Mod_size_0 rfl (lv_at hl 1 rfl) ?_
  refine xi_if_ne (tgt := 11) Z md_Mod_size_1 (by decide) (by omega) (fun h1 => ?_) (fun h1 => by exfalso; omega)
  refine lv_iload_n Z.1 Z.2.1 md_Mod_size_11 rfl (lv_at hl 1 rfl) ?_
  refine lv_iconst (v := nI 1) Z.1 Z.2.1 md_Mod_size_12 (by decide) ?_
  refine xi_icmp_ne (tgt := 23) Z md_Mod_size_13 (by decide) (by omega) (by omega) (fun h13 => by exfalso; omega) (fun h13 => ?_)
  refine lv_aload_n Z.1 Z.2.1 md_Mod_size_16 rfl (lv_at hl 0 rfl) ?_
  refine xb_get (v := .int (M (0, 0) 1)) Z hw (by decide) (gm_e0 ad cI cZ) rfl tb_iMod 1 (by decide) mk_Mod_81 rfl rfl md_Mod_size_17 ?_
  refine xi_re (show M (0, 0) 1 = nI (q) from h.1.2.1) ?_
  refine lv_goto (tgt := 36) Z.1 Z.2.1 md_Mod_size_20 (by decide) ?_
  exact xw_iret Z hr hlk hw md_Mod_size_36 rfl rfl
set_option maxHeartbeats 4000000 in
theorem r_size2 (l : Launch) (D : va_G) (ad : Nat × Nat → Nat) (cI cZ : ClassId) {M : fr_M} {n q f : Nat} {S : pz_T} (hn : n ≤ 5) (hI : gm_I n q f S M) : gm_C l D ad cI cZ my_Mod_size mb_Mod_size 2 (some .int) 0 0 M [.ref (ad (0, 0)), .int (nI (2))] (some (.int (nI f))) (fun M' => M' = M) := by
  have h := hI.2
  have I := hI.1
  have hL := I.1
  refine xw_start [.ref (ad (0, 0)), .int (nI (2))] (by decide) (Nat.le_of_ble_eq_true rfl) ?_
  intro p e st m below meth cd0 ls Z hml hr hlk hN hl hw
  have hl : lv_has ls 2 [(0, .ref (ad (0, 0))), (1, .int (nI (2)))] := hl
  refine lv_iload_n Z.1 Z.2.1 md_Mod_size_0 rfl (lv_at hl 1 rfl) ?_
  refine xi_if_ne (tgt := 11) Z md_Mod_size_1 (by decide) (by omega) (fun h1 => ?_) (fun h1 => by exfalso; omega)
  refine lv_iload_n Z.1 Z.2.1 md_Mod_size_11 rfl (lv_at hl 1 rfl) ?_
  refine lv_iconst (v := nI 1) Z.1 Z.2.1 md_Mod_size_12 (by decide) ?_
  refine xi_icmp_ne (tgt := 23) Z md_Mod_size_13 (by decide) (by omega) (by omega) (fun h13 => ?_) (fun h13 => by exfalso; omega)
  refine lv_iload_n Z.1 Z.2.1 md_Mod_size_23 rfl (lv_at hl 1 rfl) ?_
  refine lv_iconst (v := nI 2) Z.1 Z.2.1 md_Mod_size_24 (by decide) ?_
  refine xi_icmp_ne (tgt := 35) Z md_Mod_size_25 (by decide) (by omega) (by omega) (fun h25 => by exfalso; omega) (fun h25 => ?_)
  refine lv_aload_n Z.1 Z.2.1 md_Mod_size_28 rfl (lv_at hl 0 rfl) ?_
  refine xb_get (v := .int (M (0, 0) 2)) Z hw (by decide) (gm_e0 ad cI cZ) rfl tb_iMod 2 (by decide) mk_Mod_84 rfl rfl md_Mod_size_29 ?_
  refine xi_re (show M (0, 0) 2 = nI (f) from h.1.2.2) ?_
  refine lv_goto (tgt := 36) Z.1 Z.2.1 md_Mod_size_32 (by decide) ?_
  exact xw_iret Z hr hlk hw md_Mod_size_36 rfl rfl
set_option maxHeartbeats 4000000 in
theorem r_size_b (l : Launch) (D : va_G) (ad : Nat × Nat → Nat) (cI cZ : ClassId) {M : fr_M} {n q f : Nat} {S : pz_T} (hn : n ≤ 5) (hI : gm_I n q f S M) {x : Int32} (hx0 : ¬ x = 0) (hx1 : ¬ x = nI 1) (hx2 : ¬ x = nI 2) : gm_C l D ad cI cZ my_Mod_size mb_Mod_size 2 (some .int) 0 0 M [.ref (ad (0, 0)), .int (x)] (some (.int (-1))) (fun M' => M' = M) := by
  have h := hI.2
  have I := hI.1
  have hL := I.1
  refine xw_start [.ref (ad (0, 0)), .int (x)] (by decide) (Nat.le_of_ble_eq_true rfl) ?_
  intro p e st m below meth cd0 ls Z hml hr hlk hN hl hw
  have hl : lv_has ls 2 [(0, .ref (ad (0, 0))), (1, .int (x))] := hl
  refine lv_iload_n Z.1 Z.2.1 md_Mod_size_0 rfl (lv_at hl 1 rfl) ?_
  refine lv_if_ne (tgt := 11) Z.1 Z.2.1 md_Mod_size_1 (by decide) (fun h1 => ?_) (fun h1 => by exfalso; exact hx0 h1)
  refine lv_iload_n Z.1 Z.2.1 md_Mod_size_11 rfl (lv_at hl 1 rfl) ?_
  refine lv_iconst (v := nI 1) Z.1 Z.2.1 md_Mod_size_12 (by decide) ?_
  refine lv_icmp_ne (tgt := 23) Z.1 Z.2.1 md_Mod_size_13 (by decide) (fun h13 => ?_) (fun h13 => by exfalso; exact hx1 h13)
  refine lv_iload_n Z.1 Z.2.1 md_Mod_size_23 rfl (lv_at hl 1 rfl) ?_
  refine lv_iconst (v := nI 2) Z.1 Z.2.1 md_Mod_size_24 (by decide) ?_
  refine lv_icmp_ne (tgt := 35) Z.1 Z.2.1 md_Mod_size_25 (by decide) (fun h25 => ?_) (fun h25 => by exfalso; exact hx2 h25)
  refine lv_iconst (v := -1) Z.1 Z.2.1 md_Mod_size_35 (by decide) ?_
  exact xw_iret Z hr hlk hw md_Mod_size_36 rfl rfl
set_option maxHeartbeats 4000000 in
theorem r_chosen (l : Launch) (D : va_G) (ad : Nat × Nat → Nat) (cI cZ : ClassId) {M : fr_M} {n q f : Nat} {S : pz_T} (hn : n ≤ 5) (hq5 : q ≤ 5) (hf5 : f ≤ 5) (Q : pz_Q n q f) (hI : gm_I n q f S M) {s : Nat} (hs : s < 3) : gm_C l D ad cI cZ my_Mod_chosen mb_Mod_chosen 5 (some .int) 2 41 M [.ref (ad (0, 0)), .int (nI (s))] (some (.int (nI (S.2 s 16 0 0)))) (fun M' => M' = M) := by
  have h := hI.2
  have I := hI.1
  have hL := I.1
  have IV := I.2.1 s hs
  have iZ := IV.2.2.2.2.2.2.1
  have iV : ∀ x b, S.2 s 5 x b < 2 ^ 31 := fun x b => by
    by_cases hb : b < n
    · by_cases z : S.2 s 5 x b = 0
      · omega
      · have := ((IV.1 b hb).2.2.1 x z).2.2
        omega
    · rw [(iZ.1 x b (by omega)).1]; decide
  have iN : ∀ x b, n ≤ b → S.2 s 5 x b = 0 := fun x b hb => (iZ.1 x b hb).1
  refine xw_start [.ref (ad (0, 0)), .int (nI (s))] (by decide) (Nat.le_of_ble_eq_true rfl) ?_
  intro p e st m below meth cd0 ls Z hml hr hlk hN hl hw
  have hl : lv_has ls 5 [(0, .ref (ad (0, 0))), (1, .int (nI (s)))] := hl
  refine lv_iload_n Z.1 Z.2.1 md_Mod_chosen_0 rfl (lv_at hl 1 rfl) ?_
  refine xw_cS (n := 1) (rest := []) Z hml hl.1 hN hw (r_isSlot1 l D ad cI cZ (M := M) hs) tb_g mc_Mod_isSlot mk_Mod_101 mt_Mod_isSlot mz_Mod ⟨by decide, by decide, by decide +kernel⟩ ⟨Nat.le_of_ble_eq_true rfl, Nat.le_of_ble_eq_true rfl⟩ rfl rfl (Nat.le_of_ble_eq_true rfl) ⟨Nat.le_refl _, Nat.le_refl _⟩ md_Mod_chosen_1 (fun M1 H1 locs1 e1 hw => ?_)
  have ey1 := e1.symm
  subst ey1
  refine W.eq (g2 := F0 m 4 ls [.int (nI (1))]) rfl ?_
  refine xi_if_ne (tgt := 9) Z md_Mod_chosen_4 (by decide) (by omega) (fun h4 => ?_) (fun h4 => by exfalso; omega)
  refine lv_iconst (v := nI 1) Z.1 Z.2.1 md_Mod_chosen_9 (by decide) ?_
  refine lv_istore_n Z.1 Z.2.1 md_Mod_chosen_10 rfl hl (by decide) rfl (fun ls hl => ?_)
  have hl : lv_has ls 5 [(2, .int (nI (1))), (0, .ref (ad (0, 0))), (1, .int (nI (s)))] := hl
  have loop11 : ∀ (d i : Nat) (Hi : Heap) (Li : List Loc) (ls : Array Slot), i + d = 13 → (∀ x, 1 ≤ x → x < i → ∀ b, b < n → S.2 s 5 x b ≠ 0 → pz_cv (S.2 s) n x (S.2 s 5 x b) < pz_en q f x) → xw_H D tb_cl (xw_A gm_ids ad) st.heap gm_ids ad (xw_M (gm_k ad cI cZ) M) Hi Li → lv_has ls 5 [(2, .int (nI (i))), (0, .ref (ad (0, 0))), (1, .int (nI (s)))] → W p l e { frames := 2, cells := 0, slots := 0, locals := 41 } st m [.ref (ad (0, 0)), .int (nI (s))].toArray below meth cd0 Hi Li 0 0 (MQ below (xw_Qc D tb_cl gm_ids ad (gm_k ad cI cZ) (some (.int (nI (S.2 s 16 0 0)))) (fun M' => M' = M)) [.ref (ad (0, 0)), .int (nI (s))].toArray st 0 0 (xw_A gm_ids ad)) (F0 m 11 ls []) := by
    intro d
    induction d with
    | zero =>
      intro i Hi Li ls hi hinv hw hl
      have hi1 : 1 ≤ i ∨ i = 0 := by omega
      refine lv_iload_n Z.1 Z.2.1 md_Mod_chosen_11 rfl (lv_at hl 0 rfl) ?_
      refine lv_bipush (v := nI 12) Z.1 Z.2.1 md_Mod_chosen_12 (by decide) ?_
      refine xi_icmp_gt (tgt := 83) Z md_Mod_chosen_14 (by decide) (by omega) (by omega) (fun h14 => ?_) (fun h14 => by exfalso; omega)
      refine lv_iconst (v := nI 0) Z.1 Z.2.1 md_Mod_chosen_83 (by decide) ?_
      exact xw_iret Z hr hlk hw md_Mod_chosen_84 (by rw [pz_scan0 Q IV (fun x h1 h2 => hinv x h1 (by omega))]) rfl
    | succ d ih =>
      intro i Hi Li ls hi hinv hw hl
      have hi1 : 1 ≤ i ∨ i = 0 := by omega
      refine lv_iload_n Z.1 Z.2.1 md_Mod_chosen_11 rfl (lv_at hl 0 rfl) ?_
      refine lv_bipush (v := nI 12) Z.1 Z.2.1 md_Mod_chosen_12 (by decide) ?_
      refine xi_icmp_gt (tgt := 83) Z md_Mod_chosen_14 (by decide) (by omega) (by omega) (fun h14 => by exfalso; omega) (fun h14 => ?_)
      refine lv_iconst (v := nI 0) Z.1 Z.2.1 md_Mod_chosen_17 (by decide) ?_
      refine lv_istore_n Z.1 Z.2.1 md_Mod_chosen_18 rfl hl (by decide) rfl (fun ls hl => ?_)
      have hl : lv_has ls 5 [(3, .int (nI (0))), (2, .int (nI (i))), (0, .ref (ad (0, 0))), (1, .int (nI (s)))] := hl
      have loop19 : ∀ (db ib : Nat) (Hi : Heap) (Li : List Loc) (ls : Array Slot), ib + db = n → (∀ b, b < ib → S.2 s 5 i b ≠ 0 → pz_cv (S.2 s) n i (S.2 s 5 i b) < pz_en q f i) → xw_H D tb_cl (xw_A gm_ids ad) st.heap gm_ids ad (xw_M (gm_k ad cI cZ) M) Hi Li → lv_has ls 5 [(3, .int (nI (ib))), (2, .int (nI (i))), (0, .ref (ad (0, 0))), (1, .int (nI (s)))] → W p l e { frames := 2, cells := 0, slots := 0, locals := 41 } st m [.ref (ad (0, 0)), .int (nI (s))].toArray below meth cd0 Hi Li 0 0 (MQ below (xw_Qc D tb_cl gm_ids ad (gm_k ad cI cZ) (some (.int (nI (S.2 s 16 0 0)))) (fun M' => M' = M)) [.ref (ad (0, 0)), .int (nI (s))].toArray st 0 0 (xw_A gm_ids ad)) (F0 m 19 ls []) := by
        intro db
        induction db with
        | zero =>
          intro ib Hi Li ls hib hinvb hw hl
          refine lv_iload_n Z.1 Z.2.1 md_Mod_chosen_19 rfl (lv_at hl 0 rfl) ?_
          refine lv_aload_n Z.1 Z.2.1 md_Mod_chosen_20 rfl (lv_at hl 2 rfl) ?_
          refine xb_get (v := .int (M (0, 0) 0)) Z hw (by decide) (gm_e0 ad cI cZ) rfl tb_iMod 0 (by decide) mk_Mod_77 rfl rfl md_Mod_chosen_21 ?_
          refine xi_re (show M (0, 0) 0 = nI (n) from h.1.1) ?_
          refine xi_icmp_ge (tgt := 77) Z md_Mod_chosen_24 (by decide) (by omega) (by omega) (fun h24 => ?_) (fun h24 => by exfalso; omega)
          refine lv_iinc Z.1 Z.2.1 md_Mod_chosen_77 hl (k := 1) rfl (xi_inc1 (i)) (by decide) rfl (fun ls hl => ?_)
          have hl : lv_has ls 5 [(2, .int (nI (i + 1))), (3, .int (nI (ib))), (0, .ref (ad (0, 0))), (1, .int (nI (s)))] := hl
          refine lv_goto (tgt := 11) Z.1 Z.2.1 md_Mod_chosen_80 (by decide) ?_
          refine ih (i + 1) _ _ ls (by omega) (fun x h1 h2 b hb z => by by_cases e : x = i; (subst e; exact hinvb b (by omega) z); (exact hinv x h1 (by omega) b hb z)) hw ?_
          exact lv_sub hl [0, 2, 3] rfl
        | succ db ihb =>
          intro ib Hi Li ls hib hinvb hw hl
          refine lv_iload_n Z.1 Z.2.1 md_Mod_chosen_19 rfl (lv_at hl 0 rfl) ?_
          refine lv_aload_n Z.1 Z.2.1 md_Mod_chosen_20 rfl (lv_at hl 2 rfl) ?_
          refine xb_get (v := .int (M (0, 0) 0)) Z hw (by decide) (gm_e0 ad cI cZ) rfl tb_iMod 0 (by decide) mk_Mod_77 rfl rfl md_Mod_chosen_21 ?_
          refine xi_re (show M (0, 0) 0 = nI (n) from h.1.1) ?_
          refine xi_icmp_ge (tgt := 77) Z md_Mod_chosen_24 (by decide) (by omega) (by omega) (fun h24 => by exfalso; omega) (fun h24 => ?_)
          refine lv_aload_n Z.1 Z.2.1 md_Mod_chosen_27 rfl (lv_at hl 2 rfl) ?_
          refine xb_get (v := .ref (ad (18, 0))) Z hw (by decide) (gm_e0 ad cI cZ) rfl tb_iMod 18 (by decide) mk_Mod_50 rfl rfl md_Mod_chosen_28 ?_
          refine lv_bipush (v := nI 65) Z.1 Z.2.1 md_Mod_chosen_31 (by decide) ?_
          refine lv_iload_n Z.1 Z.2.1 md_Mod_chosen_33 rfl (lv_at hl 3 rfl) ?_
          refine xi_mul Z md_Mod_chosen_34 ?_
          refine lv_iconst (v := nI 5) Z.1 Z.2.1 md_Mod_chosen_35 (by decide) ?_
          refine lv_iload_n Z.1 Z.2.1 md_Mod_chosen_36 rfl (lv_at hl 1 rfl) ?_
          refine xi_mul Z md_Mod_chosen_37 ?_
          refine xi_add Z md_Mod_chosen_38 ?_
          refine lv_iload_n Z.1 Z.2.1 md_Mod_chosen_39 rfl (lv_at hl 0 rfl) ?_
          refine xi_add Z md_Mod_chosen_40 ?_
          refine xw_iald Z hw (by decide) (gm_e18 ad cI cZ) 0 rfl (65 * s + 5 * i + ib) rfl (by omega) (by omega) md_Mod_chosen_41 ?_
          refine xi_re (show M (18, 0) (65 * s + 5 * i + ib) = nI (S.2 s 5 i ib) from gm_g5 h hs (by omega) (by omega)) ?_
          refine lv_istore Z.1 Z.2.1 md_Mod_chosen_42 hl (by decide) rfl (fun ls hl => ?_)
          have hl : lv_has ls 5 [(4, .int (nI (S.2 s 5 i ib))), (3, .int (nI (ib))), (2, .int (nI (i))), (0, .ref (ad (0, 0))), (1, .int (nI (s)))] := hl
          refine lv_iload Z.1 Z.2.1 md_Mod_chosen_44 (lv_at hl 0 rfl) ?_
          have lv := iV i ib
          refine xi_if_le (tgt := 71) Z md_Mod_chosen_46 (by decide) (by omega) (fun h46 => ?_) (fun h46 => ?_)
          · refine lv_iinc Z.1 Z.2.1 md_Mod_chosen_71 hl (k := 1) rfl (xi_inc1 (ib)) (by decide) rfl (fun ls hl => ?_)
            have hl : lv_has ls 5 [(3, .int (nI (ib + 1))), (4, .int (nI (S.2 s 5 i ib))), (2, .int (nI (i))), (0, .ref (ad (0, 0))), (1, .int (nI (s)))] := hl
            refine lv_goto (tgt := 19) Z.1 Z.2.1 md_Mod_chosen_74 (by decide) ?_
            refine ihb (ib + 1) _ _ ls (by omega) (fun b h1 z => by by_cases e : b = ib; (subst e; first | omega | exact absurd h46 z); (exact hinvb b (by omega) z)) hw ?_
            exact lv_sub hl [0, 2, 3, 4] rfl
          · refine lv_aload_n Z.1 Z.2.1 md_Mod_chosen_49 rfl (lv_at hl 3 rfl) ?_
            refine xb_get (v := .ref (ad (18, 0))) Z hw (by decide) (gm_e0 ad cI cZ) rfl tb_iMod 18 (by decide) mk_Mod_50 rfl rfl md_Mod_chosen_50 ?_
            refine lv_iload_n Z.1 Z.2.1 md_Mod_chosen_53 rfl (lv_at hl 4 rfl) ?_
            refine lv_iload_n Z.1 Z.2.1 md_Mod_chosen_54 rfl (lv_at hl 2 rfl) ?_
            refine lv_iload Z.1 Z.2.1 md_Mod_chosen_55 (lv_at hl 0 rfl) ?_
            refine xw_cS (n := 4) (rest := []) Z hml hl.1 hN hw (r_inRow5 (v := S.2 s 5 i ib) l D ad cI cZ hn h hs (show i ≤ 12 by omega) h46 lv (iV i) (iN i)) tb_g mc_Mod_inRow mk_Mod_172 mt_Mod_inRow mz_Mod ⟨by decide, by decide, by decide +kernel⟩ ⟨Nat.le_of_ble_eq_true rfl, Nat.le_of_ble_eq_true rfl⟩ rfl rfl (Nat.le_of_ble_eq_true rfl) ⟨Nat.le_refl _, Nat.le_refl _⟩ md_Mod_chosen_57 (fun M2 H2 locs2 e2 hw => ?_)
            have ey2 := e2.symm
            subst ey2
            refine W.eq (g2 := F0 m 60 ls [.int (nI (pz_cv (S.2 s) n i (S.2 s 5 i ib)))]) rfl ?_
            refine lv_aload_n Z.1 Z.2.1 md_Mod_chosen_60 rfl (lv_at hl 3 rfl) ?_
            refine lv_iload_n Z.1 Z.2.1 md_Mod_chosen_61 rfl (lv_at hl 2 rfl) ?_
            refine xw_cV (n := 1) (rest := [.int (nI (pz_cv (S.2 s) n i (S.2 s 5 i ib)))]) Z hml hl.1 hN hw (r_enough l D ad cI cZ h.1 (show i < 2 ^ 31 by omega)) tb_g mc_Mod_enough mk_Mod_176 mi_Mod_enough ms_Mod_enough mz_Mod ⟨by decide, by decide, by decide +kernel⟩ ⟨Nat.le_of_ble_eq_true rfl, Nat.le_of_ble_eq_true rfl⟩ (by decide) (gm_e0 ad cI cZ _) rfl rfl rfl rfl (Nat.le_of_ble_eq_true rfl) ⟨Nat.le_refl _, Nat.le_refl _⟩ md_Mod_chosen_62 (fun M3 H3 locs3 e3 hw => ?_)
            have ey3 := e3.symm
            subst ey3
            refine W.eq (g2 := F0 m 65 ls [.int (nI (pz_en q f i)), .int (nI (pz_cv (S.2 s) n i (S.2 s 5 i ib)))]) rfl ?_
            have l1 : pz_en q f i < 2 ^ 31 := by unfold pz_en; split <;> omega
            have l2 : pz_cv (S.2 s) n i (S.2 s 5 i ib) ≤ n := Nat.le_trans (pz_sm_le n (h := fun _ => 1) (fun b _ => by split <;> omega)) (by rw [pz_sm_const]; omega)
            refine xi_icmp_lt (tgt := 71) Z md_Mod_chosen_65 (by decide) (by omega) (by omega) (fun h65 => ?_) (fun h65 => ?_)
            · refine lv_iinc Z.1 Z.2.1 md_Mod_chosen_71 hl (k := 1) rfl (xi_inc1 (ib)) (by decide) rfl (fun ls hl => ?_)
              have hl : lv_has ls 5 [(3, .int (nI (ib + 1))), (4, .int (nI (S.2 s 5 i ib))), (2, .int (nI (i))), (0, .ref (ad (0, 0))), (1, .int (nI (s)))] := hl
              refine lv_goto (tgt := 19) Z.1 Z.2.1 md_Mod_chosen_74 (by decide) ?_
              refine ihb (ib + 1) _ _ ls (by omega) (fun b h1 z => by by_cases e : b = ib; (subst e; first | omega | exact absurd h46 z); (exact hinvb b (by omega) z)) hw ?_
              exact lv_sub hl [0, 2, 3, 4] rfl
            · refine lv_iload Z.1 Z.2.1 md_Mod_chosen_68 (lv_at hl 0 rfl) ?_
              exact xw_iret Z hr hlk hw md_Mod_chosen_70 (congrArg nI (pz_scan Q IV h46 h65)) rfl
      exact loop19 n (0) _ _ ls (by omega) (fun b h1 => absurd h1 (Nat.not_lt_zero b)) hw (lv_sub hl [0, 1, 2, 3] rfl)
  exact loop11 12 (1) _ _ ls (by omega) (fun x h1 h2 => absurd h2 (by omega)) hw (lv_sub hl [0, 1, 2] rfl)
set_option maxHeartbeats 4000000 in
theorem r_chosen_b (l : Launch) (D : va_G) (ad : Nat × Nat → Nat) (cI cZ : ClassId) {M : fr_M} {x : Int32} (hx : x < 0 ∨ nI 3 ≤ x) : gm_C l D ad cI cZ my_Mod_chosen mb_Mod_chosen 5 (some .int) 1 20 M [.ref (ad (0, 0)), .int (x)] (some (.int (-1))) (fun M' => M' = M) := by
  refine xw_start [.ref (ad (0, 0)), .int (x)] (by decide) (Nat.le_of_ble_eq_true rfl) ?_
  intro p e st m below meth cd0 ls Z hml hr hlk hN hl hw
  have hl : lv_has ls 5 [(0, .ref (ad (0, 0))), (1, .int (x))] := hl
  refine lv_iload_n Z.1 Z.2.1 md_Mod_chosen_0 rfl (lv_at hl 1 rfl) ?_
  refine xw_cS (n := 1) (rest := []) Z hml hl.1 hN hw (r_isSlot0 l D ad cI cZ (M := M) hx) tb_g mc_Mod_isSlot mk_Mod_101 mt_Mod_isSlot mz_Mod ⟨by decide, by decide, by decide +kernel⟩ ⟨Nat.le_of_ble_eq_true rfl, Nat.le_of_ble_eq_true rfl⟩ rfl rfl (Nat.le_of_ble_eq_true rfl) ⟨Nat.le_refl _, Nat.le_refl _⟩ md_Mod_chosen_1 (fun M1 H1 locs1 e1 hw => ?_)
  have ey1 := e1.symm
  subst ey1
  refine W.eq (g2 := F0 m 4 ls [.int (nI (0))]) rfl ?_
  refine xi_if_ne (tgt := 9) Z md_Mod_chosen_4 (by decide) (by omega) (fun h4 => by exfalso; omega) (fun h4 => ?_)
  refine lv_iconst (v := -1) Z.1 Z.2.1 md_Mod_chosen_7 (by decide) ?_
  exact xw_iret Z hr hlk hw md_Mod_chosen_8 rfl rfl
set_option maxHeartbeats 4000000 in
theorem r_drop (l : Launch) (D : va_G) (ad : Nat × Nat → Nat) (cI cZ : ClassId) {M : fr_M} {n q f : Nat} {S : pz_T} (hn : n ≤ 5) (hI : gm_I n q f S M) {j : Nat} (hj : j < S.1.length) : gm_C l D ad cI cZ my_Mod_drop mb_Mod_drop 2 (some .boolean) 1 22 M [.ref (ad (0, 0)), .int (nI (j))] (some (.int (nI 1))) (gm_I n q f (pz_rm S j)) := by
  have h := hI.2
  have I := hI.1
  have hL := I.1
  refine xw_start [.ref (ad (0, 0)), .int (nI (j))] (by decide) (Nat.le_of_ble_eq_true rfl) ?_
  intro p e st m below meth cd0 ls Z hml hr hlk hN hl hw
  have hl : lv_has ls 2 [(0, .ref (ad (0, 0))), (1, .int (nI (j)))] := hl
  refine lv_aload_n Z.1 Z.2.1 md_Mod_drop_0 rfl (lv_at hl 0 rfl) ?_
  refine lv_iload_n Z.1 Z.2.1 md_Mod_drop_1 rfl (lv_at hl 1 rfl) ?_
  refine xw_cV (n := 1) (rest := []) Z hml hl.1 hN hw (r_isMessage1 l D ad cI cZ (n := n) (q := q) (f := f) (M := M) hL h.2.1 hj) tb_g mc_Mod_isMessage mk_Mod_122 mi_Mod_isMessage ms_Mod_isMessage mz_Mod ⟨by decide, by decide, by decide +kernel⟩ ⟨Nat.le_of_ble_eq_true rfl, Nat.le_of_ble_eq_true rfl⟩ (by decide) (gm_e0 ad cI cZ _) rfl rfl rfl rfl (Nat.le_of_ble_eq_true rfl) ⟨Nat.le_refl _, Nat.le_refl _⟩ md_Mod_drop_2 (fun M1 H1 locs1 e1 hw => ?_)
  have ey1 := e1.symm
  subst ey1
  refine W.eq (g2 := F0 m 5 ls [.int (nI (1))]) rfl ?_
  refine xi_if_ne (tgt := 10) Z md_Mod_drop_5 (by decide) (by omega) (fun h5 => ?_) (fun h5 => by exfalso; omega)
  refine lv_aload_n Z.1 Z.2.1 md_Mod_drop_10 rfl (lv_at hl 0 rfl) ?_
  refine lv_iload_n Z.1 Z.2.1 md_Mod_drop_11 rfl (lv_at hl 1 rfl) ?_
  refine xw_cV (n := 1) (rest := []) Z hml hl.1 hN hw (r_takeOut l D ad cI cZ h hL hj) tb_g mc_Mod_takeOut mk_Mod_125 mi_Mod_takeOut ms_Mod_takeOut mz_Mod ⟨by decide, by decide, by decide +kernel⟩ ⟨Nat.le_of_ble_eq_true rfl, Nat.le_of_ble_eq_true rfl⟩ (by decide) (gm_e0 ad cI cZ _) rfl rfl rfl rfl (Nat.le_of_ble_eq_true rfl) ⟨Nat.le_refl _, Nat.le_refl _⟩ md_Mod_drop_12 (fun M2 H2 locs2 h1 hw => ?_)
  refine W.eq (g2 := F0 m 15 ls []) rfl ?_
  refine lv_iconst (v := nI 1) Z.1 Z.2.1 md_Mod_drop_15 (by decide) ?_
  exact xw_zret Z hr hlk hw md_Mod_drop_16 rfl rfl ⟨pz_rm_Inv I, h1⟩
set_option maxHeartbeats 4000000 in
theorem r_drop_b (l : Launch) (D : va_G) (ad : Nat × Nat → Nat) (cI cZ : ClassId) {M : fr_M} {n q f : Nat} {S : pz_T} (hn : n ≤ 5) (hI : gm_I n q f S M) {x : Int32} (hx : x < 0 ∨ nI S.1.length ≤ x) : gm_C l D ad cI cZ my_Mod_drop mb_Mod_drop 2 (some .boolean) 1 21 M [.ref (ad (0, 0)), .int (x)] (some (.int (nI 0))) (fun M' => M' = M) := by
  have h := hI.2
  have I := hI.1
  have hL := I.1
  refine xw_start [.ref (ad (0, 0)), .int (x)] (by decide) (Nat.le_of_ble_eq_true rfl) ?_
  intro p e st m below meth cd0 ls Z hml hr hlk hN hl hw
  have hl : lv_has ls 2 [(0, .ref (ad (0, 0))), (1, .int (x))] := hl
  refine lv_aload_n Z.1 Z.2.1 md_Mod_drop_0 rfl (lv_at hl 0 rfl) ?_
  refine lv_iload_n Z.1 Z.2.1 md_Mod_drop_1 rfl (lv_at hl 1 rfl) ?_
  refine xw_cV (n := 1) (rest := []) Z hml hl.1 hN hw (r_isMessage0 l D ad cI cZ (n := n) (q := q) (f := f) (M := M) hL h.2.1 hx) tb_g mc_Mod_isMessage mk_Mod_122 mi_Mod_isMessage ms_Mod_isMessage mz_Mod ⟨by decide, by decide, by decide +kernel⟩ ⟨Nat.le_of_ble_eq_true rfl, Nat.le_of_ble_eq_true rfl⟩ (by decide) (gm_e0 ad cI cZ _) rfl rfl rfl rfl (Nat.le_of_ble_eq_true rfl) ⟨Nat.le_refl _, Nat.le_refl _⟩ md_Mod_drop_2 (fun M1 H1 locs1 e1 hw => ?_)
  have ey1 := e1.symm
  subst ey1
  refine W.eq (g2 := F0 m 5 ls [.int (nI (0))]) rfl ?_
  refine xi_if_ne (tgt := 10) Z md_Mod_drop_5 (by decide) (by omega) (fun h5 => by exfalso; omega) (fun h5 => ?_)
  refine lv_iconst (v := nI 0) Z.1 Z.2.1 md_Mod_drop_8 (by decide) ?_
  exact xw_zret Z hr hlk hw md_Mod_drop_9 rfl rfl rfl
set_option maxHeartbeats 4000000 in
theorem r_haltA1 (l : Launch) (D : va_G) (ad : Nat × Nat → Nat) (cI cZ : ClassId) {M : fr_M} {n q f : Nat} {S : pz_T} (hn : n ≤ 5) (hI : gm_I n q f S M) {w b : Nat} (hb : b ≤ 1) (hne : S.2 3 14 w 0 ≠ b) (hw_ : w < n) : gm_C l D ad cI cZ my_Mod_halt mb_Mod_halt 3 (some .boolean) 1 21 M [.ref (ad (0, 0)), .int (nI (w)), .int (nI (b))] (some (.int (nI 1))) (gm_I n q f (pz_halt S w b)) := by
  have h := hI.2
  have I := hI.1
  have hL := I.1
  refine xw_start [.ref (ad (0, 0)), .int (nI (w)), .int (nI (b))] (by decide) (Nat.le_of_ble_eq_true rfl) ?_
  intro p e st m below meth cd0 ls Z hml hr hlk hN hl hw
  have hl : lv_has ls 3 [(0, .ref (ad (0, 0))), (1, .int (nI (w))), (2, .int (nI (b)))] := hl
  refine lv_aload_n Z.1 Z.2.1 md_Mod_halt_0 rfl (lv_at hl 0 rfl) ?_
  refine lv_iload_n Z.1 Z.2.1 md_Mod_halt_1 rfl (lv_at hl 1 rfl) ?_
  refine xw_cV (n := 1) (rest := []) Z hml hl.1 hN hw (r_isAcceptor1 l D ad cI cZ (S := S) (M := M) hn h.1 hw_) tb_g mc_Mod_isAcceptor mk_Mod_139 mi_Mod_isAcceptor ms_Mod_isAcceptor mz_Mod ⟨by decide, by decide, by decide +kernel⟩ ⟨Nat.le_of_ble_eq_true rfl, Nat.le_of_ble_eq_true rfl⟩ (by decide) (gm_e0 ad cI cZ _) rfl rfl rfl rfl (Nat.le_of_ble_eq_true rfl) ⟨Nat.le_refl _, Nat.le_refl _⟩ md_Mod_halt_2 (fun M1 H1 locs1 e1 hw => ?_)
  have ey1 := e1.symm
  subst ey1
  refine W.eq (g2 := F0 m 5 ls [.int (nI (1))]) rfl ?_
  refine xi_if_ne (tgt := 20) Z md_Mod_halt_5 (by decide) (by omega) (fun h5 => ?_) (fun h5 => by exfalso; omega)
  refine lv_aload_n Z.1 Z.2.1 md_Mod_halt_20 rfl (lv_at hl 0 rfl) ?_
  refine xb_get (v := .ref (ad (3, 0))) Z hw (by decide) (gm_e0 ad cI cZ) rfl tb_iMod 3 (by decide) mk_Mod_7 rfl rfl md_Mod_halt_21 ?_
  refine lv_iload_n Z.1 Z.2.1 md_Mod_halt_24 rfl (lv_at hl 1 rfl) ?_
  refine xw_zald Z hw (by decide) (gm_e3 ad cI cZ) 1 rfl (w) rfl (by omega) (by omega) md_Mod_halt_25 ?_
  refine xi_re (show M (3, 0) (w) = nI (S.2 3 14 w 0) from h.2.2.1 w (by omega)) ?_
  refine lv_iload_n Z.1 Z.2.1 md_Mod_halt_26 rfl (lv_at hl 2 rfl) ?_
  have l14 := I.2.2.2 w
  refine xi_icmp_ne (tgt := 32) Z md_Mod_halt_27 (by decide) (by omega) (by omega) (fun h27 => ?_) (fun h27 => by exfalso; omega)
  refine lv_aload_n Z.1 Z.2.1 md_Mod_halt_32 rfl (lv_at hl 0 rfl) ?_
  refine xb_get (v := .ref (ad (3, 0))) Z hw (by decide) (gm_e0 ad cI cZ) rfl tb_iMod 3 (by decide) mk_Mod_7 rfl rfl md_Mod_halt_33 ?_
  refine lv_iload_n Z.1 Z.2.1 md_Mod_halt_36 rfl (lv_at hl 1 rfl) ?_
  refine lv_iload_n Z.1 Z.2.1 md_Mod_halt_37 rfl (lv_at hl 2 rfl) ?_
  refine xb_zast Z hw (by decide) (gm_e3 ad cI cZ) 1 rfl (xi_zb hb) (w) rfl (by omega) (by omega) md_Mod_halt_38 (fun M2 H2 locs2 e2 hw => ?_)
  have h1 := gm_halt h e2
  refine lv_iconst (v := nI 1) Z.1 Z.2.1 md_Mod_halt_39 (by decide) ?_
  exact xw_zret Z hr hlk hw md_Mod_halt_40 rfl rfl ⟨pz_halt_Inv I hb, h1⟩
set_option maxHeartbeats 4000000 in
theorem r_haltA0 (l : Launch) (D : va_G) (ad : Nat × Nat → Nat) (cI cZ : ClassId) {M : fr_M} {n q f : Nat} {S : pz_T} (hn : n ≤ 5) (hI : gm_I n q f S M) {w b : Nat} (hb : b ≤ 1) (heq : S.2 3 14 w 0 = b) (hw_ : w < n) : gm_C l D ad cI cZ my_Mod_halt mb_Mod_halt 3 (some .boolean) 1 21 M [.ref (ad (0, 0)), .int (nI (w)), .int (nI (b))] (some (.int (nI 0))) (fun M' => M' = M) := by
  have h := hI.2
  have I := hI.1
  have hL := I.1
  refine xw_start [.ref (ad (0, 0)), .int (nI (w)), .int (nI (b))] (by decide) (Nat.le_of_ble_eq_true rfl) ?_
  intro p e st m below meth cd0 ls Z hml hr hlk hN hl hw
  have hl : lv_has ls 3 [(0, .ref (ad (0, 0))), (1, .int (nI (w))), (2, .int (nI (b)))] := hl
  refine lv_aload_n Z.1 Z.2.1 md_Mod_halt_0 rfl (lv_at hl 0 rfl) ?_
  refine lv_iload_n Z.1 Z.2.1 md_Mod_halt_1 rfl (lv_at hl 1 rfl) ?_
  refine xw_cV (n := 1) (rest := []) Z hml hl.1 hN hw (r_isAcceptor1 l D ad cI cZ (S := S) (M := M) hn h.1 hw_) tb_g mc_Mod_isAcceptor mk_Mod_139 mi_Mod_isAcceptor ms_Mod_isAcceptor mz_Mod ⟨by decide, by decide, by decide +kernel⟩ ⟨Nat.le_of_ble_eq_true rfl, Nat.le_of_ble_eq_true rfl⟩ (by decide) (gm_e0 ad cI cZ _) rfl rfl rfl rfl (Nat.le_of_ble_eq_true rfl) ⟨Nat.le_refl _, Nat.le_refl _⟩ md_Mod_halt_2 (fun M1 H1 locs1 e1 hw => ?_)
  have ey1 := e1.symm
  subst ey1
  refine W.eq (g2 := F0 m 5 ls [.int (nI (1))]) rfl ?_
  refine xi_if_ne (tgt := 20) Z md_Mod_halt_5 (by decide) (by omega) (fun h5 => ?_) (fun h5 => by exfalso; omega)
  refine lv_aload_n Z.1 Z.2.1 md_Mod_halt_20 rfl (lv_at hl 0 rfl) ?_
  refine xb_get (v := .ref (ad (3, 0))) Z hw (by decide) (gm_e0 ad cI cZ) rfl tb_iMod 3 (by decide) mk_Mod_7 rfl rfl md_Mod_halt_21 ?_
  refine lv_iload_n Z.1 Z.2.1 md_Mod_halt_24 rfl (lv_at hl 1 rfl) ?_
  refine xw_zald Z hw (by decide) (gm_e3 ad cI cZ) 1 rfl (w) rfl (by omega) (by omega) md_Mod_halt_25 ?_
  refine xi_re (show M (3, 0) (w) = nI (S.2 3 14 w 0) from h.2.2.1 w (by omega)) ?_
  refine lv_iload_n Z.1 Z.2.1 md_Mod_halt_26 rfl (lv_at hl 2 rfl) ?_
  have l14 := I.2.2.2 w
  refine xi_icmp_ne (tgt := 32) Z md_Mod_halt_27 (by decide) (by omega) (by omega) (fun h27 => by exfalso; omega) (fun h27 => ?_)
  refine lv_iconst (v := nI 0) Z.1 Z.2.1 md_Mod_halt_30 (by decide) ?_
  exact xw_zret Z hr hlk hw md_Mod_halt_31 rfl rfl rfl
set_option maxHeartbeats 4000000 in
theorem r_haltC1 (l : Launch) (D : va_G) (ad : Nat × Nat → Nat) (cI cZ : ClassId) {M : fr_M} {n q f : Nat} {S : pz_T} (hn : n ≤ 5) (hI : gm_I n q f S M) {w b : Nat} (hb : b ≤ 1) (hne : S.2 3 14 w 0 ≠ b) (hw_ : 8 ≤ w) (hw2 : w ≤ 10) : gm_C l D ad cI cZ my_Mod_halt mb_Mod_halt 3 (some .boolean) 1 21 M [.ref (ad (0, 0)), .int (nI (w)), .int (nI (b))] (some (.int (nI 1))) (gm_I n q f (pz_halt S w b)) := by
  have h := hI.2
  have I := hI.1
  have hL := I.1
  refine xw_start [.ref (ad (0, 0)), .int (nI (w)), .int (nI (b))] (by decide) (Nat.le_of_ble_eq_true rfl) ?_
  intro p e st m below meth cd0 ls Z hml hr hlk hN hl hw
  have hl : lv_has ls 3 [(0, .ref (ad (0, 0))), (1, .int (nI (w))), (2, .int (nI (b)))] := hl
  refine lv_aload_n Z.1 Z.2.1 md_Mod_halt_0 rfl (lv_at hl 0 rfl) ?_
  refine lv_iload_n Z.1 Z.2.1 md_Mod_halt_1 rfl (lv_at hl 1 rfl) ?_
  refine xw_cV (n := 1) (rest := []) Z hml hl.1 hN hw (r_isAcceptor0 l D ad cI cZ (S := S) (M := M) hn h.1 (Or.inr (nI_le (by omega) (by omega)))) tb_g mc_Mod_isAcceptor mk_Mod_139 mi_Mod_isAcceptor ms_Mod_isAcceptor mz_Mod ⟨by decide, by decide, by decide +kernel⟩ ⟨Nat.le_of_ble_eq_true rfl, Nat.le_of_ble_eq_true rfl⟩ (by decide) (gm_e0 ad cI cZ _) rfl rfl rfl rfl (Nat.le_of_ble_eq_true rfl) ⟨Nat.le_refl _, Nat.le_refl _⟩ md_Mod_halt_2 (fun M1 H1 locs1 e1 hw => ?_)
  have ey1 := e1.symm
  subst ey1
  refine W.eq (g2 := F0 m 5 ls [.int (nI (0))]) rfl ?_
  refine xi_if_ne (tgt := 20) Z md_Mod_halt_5 (by decide) (by omega) (fun h5 => by exfalso; omega) (fun h5 => ?_)
  refine lv_iload_n Z.1 Z.2.1 md_Mod_halt_8 rfl (lv_at hl 1 rfl) ?_
  refine lv_bipush (v := nI 8) Z.1 Z.2.1 md_Mod_halt_9 (by decide) ?_
  refine xi_icmp_lt (tgt := 30) Z md_Mod_halt_11 (by decide) (by omega) (by omega) (fun h11 => by exfalso; omega) (fun h11 => ?_)
  refine lv_iload_n Z.1 Z.2.1 md_Mod_halt_14 rfl (lv_at hl 1 rfl) ?_
  refine lv_bipush (v := nI 10) Z.1 Z.2.1 md_Mod_halt_15 (by decide) ?_
  refine xi_icmp_gt (tgt := 30) Z md_Mod_halt_17 (by decide) (by omega) (by omega) (fun h17 => by exfalso; omega) (fun h17 => ?_)
  refine lv_aload_n Z.1 Z.2.1 md_Mod_halt_20 rfl (lv_at hl 0 rfl) ?_
  refine xb_get (v := .ref (ad (3, 0))) Z hw (by decide) (gm_e0 ad cI cZ) rfl tb_iMod 3 (by decide) mk_Mod_7 rfl rfl md_Mod_halt_21 ?_
  refine lv_iload_n Z.1 Z.2.1 md_Mod_halt_24 rfl (lv_at hl 1 rfl) ?_
  refine xw_zald Z hw (by decide) (gm_e3 ad cI cZ) 1 rfl (w) rfl (by omega) (by omega) md_Mod_halt_25 ?_
  refine xi_re (show M (3, 0) (w) = nI (S.2 3 14 w 0) from h.2.2.1 w (by omega)) ?_
  refine lv_iload_n Z.1 Z.2.1 md_Mod_halt_26 rfl (lv_at hl 2 rfl) ?_
  have l14 := I.2.2.2 w
  refine xi_icmp_ne (tgt := 32) Z md_Mod_halt_27 (by decide) (by omega) (by omega) (fun h27 => ?_) (fun h27 => by exfalso; omega)
  refine lv_aload_n Z.1 Z.2.1 md_Mod_halt_32 rfl (lv_at hl 0 rfl) ?_
  refine xb_get (v := .ref (ad (3, 0))) Z hw (by decide) (gm_e0 ad cI cZ) rfl tb_iMod 3 (by decide) mk_Mod_7 rfl rfl md_Mod_halt_33 ?_
  refine lv_iload_n Z.1 Z.2.1 md_Mod_halt_36 rfl (lv_at hl 1 rfl) ?_
  refine lv_iload_n Z.1 Z.2.1 md_Mod_halt_37 rfl (lv_at hl 2 rfl) ?_
  refine xb_zast Z hw (by decide) (gm_e3 ad cI cZ) 1 rfl (xi_zb hb) (w) rfl (by omega) (by omega) md_Mod_halt_38 (fun M2 H2 locs2 e2 hw => ?_)
  have h1 := gm_halt h e2
  refine lv_iconst (v := nI 1) Z.1 Z.2.1 md_Mod_halt_39 (by decide) ?_
  exact xw_zret Z hr hlk hw md_Mod_halt_40 rfl rfl ⟨pz_halt_Inv I hb, h1⟩
set_option maxHeartbeats 4000000 in
theorem r_haltC0 (l : Launch) (D : va_G) (ad : Nat × Nat → Nat) (cI cZ : ClassId) {M : fr_M} {n q f : Nat} {S : pz_T} (hn : n ≤ 5) (hI : gm_I n q f S M) {w b : Nat} (hb : b ≤ 1) (heq : S.2 3 14 w 0 = b) (hw_ : 8 ≤ w) (hw2 : w ≤ 10) : gm_C l D ad cI cZ my_Mod_halt mb_Mod_halt 3 (some .boolean) 1 21 M [.ref (ad (0, 0)), .int (nI (w)), .int (nI (b))] (some (.int (nI 0))) (fun M' => M' = M) := by
  have h := hI.2
  have I := hI.1
  have hL := I.1
  refine xw_start [.ref (ad (0, 0)), .int (nI (w)), .int (nI (b))] (by decide) (Nat.le_of_ble_eq_true rfl) ?_
  intro p e st m below meth cd0 ls Z hml hr hlk hN hl hw
  have hl : lv_has ls 3 [(0, .ref (ad (0, 0))), (1, .int (nI (w))), (2, .int (nI (b)))] := hl
  refine lv_aload_n Z.1 Z.2.1 md_Mod_halt_0 rfl (lv_at hl 0 rfl) ?_
  refine lv_iload_n Z.1 Z.2.1 md_Mod_halt_1 rfl (lv_at hl 1 rfl) ?_
  refine xw_cV (n := 1) (rest := []) Z hml hl.1 hN hw (r_isAcceptor0 l D ad cI cZ (S := S) (M := M) hn h.1 (Or.inr (nI_le (by omega) (by omega)))) tb_g mc_Mod_isAcceptor mk_Mod_139 mi_Mod_isAcceptor ms_Mod_isAcceptor mz_Mod ⟨by decide, by decide, by decide +kernel⟩ ⟨Nat.le_of_ble_eq_true rfl, Nat.le_of_ble_eq_true rfl⟩ (by decide) (gm_e0 ad cI cZ _) rfl rfl rfl rfl (Nat.le_of_ble_eq_true rfl) ⟨Nat.le_refl _, Nat.le_refl _⟩ md_Mod_halt_2 (fun M1 H1 locs1 e1 hw => ?_)
  have ey1 := e1.symm
  subst ey1
  refine W.eq (g2 := F0 m 5 ls [.int (nI (0))]) rfl ?_
  refine xi_if_ne (tgt := 20) Z md_Mod_halt_5 (by decide) (by omega) (fun h5 => by exfalso; omega) (fun h5 => ?_)
  refine lv_iload_n Z.1 Z.2.1 md_Mod_halt_8 rfl (lv_at hl 1 rfl) ?_
  refine lv_bipush (v := nI 8) Z.1 Z.2.1 md_Mod_halt_9 (by decide) ?_
  refine xi_icmp_lt (tgt := 30) Z md_Mod_halt_11 (by decide) (by omega) (by omega) (fun h11 => by exfalso; omega) (fun h11 => ?_)
  refine lv_iload_n Z.1 Z.2.1 md_Mod_halt_14 rfl (lv_at hl 1 rfl) ?_
  refine lv_bipush (v := nI 10) Z.1 Z.2.1 md_Mod_halt_15 (by decide) ?_
  refine xi_icmp_gt (tgt := 30) Z md_Mod_halt_17 (by decide) (by omega) (by omega) (fun h17 => by exfalso; omega) (fun h17 => ?_)
  refine lv_aload_n Z.1 Z.2.1 md_Mod_halt_20 rfl (lv_at hl 0 rfl) ?_
  refine xb_get (v := .ref (ad (3, 0))) Z hw (by decide) (gm_e0 ad cI cZ) rfl tb_iMod 3 (by decide) mk_Mod_7 rfl rfl md_Mod_halt_21 ?_
  refine lv_iload_n Z.1 Z.2.1 md_Mod_halt_24 rfl (lv_at hl 1 rfl) ?_
  refine xw_zald Z hw (by decide) (gm_e3 ad cI cZ) 1 rfl (w) rfl (by omega) (by omega) md_Mod_halt_25 ?_
  refine xi_re (show M (3, 0) (w) = nI (S.2 3 14 w 0) from h.2.2.1 w (by omega)) ?_
  refine lv_iload_n Z.1 Z.2.1 md_Mod_halt_26 rfl (lv_at hl 2 rfl) ?_
  have l14 := I.2.2.2 w
  refine xi_icmp_ne (tgt := 32) Z md_Mod_halt_27 (by decide) (by omega) (by omega) (fun h27 => by exfalso; omega) (fun h27 => ?_)
  refine lv_iconst (v := nI 0) Z.1 Z.2.1 md_Mod_halt_30 (by decide) ?_
  exact xw_zret Z hr hlk hw md_Mod_halt_31 rfl rfl rfl
set_option maxHeartbeats 4000000 in
theorem r_halt_b (l : Launch) (D : va_G) (ad : Nat × Nat → Nat) (cI cZ : ClassId) {M : fr_M} {n q f : Nat} {S : pz_T} (hn : n ≤ 5) (hI : gm_I n q f S M) {x y : Int32} (hx : x < 0 ∨ nI n ≤ x) (hx2 : x < nI 8 ∨ nI 10 < x) : gm_C l D ad cI cZ my_Mod_halt mb_Mod_halt 3 (some .boolean) 1 21 M [.ref (ad (0, 0)), .int (x), .int (y)] (some (.int (nI 0))) (fun M' => M' = M) := by
  have h := hI.2
  have I := hI.1
  have hL := I.1
  refine xw_start [.ref (ad (0, 0)), .int (x), .int (y)] (by decide) (Nat.le_of_ble_eq_true rfl) ?_
  intro p e st m below meth cd0 ls Z hml hr hlk hN hl hw
  have hl : lv_has ls 3 [(0, .ref (ad (0, 0))), (1, .int (x)), (2, .int (y))] := hl
  refine lv_aload_n Z.1 Z.2.1 md_Mod_halt_0 rfl (lv_at hl 0 rfl) ?_
  refine lv_iload_n Z.1 Z.2.1 md_Mod_halt_1 rfl (lv_at hl 1 rfl) ?_
  refine xw_cV (n := 1) (rest := []) Z hml hl.1 hN hw (r_isAcceptor0 l D ad cI cZ (S := S) (M := M) hn h.1 hx) tb_g mc_Mod_isAcceptor mk_Mod_139 mi_Mod_isAcceptor ms_Mod_isAcceptor mz_Mod ⟨by decide, by decide, by decide +kernel⟩ ⟨Nat.le_of_ble_eq_true rfl, Nat.le_of_ble_eq_true rfl⟩ (by decide) (gm_e0 ad cI cZ _) rfl rfl rfl rfl (Nat.le_of_ble_eq_true rfl) ⟨Nat.le_refl _, Nat.le_refl _⟩ md_Mod_halt_2 (fun M1 H1 locs1 e1 hw => ?_)
  have ey1 := e1.symm
  subst ey1
  refine W.eq (g2 := F0 m 5 ls [.int (nI (0))]) rfl ?_
  refine xi_if_ne (tgt := 20) Z md_Mod_halt_5 (by decide) (by omega) (fun h5 => by exfalso; omega) (fun h5 => ?_)
  refine lv_iload_n Z.1 Z.2.1 md_Mod_halt_8 rfl (lv_at hl 1 rfl) ?_
  refine lv_bipush (v := nI 8) Z.1 Z.2.1 md_Mod_halt_9 (by decide) ?_
  refine lv_icmp_lt (tgt := 30) Z.1 Z.2.1 md_Mod_halt_11 (by decide) (fun h11 => ?_) (fun h11 => ?_)
  · refine lv_iconst (v := nI 0) Z.1 Z.2.1 md_Mod_halt_30 (by decide) ?_
    exact xw_zret Z hr hlk hw md_Mod_halt_31 rfl rfl rfl
  · refine lv_iload_n Z.1 Z.2.1 md_Mod_halt_14 rfl (lv_at hl 1 rfl) ?_
    refine lv_bipush (v := nI 10) Z.1 Z.2.1 md_Mod_halt_15 (by decide) ?_
    refine lv_icmp_gt (tgt := 30) Z.1 Z.2.1 md_Mod_halt_17 (by decide) (fun h17 => ?_) (fun h17 => by exfalso; exact hx2.elim h11 h17)
    refine lv_iconst (v := nI 0) Z.1 Z.2.1 md_Mod_halt_30 (by decide) ?_
    exact xw_zret Z hr hlk hw md_Mod_halt_31 rfl rfl rfl
set_option maxHeartbeats 4000000 in
theorem r_deliver_h (l : Launch) (D : va_G) (ad : Nat × Nat → Nat) (cI cZ : ClassId) {M : fr_M} {n q f : Nat} {S : pz_T} (hn : n ≤ 5) (hq5 : q ≤ 5) (hf5 : f ≤ 5) (Q : pz_Q n q f) (hI : gm_I n q f S M) {j s : Nat} {g : pz_M} (hg : S.1[j]? = some g) (hs1 : g 1 = s) {t : Nat} (h4 : g 4 = t) (ht10 : t ≤ 10) (hh : S.2 3 14 t 0 ≠ 0) : gm_C l D ad cI cZ my_Mod_deliver mb_Mod_deliver 9 (some .int) 5 130 M [.ref (ad (0, 0)), .int (nI (j))] (some (.int (nI (g 0)))) (gm_I n q f (pz_hear n q f (pz_rm S j) g)) := by
  have h := hI.2
  have I := hI.1
  have hL := I.1
  have hj : j < S.1.length := (List.getElem?_eq_some_iff.mp hg).1
  have hrow := h.2.2.2.1 j g hg
  obtain ⟨hs0, hms⟩ := I.2.2.1 g (List.mem_of_getElem? hg)
  have hs : s < 3 := by omega
  rw [hs1] at hms
  have IV := I.2.1 s hs
  have cl := pz_ci_lt (g 2)
  have Lr := (pz_rm_Inv (i := j) I).1
  refine xw_start [.ref (ad (0, 0)), .int (nI (j))] (by decide) (Nat.le_of_ble_eq_true rfl) ?_
  intro p e st m below meth cd0 ls Z hml hr hlk hN hl hw
  have hl : lv_has ls 9 [(0, .ref (ad (0, 0))), (1, .int (nI (j)))] := hl
  refine lv_aload_n Z.1 Z.2.1 md_Mod_deliver_0 rfl (lv_at hl 0 rfl) ?_
  refine lv_iload_n Z.1 Z.2.1 md_Mod_deliver_1 rfl (lv_at hl 1 rfl) ?_
  refine xw_cV (n := 1) (rest := []) Z hml hl.1 hN hw (r_isMessage1 l D ad cI cZ (n := n) (q := q) (f := f) (M := M) hL h.2.1 hj) tb_g mc_Mod_isMessage mk_Mod_122 mi_Mod_isMessage ms_Mod_isMessage mz_Mod ⟨by decide, by decide, by decide +kernel⟩ ⟨Nat.le_of_ble_eq_true rfl, Nat.le_of_ble_eq_true rfl⟩ (by decide) (gm_e0 ad cI cZ _) rfl rfl rfl rfl (Nat.le_of_ble_eq_true rfl) ⟨Nat.le_refl _, Nat.le_refl _⟩ md_Mod_deliver_2 (fun M1 H1 locs1 e1 hw => ?_)
  have ey1 := e1.symm
  subst ey1
  refine W.eq (g2 := F0 m 5 ls [.int (nI (1))]) rfl ?_
  refine xi_if_ne (tgt := 10) Z md_Mod_deliver_5 (by decide) (by omega) (fun h5 => ?_) (fun h5 => by exfalso; omega)
  refine lv_aload_n Z.1 Z.2.1 md_Mod_deliver_10 rfl (lv_at hl 0 rfl) ?_
  refine xb_get (v := .ref (ad (6, 0))) Z hw (by decide) (gm_e0 ad cI cZ) rfl tb_iMod 6 (by decide) mk_Mod_13 rfl rfl md_Mod_deliver_11 ?_
  refine lv_iload_n Z.1 Z.2.1 md_Mod_deliver_14 rfl (lv_at hl 1 rfl) ?_
  refine xw_iald Z hw (by decide) (gm_e6 ad cI cZ) 0 rfl (j) rfl (by omega) (by omega) md_Mod_deliver_15 ?_
  refine xi_re (show M (6, 0) (j) = nI (g 0) from hrow.1) ?_
  refine lv_istore_n Z.1 Z.2.1 md_Mod_deliver_16 rfl hl (by decide) rfl (fun ls hl => ?_)
  have hl : lv_has ls 9 [(2, .int (nI (g 0))), (0, .ref (ad (0, 0))), (1, .int (nI (j)))] := hl
  refine lv_aload_n Z.1 Z.2.1 md_Mod_deliver_17 rfl (lv_at hl 1 rfl) ?_
  refine xb_get (v := .ref (ad (7, 0))) Z hw (by decide) (gm_e0 ad cI cZ) rfl tb_iMod 7 (by decide) mk_Mod_17 rfl rfl md_Mod_deliver_18 ?_
  refine lv_iload_n Z.1 Z.2.1 md_Mod_deliver_21 rfl (lv_at hl 2 rfl) ?_
  refine xw_iald Z hw (by decide) (gm_e7 ad cI cZ) 0 rfl (j) rfl (by omega) (by omega) md_Mod_deliver_22 ?_
  refine xi_re (show M (7, 0) (j) = nI (s) from (by rw [hrow.2.1]; exact congrArg nI hs1)) ?_
  refine lv_istore_n Z.1 Z.2.1 md_Mod_deliver_23 rfl hl (by decide) rfl (fun ls hl => ?_)
  have hl : lv_has ls 9 [(3, .int (nI (s))), (2, .int (nI (g 0))), (0, .ref (ad (0, 0))), (1, .int (nI (j)))] := hl
  refine lv_aload_n Z.1 Z.2.1 md_Mod_deliver_24 rfl (lv_at hl 2 rfl) ?_
  refine xb_get (v := .ref (ad (8, 0))) Z hw (by decide) (gm_e0 ad cI cZ) rfl tb_iMod 8 (by decide) mk_Mod_20 rfl rfl md_Mod_deliver_25 ?_
  refine lv_iload_n Z.1 Z.2.1 md_Mod_deliver_28 rfl (lv_at hl 3 rfl) ?_
  refine xw_iald Z hw (by decide) (gm_e8 ad cI cZ) 0 rfl (j) rfl (by omega) (by omega) md_Mod_deliver_29 ?_
  refine xi_re (show M (8, 0) (j) = nI (g 2) from hrow.2.2.1) ?_
  refine lv_istore Z.1 Z.2.1 md_Mod_deliver_30 hl (by decide) rfl (fun ls hl => ?_)
  have hl : lv_has ls 9 [(4, .int (nI (g 2))), (3, .int (nI (s))), (2, .int (nI (g 0))), (0, .ref (ad (0, 0))), (1, .int (nI (j)))] := hl
  refine lv_aload_n Z.1 Z.2.1 md_Mod_deliver_32 rfl (lv_at hl 3 rfl) ?_
  refine xb_get (v := .ref (ad (10, 0))) Z hw (by decide) (gm_e0 ad cI cZ) rfl tb_iMod 10 (by decide) mk_Mod_26 rfl rfl md_Mod_deliver_33 ?_
  refine lv_iload_n Z.1 Z.2.1 md_Mod_deliver_36 rfl (lv_at hl 4 rfl) ?_
  refine xw_iald Z hw (by decide) (gm_e10 ad cI cZ) 0 rfl (j) rfl (by omega) (by omega) md_Mod_deliver_37 ?_
  refine xi_re (show M (10, 0) (j) = nI (g 3) from hrow.2.2.2.2.1) ?_
  refine lv_istore Z.1 Z.2.1 md_Mod_deliver_38 hl (by decide) rfl (fun ls hl => ?_)
  have hl : lv_has ls 9 [(5, .int (nI (g 3))), (4, .int (nI (g 2))), (3, .int (nI (s))), (2, .int (nI (g 0))), (0, .ref (ad (0, 0))), (1, .int (nI (j)))] := hl
  refine lv_aload_n Z.1 Z.2.1 md_Mod_deliver_40 rfl (lv_at hl 4 rfl) ?_
  refine xb_get (v := .ref (ad (9, 0))) Z hw (by decide) (gm_e0 ad cI cZ) rfl tb_iMod 9 (by decide) mk_Mod_23 rfl rfl md_Mod_deliver_41 ?_
  refine lv_iload_n Z.1 Z.2.1 md_Mod_deliver_44 rfl (lv_at hl 5 rfl) ?_
  refine xw_iald Z hw (by decide) (gm_e9 ad cI cZ) 0 rfl (j) rfl (by omega) (by omega) md_Mod_deliver_45 ?_
  refine xi_re (show M (9, 0) (j) = nI (t) from (by rw [hrow.2.2.2.1]; exact congrArg nI h4)) ?_
  refine lv_istore Z.1 Z.2.1 md_Mod_deliver_46 hl (by decide) rfl (fun ls hl => ?_)
  have hl : lv_has ls 9 [(6, .int (nI (t))), (5, .int (nI (g 3))), (4, .int (nI (g 2))), (3, .int (nI (s))), (2, .int (nI (g 0))), (0, .ref (ad (0, 0))), (1, .int (nI (j)))] := hl
  refine lv_aload_n Z.1 Z.2.1 md_Mod_deliver_48 rfl (lv_at hl 5 rfl) ?_
  refine xb_get (v := .ref (ad (11, 0))) Z hw (by decide) (gm_e0 ad cI cZ) rfl tb_iMod 11 (by decide) mk_Mod_29 rfl rfl md_Mod_deliver_49 ?_
  refine lv_iload_n Z.1 Z.2.1 md_Mod_deliver_52 rfl (lv_at hl 6 rfl) ?_
  refine xw_iald Z hw (by decide) (gm_e11 ad cI cZ) 0 rfl (j) rfl (by omega) (by omega) md_Mod_deliver_53 ?_
  refine xi_re (show M (11, 0) (j) = nI (g 5) from hrow.2.2.2.2.2.1) ?_
  refine lv_istore Z.1 Z.2.1 md_Mod_deliver_54 hl (by decide) rfl (fun ls hl => ?_)
  have hl : lv_has ls 9 [(7, .int (nI (g 5))), (6, .int (nI (t))), (5, .int (nI (g 3))), (4, .int (nI (g 2))), (3, .int (nI (s))), (2, .int (nI (g 0))), (0, .ref (ad (0, 0))), (1, .int (nI (j)))] := hl
  refine lv_aload_n Z.1 Z.2.1 md_Mod_deliver_56 rfl (lv_at hl 6 rfl) ?_
  refine xb_get (v := .ref (ad (12, 0))) Z hw (by decide) (gm_e0 ad cI cZ) rfl tb_iMod 12 (by decide) mk_Mod_32 rfl rfl md_Mod_deliver_57 ?_
  refine lv_iload_n Z.1 Z.2.1 md_Mod_deliver_60 rfl (lv_at hl 7 rfl) ?_
  refine xw_iald Z hw (by decide) (gm_e12 ad cI cZ) 0 rfl (j) rfl (by omega) (by omega) md_Mod_deliver_61 ?_
  refine xi_re (show M (12, 0) (j) = nI (g 6) from hrow.2.2.2.2.2.2) ?_
  refine lv_istore Z.1 Z.2.1 md_Mod_deliver_62 hl (by decide) rfl (fun ls hl => ?_)
  have hl : lv_has ls 9 [(8, .int (nI (g 6))), (7, .int (nI (g 5))), (6, .int (nI (t))), (5, .int (nI (g 3))), (4, .int (nI (g 2))), (3, .int (nI (s))), (2, .int (nI (g 0))), (0, .ref (ad (0, 0))), (1, .int (nI (j)))] := hl
  refine lv_aload_n Z.1 Z.2.1 md_Mod_deliver_64 rfl (lv_at hl 7 rfl) ?_
  refine lv_iload_n Z.1 Z.2.1 md_Mod_deliver_65 rfl (lv_at hl 8 rfl) ?_
  refine xw_cV (n := 1) (rest := []) Z hml hl.1 hN hw (r_takeOut l D ad cI cZ h hL hj) tb_g mc_Mod_takeOut mk_Mod_125 mi_Mod_takeOut ms_Mod_takeOut mz_Mod ⟨by decide, by decide, by decide +kernel⟩ ⟨Nat.le_of_ble_eq_true rfl, Nat.le_of_ble_eq_true rfl⟩ (by decide) (gm_e0 ad cI cZ _) rfl rfl rfl rfl (Nat.le_of_ble_eq_true rfl) ⟨Nat.le_refl _, Nat.le_refl _⟩ md_Mod_deliver_66 (fun M2 H2 locs2 ht hw => ?_)
  refine W.eq (g2 := F0 m 69 ls []) rfl ?_
  refine lv_aload_n Z.1 Z.2.1 md_Mod_deliver_69 rfl (lv_at hl 7 rfl) ?_
  refine xb_get (v := .ref (ad (3, 0))) Z hw (by decide) (gm_e0 ad cI cZ) rfl tb_iMod 3 (by decide) mk_Mod_7 rfl rfl md_Mod_deliver_70 ?_
  refine lv_iload Z.1 Z.2.1 md_Mod_deliver_73 (lv_at hl 2 rfl) ?_
  refine xw_zald Z hw (by decide) (gm_e3 ad cI cZ) 1 rfl (t) rfl (by omega) (by omega) md_Mod_deliver_75 ?_
  refine xi_re (show M2 (3, 0) (t) = nI (S.2 3 14 (t) 0) from ht.2.2.1 (t) (by omega)) ?_
  have l14 := I.2.2.2 t
  refine xi_if_eq (tgt := 81) Z md_Mod_deliver_76 (by decide) (by omega) (fun h76 => by exfalso; omega) (fun h76 => ?_)
  refine lv_iload_n Z.1 Z.2.1 md_Mod_deliver_79 rfl (lv_at hl 6 rfl) ?_
  refine xw_iret Z hr hlk hw md_Mod_deliver_80 (congrArg nI (by omega)) ⟨pz_deliver_Inv Q I hg, ?_⟩
  unfold pz_hear
  rw [h4, if_pos (show (pz_rm S j).2 3 14 t 0 ≠ 0 from hh)]
  exact ht
set_option maxHeartbeats 4000000 in
theorem r_deliver_L (l : Launch) (D : va_G) (ad : Nat × Nat → Nat) (cI cZ : ClassId) {M : fr_M} {n q f : Nat} {S : pz_T} (hn : n ≤ 5) (hq5 : q ≤ 5) (hf5 : f ≤ 5) (Q : pz_Q n q f) (hI : gm_I n q f S M) {j s : Nat} {g : pz_M} (hg : S.1[j]? = some g) (hs1 : g 1 = s) (h4 : g 4 = 10) (hh : S.2 3 14 10 0 = 0) (hk : g 0 = 5) : gm_C l D ad cI cZ my_Mod_deliver mb_Mod_deliver 9 (some .int) 5 130 M [.ref (ad (0, 0)), .int (nI (j))] (some (.int (nI (g 0)))) (gm_I n q f (pz_hear n q f (pz_rm S j) g)) := by
  have h := hI.2
  have I := hI.1
  have hL := I.1
  have hj : j < S.1.length := (List.getElem?_eq_some_iff.mp hg).1
  have hrow := h.2.2.2.1 j g hg
  obtain ⟨hs0, hms⟩ := I.2.2.1 g (List.mem_of_getElem? hg)
  have hs : s < 3 := by omega
  rw [hs1] at hms
  have IV := I.2.1 s hs
  have cl := pz_ci_lt (g 2)
  have Lr := (pz_rm_Inv (i := j) I).1
  refine xw_start [.ref (ad (0, 0)), .int (nI (j))] (by decide) (Nat.le_of_ble_eq_true rfl) ?_
  intro p e st m below meth cd0 ls Z hml hr hlk hN hl hw
  have hl : lv_has ls 9 [(0, .ref (ad (0, 0))), (1, .int (nI (j)))] := hl
  refine lv_aload_n Z.1 Z.2.1 md_Mod_deliver_0 rfl (lv_at hl 0 rfl) ?_
  refine lv_iload_n Z.1 Z.2.1 md_Mod_deliver_1 rfl (lv_at hl 1 rfl) ?_
  refine xw_cV (n := 1) (rest := []) Z hml hl.1 hN hw (r_isMessage1 l D ad cI cZ (n := n) (q := q) (f := f) (M := M) hL h.2.1 hj) tb_g mc_Mod_isMessage mk_Mod_122 mi_Mod_isMessage ms_Mod_isMessage mz_Mod ⟨by decide, by decide, by decide +kernel⟩ ⟨Nat.le_of_ble_eq_true rfl, Nat.le_of_ble_eq_true rfl⟩ (by decide) (gm_e0 ad cI cZ _) rfl rfl rfl rfl (Nat.le_of_ble_eq_true rfl) ⟨Nat.le_refl _, Nat.le_refl _⟩ md_Mod_deliver_2 (fun M1 H1 locs1 e1 hw => ?_)
  have ey1 := e1.symm
  subst ey1
  refine W.eq (g2 := F0 m 5 ls [.int (nI (1))]) rfl ?_
  refine xi_if_ne (tgt := 10) Z md_Mod_deliver_5 (by decide) (by omega) (fun h5 => ?_) (fun h5 => by exfalso; omega)
  refine lv_aload_n Z.1 Z.2.1 md_Mod_deliver_10 rfl (lv_at hl 0 rfl) ?_
  refine xb_get (v := .ref (ad (6, 0))) Z hw (by decide) (gm_e0 ad cI cZ) rfl tb_iMod 6 (by decide) mk_Mod_13 rfl rfl md_Mod_deliver_11 ?_
  refine lv_iload_n Z.1 Z.2.1 md_Mod_deliver_14 rfl (lv_at hl 1 rfl) ?_
  refine xw_iald Z hw (by decide) (gm_e6 ad cI cZ) 0 rfl (j) rfl (by omega) (by omega) md_Mod_deliver_15 ?_
  refine xi_re (show M (6, 0) (j) = nI (g 0) from hrow.1) ?_
  refine lv_istore_n Z.1 Z.2.1 md_Mod_deliver_16 rfl hl (by decide) rfl (fun ls hl => ?_)
  have hl : lv_has ls 9 [(2, .int (nI (g 0))), (0, .ref (ad (0, 0))), (1, .int (nI (j)))] := hl
  refine lv_aload_n Z.1 Z.2.1 md_Mod_deliver_17 rfl (lv_at hl 1 rfl) ?_
  refine xb_get (v := .ref (ad (7, 0))) Z hw (by decide) (gm_e0 ad cI cZ) rfl tb_iMod 7 (by decide) mk_Mod_17 rfl rfl md_Mod_deliver_18 ?_
  refine lv_iload_n Z.1 Z.2.1 md_Mod_deliver_21 rfl (lv_at hl 2 rfl) ?_
  refine xw_iald Z hw (by decide) (gm_e7 ad cI cZ) 0 rfl (j) rfl (by omega) (by omega) md_Mod_deliver_22 ?_
  refine xi_re (show M (7, 0) (j) = nI (s) from (by rw [hrow.2.1]; exact congrArg nI hs1)) ?_
  refine lv_istore_n Z.1 Z.2.1 md_Mod_deliver_23 rfl hl (by decide) rfl (fun ls hl => ?_)
  have hl : lv_has ls 9 [(3, .int (nI (s))), (2, .int (nI (g 0))), (0, .ref (ad (0, 0))), (1, .int (nI (j)))] := hl
  refine lv_aload_n Z.1 Z.2.1 md_Mod_deliver_24 rfl (lv_at hl 2 rfl) ?_
  refine xb_get (v := .ref (ad (8, 0))) Z hw (by decide) (gm_e0 ad cI cZ) rfl tb_iMod 8 (by decide) mk_Mod_20 rfl rfl md_Mod_deliver_25 ?_
  refine lv_iload_n Z.1 Z.2.1 md_Mod_deliver_28 rfl (lv_at hl 3 rfl) ?_
  refine xw_iald Z hw (by decide) (gm_e8 ad cI cZ) 0 rfl (j) rfl (by omega) (by omega) md_Mod_deliver_29 ?_
  refine xi_re (show M (8, 0) (j) = nI (g 2) from hrow.2.2.1) ?_
  refine lv_istore Z.1 Z.2.1 md_Mod_deliver_30 hl (by decide) rfl (fun ls hl => ?_)
  have hl : lv_has ls 9 [(4, .int (nI (g 2))), (3, .int (nI (s))), (2, .int (nI (g 0))), (0, .ref (ad (0, 0))), (1, .int (nI (j)))] := hl
  refine lv_aload_n Z.1 Z.2.1 md_Mod_deliver_32 rfl (lv_at hl 3 rfl) ?_
  refine xb_get (v := .ref (ad (10, 0))) Z hw (by decide) (gm_e0 ad cI cZ) rfl tb_iMod 10 (by decide) mk_Mod_26 rfl rfl md_Mod_deliver_33 ?_
  refine lv_iload_n Z.1 Z.2.1 md_Mod_deliver_36 rfl (lv_at hl 4 rfl) ?_
  refine xw_iald Z hw (by decide) (gm_e10 ad cI cZ) 0 rfl (j) rfl (by omega) (by omega) md_Mod_deliver_37 ?_
  refine xi_re (show M (10, 0) (j) = nI (g 3) from hrow.2.2.2.2.1) ?_
  refine lv_istore Z.1 Z.2.1 md_Mod_deliver_38 hl (by decide) rfl (fun ls hl => ?_)
  have hl : lv_has ls 9 [(5, .int (nI (g 3))), (4, .int (nI (g 2))), (3, .int (nI (s))), (2, .int (nI (g 0))), (0, .ref (ad (0, 0))), (1, .int (nI (j)))] := hl
  refine lv_aload_n Z.1 Z.2.1 md_Mod_deliver_40 rfl (lv_at hl 4 rfl) ?_
  refine xb_get (v := .ref (ad (9, 0))) Z hw (by decide) (gm_e0 ad cI cZ) rfl tb_iMod 9 (by decide) mk_Mod_23 rfl rfl md_Mod_deliver_41 ?_
  refine lv_iload_n Z.1 Z.2.1 md_Mod_deliver_44 rfl (lv_at hl 5 rfl) ?_
  refine xw_iald Z hw (by decide) (gm_e9 ad cI cZ) 0 rfl (j) rfl (by omega) (by omega) md_Mod_deliver_45 ?_
  refine xi_re (show M (9, 0) (j) = nI (10) from (by rw [hrow.2.2.2.1]; exact congrArg nI h4)) ?_
  refine lv_istore Z.1 Z.2.1 md_Mod_deliver_46 hl (by decide) rfl (fun ls hl => ?_)
  have hl : lv_has ls 9 [(6, .int (nI (10))), (5, .int (nI (g 3))), (4, .int (nI (g 2))), (3, .int (nI (s))), (2, .int (nI (g 0))), (0, .ref (ad (0, 0))), (1, .int (nI (j)))] := hl
  refine lv_aload_n Z.1 Z.2.1 md_Mod_deliver_48 rfl (lv_at hl 5 rfl) ?_
  refine xb_get (v := .ref (ad (11, 0))) Z hw (by decide) (gm_e0 ad cI cZ) rfl tb_iMod 11 (by decide) mk_Mod_29 rfl rfl md_Mod_deliver_49 ?_
  refine lv_iload_n Z.1 Z.2.1 md_Mod_deliver_52 rfl (lv_at hl 6 rfl) ?_
  refine xw_iald Z hw (by decide) (gm_e11 ad cI cZ) 0 rfl (j) rfl (by omega) (by omega) md_Mod_deliver_53 ?_
  refine xi_re (show M (11, 0) (j) = nI (g 5) from hrow.2.2.2.2.2.1) ?_
  refine lv_istore Z.1 Z.2.1 md_Mod_deliver_54 hl (by decide) rfl (fun ls hl => ?_)
  have hl : lv_has ls 9 [(7, .int (nI (g 5))), (6, .int (nI (10))), (5, .int (nI (g 3))), (4, .int (nI (g 2))), (3, .int (nI (s))), (2, .int (nI (g 0))), (0, .ref (ad (0, 0))), (1, .int (nI (j)))] := hl
  refine lv_aload_n Z.1 Z.2.1 md_Mod_deliver_56 rfl (lv_at hl 6 rfl) ?_
  refine xb_get (v := .ref (ad (12, 0))) Z hw (by decide) (gm_e0 ad cI cZ) rfl tb_iMod 12 (by decide) mk_Mod_32 rfl rfl md_Mod_deliver_57 ?_
  refine lv_iload_n Z.1 Z.2.1 md_Mod_deliver_60 rfl (lv_at hl 7 rfl) ?_
  refine xw_iald Z hw (by decide) (gm_e12 ad cI cZ) 0 rfl (j) rfl (by omega) (by omega) md_Mod_deliver_61 ?_
  refine xi_re (show M (12, 0) (j) = nI (g 6) from hrow.2.2.2.2.2.2) ?_
  refine lv_istore Z.1 Z.2.1 md_Mod_deliver_62 hl (by decide) rfl (fun ls hl => ?_)
  have hl : lv_has ls 9 [(8, .int (nI (g 6))), (7, .int (nI (g 5))), (6, .int (nI (10))), (5, .int (nI (g 3))), (4, .int (nI (g 2))), (3, .int (nI (s))), (2, .int (nI (g 0))), (0, .ref (ad (0, 0))), (1, .int (nI (j)))] := hl
  refine lv_aload_n Z.1 Z.2.1 md_Mod_deliver_64 rfl (lv_at hl 7 rfl) ?_
  refine lv_iload_n Z.1 Z.2.1 md_Mod_deliver_65 rfl (lv_at hl 8 rfl) ?_
  refine xw_cV (n := 1) (rest := []) Z hml hl.1 hN hw (r_takeOut l D ad cI cZ h hL hj) tb_g mc_Mod_takeOut mk_Mod_125 mi_Mod_takeOut ms_Mod_takeOut mz_Mod ⟨by decide, by decide, by decide +kernel⟩ ⟨Nat.le_of_ble_eq_true rfl, Nat.le_of_ble_eq_true rfl⟩ (by decide) (gm_e0 ad cI cZ _) rfl rfl rfl rfl (Nat.le_of_ble_eq_true rfl) ⟨Nat.le_refl _, Nat.le_refl _⟩ md_Mod_deliver_66 (fun M2 H2 locs2 ht hw => ?_)
  refine W.eq (g2 := F0 m 69 ls []) rfl ?_
  refine lv_aload_n Z.1 Z.2.1 md_Mod_deliver_69 rfl (lv_at hl 7 rfl) ?_
  refine xb_get (v := .ref (ad (3, 0))) Z hw (by decide) (gm_e0 ad cI cZ) rfl tb_iMod 3 (by decide) mk_Mod_7 rfl rfl md_Mod_deliver_70 ?_
  refine lv_iload Z.1 Z.2.1 md_Mod_deliver_73 (lv_at hl 2 rfl) ?_
  refine xw_zald Z hw (by decide) (gm_e3 ad cI cZ) 1 rfl (10) rfl (by omega) (by omega) md_Mod_deliver_75 ?_
  refine xi_re (show M2 (3, 0) (10) = nI (S.2 3 14 (10) 0) from ht.2.2.1 (10) (by omega)) ?_
  have l14 := I.2.2.2 (10)
  refine xi_if_eq (tgt := 81) Z md_Mod_deliver_76 (by decide) (by omega) (fun h76 => ?_) (fun h76 => by exfalso; omega)
  refine lv_iload Z.1 Z.2.1 md_Mod_deliver_81 (lv_at hl 2 rfl) ?_
  refine lv_bipush (v := nI 8) Z.1 Z.2.1 md_Mod_deliver_83 (by decide) ?_
  refine xi_icmp_ge (tgt := 103) Z md_Mod_deliver_85 (by decide) (by omega) (by omega) (fun h85 => ?_) (fun h85 => by exfalso; omega)
  refine lv_iload Z.1 Z.2.1 md_Mod_deliver_103 (lv_at hl 2 rfl) ?_
  refine lv_bipush (v := nI 10) Z.1 Z.2.1 md_Mod_deliver_105 (by decide) ?_
  refine xi_icmp_ge (tgt := 129) Z md_Mod_deliver_107 (by decide) (by omega) (by omega) (fun h107 => ?_) (fun h107 => by exfalso; omega)
  refine lv_aload_n Z.1 Z.2.1 md_Mod_deliver_129 rfl (lv_at hl 7 rfl) ?_
  refine lv_iload_n Z.1 Z.2.1 md_Mod_deliver_130 rfl (lv_at hl 5 rfl) ?_
  refine lv_iload Z.1 Z.2.1 md_Mod_deliver_131 (lv_at hl 4 rfl) ?_
  refine lv_iload Z.1 Z.2.1 md_Mod_deliver_133 (lv_at hl 3 rfl) ?_
  refine lv_iload Z.1 Z.2.1 md_Mod_deliver_135 (lv_at hl 1 rfl) ?_
  obtain ⟨m1, m2, m3, m4, m5⟩ : 1 ≤ g 2 ∧ g 2 ≤ 12 ∧ g 3 < n ∧ g 5 ≤ 1000 ∧ g 5 ≠ 0 := by
    rcases hms with ⟨a, _⟩ | ⟨a, _⟩ | ⟨a, _⟩ | ⟨a, _⟩ | ⟨_, a, b, d, _, z, _, y⟩
    · omega
    · omega
    · omega
    · omega
    · exact ⟨a, b, d, z, y⟩
  have iZ := IV.2.2.2.2.2.2.1
  refine xw_cV (n := 4) (rest := []) Z hml hl.1 hN hw (r_learn (S := pz_rm S j) (r := g 2) (a := g 3) (v := g 5) l D ad cI cZ hn hq5 hf5 ht hs m2 (by omega) m3 m5 (by omega) (fun b => by have z := iZ.2.1 (g 2) b; show S.2 s 6 (g 2) b < 2 ^ 31; omega) (fun b hb => (iZ.1 (g 2) b hb).2) (by have z := iZ.2.2.1; show S.2 s 7 0 0 < 2 ^ 31; omega)) tb_g mc_Mod_learn mk_Mod_136 mi_Mod_learn ms_Mod_learn mz_Mod ⟨by decide, by decide, by decide +kernel⟩ ⟨Nat.le_of_ble_eq_true rfl, Nat.le_of_ble_eq_true rfl⟩ (by decide) (gm_e0 ad cI cZ _) rfl rfl rfl rfl (Nat.le_of_ble_eq_true rfl) ⟨Nat.le_refl _, Nat.le_refl _⟩ md_Mod_deliver_137 (fun M3 H3 locs3 h9 hw => ?_)
  refine W.eq (g2 := F0 m 140 ls []) rfl ?_
  refine lv_iload_n Z.1 Z.2.1 md_Mod_deliver_140 rfl (lv_at hl 6 rfl) ?_
  refine xw_iret Z hr hlk hw md_Mod_deliver_141 (congrArg nI (by omega)) ⟨pz_deliver_Inv Q I hg, ?_⟩
  unfold pz_hear
  rw [h4, if_neg (fun y => y hh), if_neg (by decide), if_neg (by decide), hs1]
  exact h9
set_option maxHeartbeats 4000000 in
theorem r_deliver_C1 (l : Launch) (D : va_G) (ad : Nat × Nat → Nat) (cI cZ : ClassId) {M : fr_M} {n q f : Nat} {S : pz_T} (hn : n ≤ 5) (hq5 : q ≤ 5) (hf5 : f ≤ 5) (Q : pz_Q n q f) (hI : gm_I n q f S M) {j s : Nat} {g : pz_M} (hg : S.1[j]? = some g) (hs1 : g 1 = s) {c : Nat} (hc : c < 2) (h4 : g 4 = 8 + c) (hh : S.2 3 14 (8 + c) 0 = 0) (hk : g 0 = 1) : gm_C l D ad cI cZ my_Mod_deliver mb_Mod_deliver 9 (some .int) 5 130 M [.ref (ad (0, 0)), .int (nI (j))] (some (.int (nI (g 0)))) (gm_I n q f (pz_hear n q f (pz_rm S j) g)) := by
  have h := hI.2
  have I := hI.1
  have hL := I.1
  have hj : j < S.1.length := (List.getElem?_eq_some_iff.mp hg).1
  have hrow := h.2.2.2.1 j g hg
  obtain ⟨hs0, hms⟩ := I.2.2.1 g (List.mem_of_getElem? hg)
  have hs : s < 3 := by omega
  rw [hs1] at hms
  have IV := I.2.1 s hs
  have cl := pz_ci_lt (g 2)
  have Lr := (pz_rm_Inv (i := j) I).1
  refine xw_start [.ref (ad (0, 0)), .int (nI (j))] (by decide) (Nat.le_of_ble_eq_true rfl) ?_
  intro p e st m below meth cd0 ls Z hml hr hlk hN hl hw
  have hl : lv_has ls 9 [(0, .ref (ad (0, 0))), (1, .int (nI (j)))] := hl
  refine lv_aload_n Z.1 Z.2.1 md_Mod_deliver_0 rfl (lv_at hl 0 rfl) ?_
  refine lv_iload_n Z.1 Z.2.1 md_Mod_deliver_1 rfl (lv_at hl 1 rfl) ?_
  refine xw_cV (n := 1) (rest := []) Z hml hl.1 hN hw (r_isMessage1 l D ad cI cZ (n := n) (q := q) (f := f) (M := M) hL h.2.1 hj) tb_g mc_Mod_isMessage mk_Mod_122 mi_Mod_isMessage ms_Mod_isMessage mz_Mod ⟨by decide, by decide, by decide +kernel⟩ ⟨Nat.le_of_ble_eq_true rfl, Nat.le_of_ble_eq_true rfl⟩ (by decide) (gm_e0 ad cI cZ _) rfl rfl rfl rfl (Nat.le_of_ble_eq_true rfl) ⟨Nat.le_refl _, Nat.le_refl _⟩ md_Mod_deliver_2 (fun M1 H1 locs1 e1 hw => ?_)
  have ey1 := e1.symm
  subst ey1
  refine W.eq (g2 := F0 m 5 ls [.int (nI (1))]) rfl ?_
  refine xi_if_ne (tgt := 10) Z md_Mod_deliver_5 (by decide) (by omega) (fun h5 => ?_) (fun h5 => by exfalso; omega)
  refine lv_aload_n Z.1 Z.2.1 md_Mod_deliver_10 rfl (lv_at hl 0 rfl) ?_
  refine xb_get (v := .ref (ad (6, 0))) Z hw (by decide) (gm_e0 ad cI cZ) rfl tb_iMod 6 (by decide) mk_Mod_13 rfl rfl md_Mod_deliver_11 ?_
  refine lv_iload_n Z.1 Z.2.1 md_Mod_deliver_14 rfl (lv_at hl 1 rfl) ?_
  refine xw_iald Z hw (by decide) (gm_e6 ad cI cZ) 0 rfl (j) rfl (by omega) (by omega) md_Mod_deliver_15 ?_
  refine xi_re (show M (6, 0) (j) = nI (1) from (by rw [hrow.1]; exact congrArg nI hk)) ?_
  refine lv_istore_n Z.1 Z.2.1 md_Mod_deliver_16 rfl hl (by decide) rfl (fun ls hl => ?_)
  have hl : lv_has ls 9 [(2, .int (nI (1))), (0, .ref (ad (0, 0))), (1, .int (nI (j)))] := hl
  refine lv_aload_n Z.1 Z.2.1 md_Mod_deliver_17 rfl (lv_at hl 1 rfl) ?_
  refine xb_get (v := .ref (ad (7, 0))) Z hw (by decide) (gm_e0 ad cI cZ) rfl tb_iMod 7 (by decide) mk_Mod_17 rfl rfl md_Mod_deliver_18 ?_
  refine lv_iload_n Z.1 Z.2.1 md_Mod_deliver_21 rfl (lv_at hl 2 rfl) ?_
  refine xw_iald Z hw (by decide) (gm_e7 ad cI cZ) 0 rfl (j) rfl (by omega) (by omega) md_Mod_deliver_22 ?_
  refine xi_re (show M (7, 0) (j) = nI (s) from (by rw [hrow.2.1]; exact congrArg nI hs1)) ?_
  refine lv_istore_n Z.1 Z.2.1 md_Mod_deliver_23 rfl hl (by decide) rfl (fun ls hl => ?_)
  have hl : lv_has ls 9 [(3, .int (nI (s))), (2, .int (nI (1))), (0, .ref (ad (0, 0))), (1, .int (nI (j)))] := hl
  refine lv_aload_n Z.1 Z.2.1 md_Mod_deliver_24 rfl (lv_at hl 2 rfl) ?_
  refine xb_get (v := .ref (ad (8, 0))) Z hw (by decide) (gm_e0 ad cI cZ) rfl tb_iMod 8 (by decide) mk_Mod_20 rfl rfl md_Mod_deliver_25 ?_
  refine lv_iload_n Z.1 Z.2.1 md_Mod_deliver_28 rfl (lv_at hl 3 rfl) ?_
  refine xw_iald Z hw (by decide) (gm_e8 ad cI cZ) 0 rfl (j) rfl (by omega) (by omega) md_Mod_deliver_29 ?_
  refine xi_re (show M (8, 0) (j) = nI (g 2) from hrow.2.2.1) ?_
  refine lv_istore Z.1 Z.2.1 md_Mod_deliver_30 hl (by decide) rfl (fun ls hl => ?_)
  have hl : lv_has ls 9 [(4, .int (nI (g 2))), (3, .int (nI (s))), (2, .int (nI (1))), (0, .ref (ad (0, 0))), (1, .int (nI (j)))] := hl
  refine lv_aload_n Z.1 Z.2.1 md_Mod_deliver_32 rfl (lv_at hl 3 rfl) ?_
  refine xb_get (v := .ref (ad (10, 0))) Z hw (by decide) (gm_e0 ad cI cZ) rfl tb_iMod 10 (by decide) mk_Mod_26 rfl rfl md_Mod_deliver_33 ?_
  refine lv_iload_n Z.1 Z.2.1 md_Mod_deliver_36 rfl (lv_at hl 4 rfl) ?_
  refine xw_iald Z hw (by decide) (gm_e10 ad cI cZ) 0 rfl (j) rfl (by omega) (by omega) md_Mod_deliver_37 ?_
  refine xi_re (show M (10, 0) (j) = nI (g 3) from hrow.2.2.2.2.1) ?_
  refine lv_istore Z.1 Z.2.1 md_Mod_deliver_38 hl (by decide) rfl (fun ls hl => ?_)
  have hl : lv_has ls 9 [(5, .int (nI (g 3))), (4, .int (nI (g 2))), (3, .int (nI (s))), (2, .int (nI (1))), (0, .ref (ad (0, 0))), (1, .int (nI (j)))] := hl
  refine lv_aload_n Z.1 Z.2.1 md_Mod_deliver_40 rfl (lv_at hl 4 rfl) ?_
  refine xb_get (v := .ref (ad (9, 0))) Z hw (by decide) (gm_e0 ad cI cZ) rfl tb_iMod 9 (by decide) mk_Mod_23 rfl rfl md_Mod_deliver_41 ?_
  refine lv_iload_n Z.1 Z.2.1 md_Mod_deliver_44 rfl (lv_at hl 5 rfl) ?_
  refine xw_iald Z hw (by decide) (gm_e9 ad cI cZ) 0 rfl (j) rfl (by omega) (by omega) md_Mod_deliver_45 ?_
  refine xi_re (show M (9, 0) (j) = nI (8 + c) from (by rw [hrow.2.2.2.1]; exact congrArg nI h4)) ?_
  refine lv_istore Z.1 Z.2.1 md_Mod_deliver_46 hl (by decide) rfl (fun ls hl => ?_)
  have hl : lv_has ls 9 [(6, .int (nI (8 + c))), (5, .int (nI (g 3))), (4, .int (nI (g 2))), (3, .int (nI (s))), (2, .int (nI (1))), (0, .ref (ad (0, 0))), (1, .int (nI (j)))] := hl
  refine lv_aload_n Z.1 Z.2.1 md_Mod_deliver_48 rfl (lv_at hl 5 rfl) ?_
  refine xb_get (v := .ref (ad (11, 0))) Z hw (by decide) (gm_e0 ad cI cZ) rfl tb_iMod 11 (by decide) mk_Mod_29 rfl rfl md_Mod_deliver_49 ?_
  refine lv_iload_n Z.1 Z.2.1 md_Mod_deliver_52 rfl (lv_at hl 6 rfl) ?_
  refine xw_iald Z hw (by decide) (gm_e11 ad cI cZ) 0 rfl (j) rfl (by omega) (by omega) md_Mod_deliver_53 ?_
  refine xi_re (show M (11, 0) (j) = nI (g 5) from hrow.2.2.2.2.2.1) ?_
  refine lv_istore Z.1 Z.2.1 md_Mod_deliver_54 hl (by decide) rfl (fun ls hl => ?_)
  have hl : lv_has ls 9 [(7, .int (nI (g 5))), (6, .int (nI (8 + c))), (5, .int (nI (g 3))), (4, .int (nI (g 2))), (3, .int (nI (s))), (2, .int (nI (1))), (0, .ref (ad (0, 0))), (1, .int (nI (j)))] := hl
  refine lv_aload_n Z.1 Z.2.1 md_Mod_deliver_56 rfl (lv_at hl 6 rfl) ?_
  refine xb_get (v := .ref (ad (12, 0))) Z hw (by decide) (gm_e0 ad cI cZ) rfl tb_iMod 12 (by decide) mk_Mod_32 rfl rfl md_Mod_deliver_57 ?_
  refine lv_iload_n Z.1 Z.2.1 md_Mod_deliver_60 rfl (lv_at hl 7 rfl) ?_
  refine xw_iald Z hw (by decide) (gm_e12 ad cI cZ) 0 rfl (j) rfl (by omega) (by omega) md_Mod_deliver_61 ?_
  refine xi_re (show M (12, 0) (j) = nI (g 6) from hrow.2.2.2.2.2.2) ?_
  refine lv_istore Z.1 Z.2.1 md_Mod_deliver_62 hl (by decide) rfl (fun ls hl => ?_)
  have hl : lv_has ls 9 [(8, .int (nI (g 6))), (7, .int (nI (g 5))), (6, .int (nI (8 + c))), (5, .int (nI (g 3))), (4, .int (nI (g 2))), (3, .int (nI (s))), (2, .int (nI (1))), (0, .ref (ad (0, 0))), (1, .int (nI (j)))] := hl
  refine lv_aload_n Z.1 Z.2.1 md_Mod_deliver_64 rfl (lv_at hl 7 rfl) ?_
  refine lv_iload_n Z.1 Z.2.1 md_Mod_deliver_65 rfl (lv_at hl 8 rfl) ?_
  refine xw_cV (n := 1) (rest := []) Z hml hl.1 hN hw (r_takeOut l D ad cI cZ h hL hj) tb_g mc_Mod_takeOut mk_Mod_125 mi_Mod_takeOut ms_Mod_takeOut mz_Mod ⟨by decide, by decide, by decide +kernel⟩ ⟨Nat.le_of_ble_eq_true rfl, Nat.le_of_ble_eq_true rfl⟩ (by decide) (gm_e0 ad cI cZ _) rfl rfl rfl rfl (Nat.le_of_ble_eq_true rfl) ⟨Nat.le_refl _, Nat.le_refl _⟩ md_Mod_deliver_66 (fun M2 H2 locs2 ht hw => ?_)
  refine W.eq (g2 := F0 m 69 ls []) rfl ?_
  refine lv_aload_n Z.1 Z.2.1 md_Mod_deliver_69 rfl (lv_at hl 7 rfl) ?_
  refine xb_get (v := .ref (ad (3, 0))) Z hw (by decide) (gm_e0 ad cI cZ) rfl tb_iMod 3 (by decide) mk_Mod_7 rfl rfl md_Mod_deliver_70 ?_
  refine lv_iload Z.1 Z.2.1 md_Mod_deliver_73 (lv_at hl 2 rfl) ?_
  refine xw_zald Z hw (by decide) (gm_e3 ad cI cZ) 1 rfl (8 + c) rfl (by omega) (by omega) md_Mod_deliver_75 ?_
  refine xi_re (show M2 (3, 0) (8 + c) = nI (S.2 3 14 (8 + c) 0) from ht.2.2.1 (8 + c) (by omega)) ?_
  have l14 := I.2.2.2 (8 + c)
  refine xi_if_eq (tgt := 81) Z md_Mod_deliver_76 (by decide) (by omega) (fun h76 => ?_) (fun h76 => by exfalso; omega)
  refine lv_iload Z.1 Z.2.1 md_Mod_deliver_81 (lv_at hl 2 rfl) ?_
  refine lv_bipush (v := nI 8) Z.1 Z.2.1 md_Mod_deliver_83 (by decide) ?_
  refine xi_icmp_ge (tgt := 103) Z md_Mod_deliver_85 (by decide) (by omega) (by omega) (fun h85 => ?_) (fun h85 => by exfalso; omega)
  refine lv_iload Z.1 Z.2.1 md_Mod_deliver_103 (lv_at hl 2 rfl) ?_
  refine lv_bipush (v := nI 10) Z.1 Z.2.1 md_Mod_deliver_105 (by decide) ?_
  refine xi_icmp_ge (tgt := 129) Z md_Mod_deliver_107 (by decide) (by omega) (by omega) (fun h107 => by exfalso; omega) (fun h107 => ?_)
  refine lv_aload_n Z.1 Z.2.1 md_Mod_deliver_110 rfl (lv_at hl 7 rfl) ?_
  refine lv_iload Z.1 Z.2.1 md_Mod_deliver_111 (lv_at hl 2 rfl) ?_
  refine lv_iload_n Z.1 Z.2.1 md_Mod_deliver_113 rfl (lv_at hl 6 rfl) ?_
  refine lv_iload_n Z.1 Z.2.1 md_Mod_deliver_114 rfl (lv_at hl 5 rfl) ?_
  refine lv_iload Z.1 Z.2.1 md_Mod_deliver_115 (lv_at hl 4 rfl) ?_
  refine lv_iload Z.1 Z.2.1 md_Mod_deliver_117 (lv_at hl 3 rfl) ?_
  refine lv_iload Z.1 Z.2.1 md_Mod_deliver_119 (lv_at hl 1 rfl) ?_
  refine lv_iload Z.1 Z.2.1 md_Mod_deliver_121 (lv_at hl 0 rfl) ?_
  have m0 : 1 = 1 := rfl
  refine xw_cV (n := 7) (rest := []) Z hml hl.1 hN hw (r_coord1 (S := pz_rm S j) (r := g 2) (fr := g 3) (v := g 5) (ol := g 6) l D ad cI cZ hn ht hs hc Q IV hq5 hf5 Lr) tb_g mc_Mod_coordinate mk_Mod_133 mi_Mod_coordinate ms_Mod_coordinate mz_Mod ⟨by decide, by decide, by decide +kernel⟩ ⟨Nat.le_of_ble_eq_true rfl, Nat.le_of_ble_eq_true rfl⟩ (by decide) (gm_e0 ad cI cZ _) rfl rfl rfl rfl (Nat.le_of_ble_eq_true rfl) ⟨Nat.le_refl _, Nat.le_refl _⟩ md_Mod_deliver_123 (fun M3 H3 locs3 h9 hw => ?_)
  refine W.eq (g2 := F0 m 126 ls []) rfl ?_
  refine lv_goto (tgt := 140) Z.1 Z.2.1 md_Mod_deliver_126 (by decide) ?_
  refine lv_iload_n Z.1 Z.2.1 md_Mod_deliver_140 rfl (lv_at hl 6 rfl) ?_
  refine xw_iret Z hr hlk hw md_Mod_deliver_141 (congrArg nI (by omega)) ⟨pz_deliver_Inv Q I hg, ?_⟩
  unfold pz_hear
  rw [h4, if_neg (fun y => y hh), if_neg (by omega), if_pos (by omega), hs1, Nat.add_sub_cancel_left, hk]
  exact h9
set_option maxHeartbeats 4000000 in
theorem r_deliver_C3 (l : Launch) (D : va_G) (ad : Nat × Nat → Nat) (cI cZ : ClassId) {M : fr_M} {n q f : Nat} {S : pz_T} (hn : n ≤ 5) (hq5 : q ≤ 5) (hf5 : f ≤ 5) (Q : pz_Q n q f) (hI : gm_I n q f S M) {j s : Nat} {g : pz_M} (hg : S.1[j]? = some g) (hs1 : g 1 = s) {c : Nat} (hc : c < 2) (h4 : g 4 = 8 + c) (hh : S.2 3 14 (8 + c) 0 = 0) (hk : g 0 = 3) : gm_C l D ad cI cZ my_Mod_deliver mb_Mod_deliver 9 (some .int) 5 130 M [.ref (ad (0, 0)), .int (nI (j))] (some (.int (nI (g 0)))) (gm_I n q f (pz_hear n q f (pz_rm S j) g)) := by
  have h := hI.2
  have I := hI.1
  have hL := I.1
  have hj : j < S.1.length := (List.getElem?_eq_some_iff.mp hg).1
  have hrow := h.2.2.2.1 j g hg
  obtain ⟨hs0, hms⟩ := I.2.2.1 g (List.mem_of_getElem? hg)
  have hs : s < 3 := by omega
  rw [hs1] at hms
  have IV := I.2.1 s hs
  have cl := pz_ci_lt (g 2)
  have Lr := (pz_rm_Inv (i := j) I).1
  refine xw_start [.ref (ad (0, 0)), .int (nI (j))] (by decide) (Nat.le_of_ble_eq_true rfl) ?_
  intro p e st m below meth cd0 ls Z hml hr hlk hN hl hw
  have hl : lv_has ls 9 [(0, .ref (ad (0, 0))), (1, .int (nI (j)))] := hl
  refine lv_aload_n Z.1 Z.2.1 md_Mod_deliver_0 rfl (lv_at hl 0 rfl) ?_
  refine lv_iload_n Z.1 Z.2.1 md_Mod_deliver_1 rfl (lv_at hl 1 rfl) ?_
  refine xw_cV (n := 1) (rest := []) Z hml hl.1 hN hw (r_isMessage1 l D ad cI cZ (n := n) (q := q) (f := f) (M := M) hL h.2.1 hj) tb_g mc_Mod_isMessage mk_Mod_122 mi_Mod_isMessage ms_Mod_isMessage mz_Mod ⟨by decide, by decide, by decide +kernel⟩ ⟨Nat.le_of_ble_eq_true rfl, Nat.le_of_ble_eq_true rfl⟩ (by decide) (gm_e0 ad cI cZ _) rfl rfl rfl rfl (Nat.le_of_ble_eq_true rfl) ⟨Nat.le_refl _, Nat.le_refl _⟩ md_Mod_deliver_2 (fun M1 H1 locs1 e1 hw => ?_)
  have ey1 := e1.symm
  subst ey1
  refine W.eq (g2 := F0 m 5 ls [.int (nI (1))]) rfl ?_
  refine xi_if_ne (tgt := 10) Z md_Mod_deliver_5 (by decide) (by omega) (fun h5 => ?_) (fun h5 => by exfalso; omega)
  refine lv_aload_n Z.1 Z.2.1 md_Mod_deliver_10 rfl (lv_at hl 0 rfl) ?_
  refine xb_get (v := .ref (ad (6, 0))) Z hw (by decide) (gm_e0 ad cI cZ) rfl tb_iMod 6 (by decide) mk_Mod_13 rfl rfl md_Mod_deliver_11 ?_
  refine lv_iload_n Z.1 Z.2.1 md_Mod_deliver_14 rfl (lv_at hl 1 rfl) ?_
  refine xw_iald Z hw (by decide) (gm_e6 ad cI cZ) 0 rfl (j) rfl (by omega) (by omega) md_Mod_deliver_15 ?_
  refine xi_re (show M (6, 0) (j) = nI (3) from (by rw [hrow.1]; exact congrArg nI hk)) ?_
  refine lv_istore_n Z.1 Z.2.1 md_Mod_deliver_16 rfl hl (by decide) rfl (fun ls hl => ?_)
  have hl : lv_has ls 9 [(2, .int (nI (3))), (0, .ref (ad (0, 0))), (1, .int (nI (j)))] := hl
  refine lv_aload_n Z.1 Z.2.1 md_Mod_deliver_17 rfl (lv_at hl 1 rfl) ?_
  refine xb_get (v := .ref (ad (7, 0))) Z hw (by decide) (gm_e0 ad cI cZ) rfl tb_iMod 7 (by decide) mk_Mod_17 rfl rfl md_Mod_deliver_18 ?_
  refine lv_iload_n Z.1 Z.2.1 md_Mod_deliver_21 rfl (lv_at hl 2 rfl) ?_
  refine xw_iald Z hw (by decide) (gm_e7 ad cI cZ) 0 rfl (j) rfl (by omega) (by omega) md_Mod_deliver_22 ?_
  refine xi_re (show M (7, 0) (j) = nI (s) from (by rw [hrow.2.1]; exact congrArg nI hs1)) ?_
  refine lv_istore_n Z.1 Z.2.1 md_Mod_deliver_23 rfl hl (by decide) rfl (fun ls hl => ?_)
  have hl : lv_has ls 9 [(3, .int (nI (s))), (2, .int (nI (3))), (0, .ref (ad (0, 0))), (1, .int (nI (j)))] := hl
  refine lv_aload_n Z.1 Z.2.1 md_Mod_deliver_24 rfl (lv_at hl 2 rfl) ?_
  refine xb_get (v := .ref (ad (8, 0))) Z hw (by decide) (gm_e0 ad cI cZ) rfl tb_iMod 8 (by decide) mk_Mod_20 rfl rfl md_Mod_deliver_25 ?_
  refine lv_iload_n Z.1 Z.2.1 md_Mod_deliver_28 rfl (lv_at hl 3 rfl) ?_
  refine xw_iald Z hw (by decide) (gm_e8 ad cI cZ) 0 rfl (j) rfl (by omega) (by omega) md_Mod_deliver_29 ?_
  refine xi_re (show M (8, 0) (j) = nI (g 2) from hrow.2.2.1) ?_
  refine lv_istore Z.1 Z.2.1 md_Mod_deliver_30 hl (by decide) rfl (fun ls hl => ?_)
  have hl : lv_has ls 9 [(4, .int (nI (g 2))), (3, .int (nI (s))), (2, .int (nI (3))), (0, .ref (ad (0, 0))), (1, .int (nI (j)))] := hl
  refine lv_aload_n Z.1 Z.2.1 md_Mod_deliver_32 rfl (lv_at hl 3 rfl) ?_
  refine xb_get (v := .ref (ad (10, 0))) Z hw (by decide) (gm_e0 ad cI cZ) rfl tb_iMod 10 (by decide) mk_Mod_26 rfl rfl md_Mod_deliver_33 ?_
  refine lv_iload_n Z.1 Z.2.1 md_Mod_deliver_36 rfl (lv_at hl 4 rfl) ?_
  refine xw_iald Z hw (by decide) (gm_e10 ad cI cZ) 0 rfl (j) rfl (by omega) (by omega) md_Mod_deliver_37 ?_
  refine xi_re (show M (10, 0) (j) = nI (g 3) from hrow.2.2.2.2.1) ?_
  refine lv_istore Z.1 Z.2.1 md_Mod_deliver_38 hl (by decide) rfl (fun ls hl => ?_)
  have hl : lv_has ls 9 [(5, .int (nI (g 3))), (4, .int (nI (g 2))), (3, .int (nI (s))), (2, .int (nI (3))), (0, .ref (ad (0, 0))), (1, .int (nI (j)))] := hl
  refine lv_aload_n Z.1 Z.2.1 md_Mod_deliver_40 rfl (lv_at hl 4 rfl) ?_
  refine xb_get (v := .ref (ad (9, 0))) Z hw (by decide) (gm_e0 ad cI cZ) rfl tb_iMod 9 (by decide) mk_Mod_23 rfl rfl md_Mod_deliver_41 ?_
  refine lv_iload_n Z.1 Z.2.1 md_Mod_deliver_44 rfl (lv_at hl 5 rfl) ?_
  refine xw_iald Z hw (by decide) (gm_e9 ad cI cZ) 0 rfl (j) rfl (by omega) (by omega) md_Mod_deliver_45 ?_
  refine xi_re (show M (9, 0) (j) = nI (8 + c) from (by rw [hrow.2.2.2.1]; exact congrArg nI h4)) ?_
  refine lv_istore Z.1 Z.2.1 md_Mod_deliver_46 hl (by decide) rfl (fun ls hl => ?_)
  have hl : lv_has ls 9 [(6, .int (nI (8 + c))), (5, .int (nI (g 3))), (4, .int (nI (g 2))), (3, .int (nI (s))), (2, .int (nI (3))), (0, .ref (ad (0, 0))), (1, .int (nI (j)))] := hl
  refine lv_aload_n Z.1 Z.2.1 md_Mod_deliver_48 rfl (lv_at hl 5 rfl) ?_
  refine xb_get (v := .ref (ad (11, 0))) Z hw (by decide) (gm_e0 ad cI cZ) rfl tb_iMod 11 (by decide) mk_Mod_29 rfl rfl md_Mod_deliver_49 ?_
  refine lv_iload_n Z.1 Z.2.1 md_Mod_deliver_52 rfl (lv_at hl 6 rfl) ?_
  refine xw_iald Z hw (by decide) (gm_e11 ad cI cZ) 0 rfl (j) rfl (by omega) (by omega) md_Mod_deliver_53 ?_
  refine xi_re (show M (11, 0) (j) = nI (g 5) from hrow.2.2.2.2.2.1) ?_
  refine lv_istore Z.1 Z.2.1 md_Mod_deliver_54 hl (by decide) rfl (fun ls hl => ?_)
  have hl : lv_has ls 9 [(7, .int (nI (g 5))), (6, .int (nI (8 + c))), (5, .int (nI (g 3))), (4, .int (nI (g 2))), (3, .int (nI (s))), (2, .int (nI (3))), (0, .ref (ad (0, 0))), (1, .int (nI (j)))] := hl
  refine lv_aload_n Z.1 Z.2.1 md_Mod_deliver_56 rfl (lv_at hl 6 rfl) ?_
  refine xb_get (v := .ref (ad (12, 0))) Z hw (by decide) (gm_e0 ad cI cZ) rfl tb_iMod 12 (by decide) mk_Mod_32 rfl rfl md_Mod_deliver_57 ?_
  refine lv_iload_n Z.1 Z.2.1 md_Mod_deliver_60 rfl (lv_at hl 7 rfl) ?_
  refine xw_iald Z hw (by decide) (gm_e12 ad cI cZ) 0 rfl (j) rfl (by omega) (by omega) md_Mod_deliver_61 ?_
  refine xi_re (show M (12, 0) (j) = nI (g 6) from hrow.2.2.2.2.2.2) ?_
  refine lv_istore Z.1 Z.2.1 md_Mod_deliver_62 hl (by decide) rfl (fun ls hl => ?_)
  have hl : lv_has ls 9 [(8, .int (nI (g 6))), (7, .int (nI (g 5))), (6, .int (nI (8 + c))), (5, .int (nI (g 3))), (4, .int (nI (g 2))), (3, .int (nI (s))), (2, .int (nI (3))), (0, .ref (ad (0, 0))), (1, .int (nI (j)))] := hl
  refine lv_aload_n Z.1 Z.2.1 md_Mod_deliver_64 rfl (lv_at hl 7 rfl) ?_
  refine lv_iload_n Z.1 Z.2.1 md_Mod_deliver_65 rfl (lv_at hl 8 rfl) ?_
  refine xw_cV (n := 1) (rest := []) Z hml hl.1 hN hw (r_takeOut l D ad cI cZ h hL hj) tb_g mc_Mod_takeOut mk_Mod_125 mi_Mod_takeOut ms_Mod_takeOut mz_Mod ⟨by decide, by decide, by decide +kernel⟩ ⟨Nat.le_of_ble_eq_true rfl, Nat.le_of_ble_eq_true rfl⟩ (by decide) (gm_e0 ad cI cZ _) rfl rfl rfl rfl (Nat.le_of_ble_eq_true rfl) ⟨Nat.le_refl _, Nat.le_refl _⟩ md_Mod_deliver_66 (fun M2 H2 locs2 ht hw => ?_)
  refine W.eq (g2 := F0 m 69 ls []) rfl ?_
  refine lv_aload_n Z.1 Z.2.1 md_Mod_deliver_69 rfl (lv_at hl 7 rfl) ?_
  refine xb_get (v := .ref (ad (3, 0))) Z hw (by decide) (gm_e0 ad cI cZ) rfl tb_iMod 3 (by decide) mk_Mod_7 rfl rfl md_Mod_deliver_70 ?_
  refine lv_iload Z.1 Z.2.1 md_Mod_deliver_73 (lv_at hl 2 rfl) ?_
  refine xw_zald Z hw (by decide) (gm_e3 ad cI cZ) 1 rfl (8 + c) rfl (by omega) (by omega) md_Mod_deliver_75 ?_
  refine xi_re (show M2 (3, 0) (8 + c) = nI (S.2 3 14 (8 + c) 0) from ht.2.2.1 (8 + c) (by omega)) ?_
  have l14 := I.2.2.2 (8 + c)
  refine xi_if_eq (tgt := 81) Z md_Mod_deliver_76 (by decide) (by omega) (fun h76 => ?_) (fun h76 => by exfalso; omega)
  refine lv_iload Z.1 Z.2.1 md_Mod_deliver_81 (lv_at hl 2 rfl) ?_
  refine lv_bipush (v := nI 8) Z.1 Z.2.1 md_Mod_deliver_83 (by decide) ?_
  refine xi_icmp_ge (tgt := 103) Z md_Mod_deliver_85 (by decide) (by omega) (by omega) (fun h85 => ?_) (fun h85 => by exfalso; omega)
  refine lv_iload Z.1 Z.2.1 md_Mod_deliver_103 (lv_at hl 2 rfl) ?_
  refine lv_bipush (v := nI 10) Z.1 Z.2.1 md_Mod_deliver_105 (by decide) ?_
  refine xi_icmp_ge (tgt := 129) Z md_Mod_deliver_107 (by decide) (by omega) (by omega) (fun h107 => by exfalso; omega) (fun h107 => ?_)
  refine lv_aload_n Z.1 Z.2.1 md_Mod_deliver_110 rfl (lv_at hl 7 rfl) ?_
  refine lv_iload Z.1 Z.2.1 md_Mod_deliver_111 (lv_at hl 2 rfl) ?_
  refine lv_iload_n Z.1 Z.2.1 md_Mod_deliver_113 rfl (lv_at hl 6 rfl) ?_
  refine lv_iload_n Z.1 Z.2.1 md_Mod_deliver_114 rfl (lv_at hl 5 rfl) ?_
  refine lv_iload Z.1 Z.2.1 md_Mod_deliver_115 (lv_at hl 4 rfl) ?_
  refine lv_iload Z.1 Z.2.1 md_Mod_deliver_117 (lv_at hl 3 rfl) ?_
  refine lv_iload Z.1 Z.2.1 md_Mod_deliver_119 (lv_at hl 1 rfl) ?_
  refine lv_iload Z.1 Z.2.1 md_Mod_deliver_121 (lv_at hl 0 rfl) ?_
  obtain ⟨m1, m2, m3, m4⟩ : 1 ≤ g 2 ∧ g 2 ≤ 12 ∧ g 3 < n ∧ pz_PF (S.2 s) (g 2) (g 3) (g 5) (g 6) := by
    rcases hms with ⟨a, _⟩ | ⟨a, _⟩ | ⟨_, a, b, d, _, _, e⟩ | ⟨a, _⟩ | ⟨a, _⟩
    · omega
    · omega
    · exact ⟨a, b, d, e⟩
    all_goals omega
  refine xw_cV (n := 7) (rest := []) Z hml hl.1 hN hw (r_coord3 (S := pz_rm S j) (r := g 2) (fr := g 3) (v := g 5) (ol := g 6) l D ad cI cZ hn ht hs hc Q IV hq5 hf5 Lr m3 (by omega) m4) tb_g mc_Mod_coordinate mk_Mod_133 mi_Mod_coordinate ms_Mod_coordinate mz_Mod ⟨by decide, by decide, by decide +kernel⟩ ⟨Nat.le_of_ble_eq_true rfl, Nat.le_of_ble_eq_true rfl⟩ (by decide) (gm_e0 ad cI cZ _) rfl rfl rfl rfl (Nat.le_of_ble_eq_true rfl) ⟨Nat.le_refl _, Nat.le_refl _⟩ md_Mod_deliver_123 (fun M3 H3 locs3 h9 hw => ?_)
  refine W.eq (g2 := F0 m 126 ls []) rfl ?_
  refine lv_goto (tgt := 140) Z.1 Z.2.1 md_Mod_deliver_126 (by decide) ?_
  refine lv_iload_n Z.1 Z.2.1 md_Mod_deliver_140 rfl (lv_at hl 6 rfl) ?_
  refine xw_iret Z hr hlk hw md_Mod_deliver_141 (congrArg nI (by omega)) ⟨pz_deliver_Inv Q I hg, ?_⟩
  unfold pz_hear
  rw [h4, if_neg (fun y => y hh), if_neg (by omega), if_pos (by omega), hs1, Nat.add_sub_cancel_left, hk]
  exact h9
set_option maxHeartbeats 4000000 in
theorem r_deliver_C5 (l : Launch) (D : va_G) (ad : Nat × Nat → Nat) (cI cZ : ClassId) {M : fr_M} {n q f : Nat} {S : pz_T} (hn : n ≤ 5) (hq5 : q ≤ 5) (hf5 : f ≤ 5) (Q : pz_Q n q f) (hI : gm_I n q f S M) {j s : Nat} {g : pz_M} (hg : S.1[j]? = some g) (hs1 : g 1 = s) {c : Nat} (hc : c < 2) (h4 : g 4 = 8 + c) (hh : S.2 3 14 (8 + c) 0 = 0) (hk : g 0 = 5) : gm_C l D ad cI cZ my_Mod_deliver mb_Mod_deliver 9 (some .int) 5 130 M [.ref (ad (0, 0)), .int (nI (j))] (some (.int (nI (g 0)))) (gm_I n q f (pz_hear n q f (pz_rm S j) g)) := by
  have h := hI.2
  have I := hI.1
  have hL := I.1
  have hj : j < S.1.length := (List.getElem?_eq_some_iff.mp hg).1
  have hrow := h.2.2.2.1 j g hg
  obtain ⟨hs0, hms⟩ := I.2.2.1 g (List.mem_of_getElem? hg)
  have hs : s < 3 := by omega
  rw [hs1] at hms
  have IV := I.2.1 s hs
  have cl := pz_ci_lt (g 2)
  have Lr := (pz_rm_Inv (i := j) I).1
  refine xw_start [.ref (ad (0, 0)), .int (nI (j))] (by decide) (Nat.le_of_ble_eq_true rfl) ?_
  intro p e st m below meth cd0 ls Z hml hr hlk hN hl hw
  have hl : lv_has ls 9 [(0, .ref (ad (0, 0))), (1, .int (nI (j)))] := hl
  refine lv_aload_n Z.1 Z.2.1 md_Mod_deliver_0 rfl (lv_at hl 0 rfl) ?_
  refine lv_iload_n Z.1 Z.2.1 md_Mod_deliver_1 rfl (lv_at hl 1 rfl) ?_
  refine xw_cV (n := 1) (rest := []) Z hml hl.1 hN hw (r_isMessage1 l D ad cI cZ (n := n) (q := q) (f := f) (M := M) hL h.2.1 hj) tb_g mc_Mod_isMessage mk_Mod_122 mi_Mod_isMessage ms_Mod_isMessage mz_Mod ⟨by decide, by decide, by decide +kernel⟩ ⟨Nat.le_of_ble_eq_true rfl, Nat.le_of_ble_eq_true rfl⟩ (by decide) (gm_e0 ad cI cZ _) rfl rfl rfl rfl (Nat.le_of_ble_eq_true rfl) ⟨Nat.le_refl _, Nat.le_refl _⟩ md_Mod_deliver_2 (fun M1 H1 locs1 e1 hw => ?_)
  have ey1 := e1.symm
  subst ey1
  refine W.eq (g2 := F0 m 5 ls [.int (nI (1))]) rfl ?_
  refine xi_if_ne (tgt := 10) Z md_Mod_deliver_5 (by decide) (by omega) (fun h5 => ?_) (fun h5 => by exfalso; omega)
  refine lv_aload_n Z.1 Z.2.1 md_Mod_deliver_10 rfl (lv_at hl 0 rfl) ?_
  refine xb_get (v := .ref (ad (6, 0))) Z hw (by decide) (gm_e0 ad cI cZ) rfl tb_iMod 6 (by decide) mk_Mod_13 rfl rfl md_Mod_deliver_11 ?_
  refine lv_iload_n Z.1 Z.2.1 md_Mod_deliver_14 rfl (lv_at hl 1 rfl) ?_
  refine xw_iald Z hw (by decide) (gm_e6 ad cI cZ) 0 rfl (j) rfl (by omega) (by omega) md_Mod_deliver_15 ?_
  refine xi_re (show M (6, 0) (j) = nI (5) from (by rw [hrow.1]; exact congrArg nI hk)) ?_
  refine lv_istore_n Z.1 Z.2.1 md_Mod_deliver_16 rfl hl (by decide) rfl (fun ls hl => ?_)
  have hl : lv_has ls 9 [(2, .int (nI (5))), (0, .ref (ad (0, 0))), (1, .int (nI (j)))] := hl
  refine lv_aload_n Z.1 Z.2.1 md_Mod_deliver_17 rfl (lv_at hl 1 rfl) ?_
  refine xb_get (v := .ref (ad (7, 0))) Z hw (by decide) (gm_e0 ad cI cZ) rfl tb_iMod 7 (by decide) mk_Mod_17 rfl rfl md_Mod_deliver_18 ?_
  refine lv_iload_n Z.1 Z.2.1 md_Mod_deliver_21 rfl (lv_at hl 2 rfl) ?_
  refine xw_iald Z hw (by decide) (gm_e7 ad cI cZ) 0 rfl (j) rfl (by omega) (by omega) md_Mod_deliver_22 ?_
  refine xi_re (show M (7, 0) (j) = nI (s) from (by rw [hrow.2.1]; exact congrArg nI hs1)) ?_
  refine lv_istore_n Z.1 Z.2.1 md_Mod_deliver_23 rfl hl (by decide) rfl (fun ls hl => ?_)
  have hl : lv_has ls 9 [(3, .int (nI (s))), (2, .int (nI (5))), (0, .ref (ad (0, 0))), (1, .int (nI (j)))] := hl
  refine lv_aload_n Z.1 Z.2.1 md_Mod_deliver_24 rfl (lv_at hl 2 rfl) ?_
  refine xb_get (v := .ref (ad (8, 0))) Z hw (by decide) (gm_e0 ad cI cZ) rfl tb_iMod 8 (by decide) mk_Mod_20 rfl rfl md_Mod_deliver_25 ?_
  refine lv_iload_n Z.1 Z.2.1 md_Mod_deliver_28 rfl (lv_at hl 3 rfl) ?_
  refine xw_iald Z hw (by decide) (gm_e8 ad cI cZ) 0 rfl (j) rfl (by omega) (by omega) md_Mod_deliver_29 ?_
  refine xi_re (show M (8, 0) (j) = nI (g 2) from hrow.2.2.1) ?_
  refine lv_istore Z.1 Z.2.1 md_Mod_deliver_30 hl (by decide) rfl (fun ls hl => ?_)
  have hl : lv_has ls 9 [(4, .int (nI (g 2))), (3, .int (nI (s))), (2, .int (nI (5))), (0, .ref (ad (0, 0))), (1, .int (nI (j)))] := hl
  refine lv_aload_n Z.1 Z.2.1 md_Mod_deliver_32 rfl (lv_at hl 3 rfl) ?_
  refine xb_get (v := .ref (ad (10, 0))) Z hw (by decide) (gm_e0 ad cI cZ) rfl tb_iMod 10 (by decide) mk_Mod_26 rfl rfl md_Mod_deliver_33 ?_
  refine lv_iload_n Z.1 Z.2.1 md_Mod_deliver_36 rfl (lv_at hl 4 rfl) ?_
  refine xw_iald Z hw (by decide) (gm_e10 ad cI cZ) 0 rfl (j) rfl (by omega) (by omega) md_Mod_deliver_37 ?_
  refine xi_re (show M (10, 0) (j) = nI (g 3) from hrow.2.2.2.2.1) ?_
  refine lv_istore Z.1 Z.2.1 md_Mod_deliver_38 hl (by decide) rfl (fun ls hl => ?_)
  have hl : lv_has ls 9 [(5, .int (nI (g 3))), (4, .int (nI (g 2))), (3, .int (nI (s))), (2, .int (nI (5))), (0, .ref (ad (0, 0))), (1, .int (nI (j)))] := hl
  refine lv_aload_n Z.1 Z.2.1 md_Mod_deliver_40 rfl (lv_at hl 4 rfl) ?_
  refine xb_get (v := .ref (ad (9, 0))) Z hw (by decide) (gm_e0 ad cI cZ) rfl tb_iMod 9 (by decide) mk_Mod_23 rfl rfl md_Mod_deliver_41 ?_
  refine lv_iload_n Z.1 Z.2.1 md_Mod_deliver_44 rfl (lv_at hl 5 rfl) ?_
  refine xw_iald Z hw (by decide) (gm_e9 ad cI cZ) 0 rfl (j) rfl (by omega) (by omega) md_Mod_deliver_45 ?_
  refine xi_re (show M (9, 0) (j) = nI (8 + c) from (by rw [hrow.2.2.2.1]; exact congrArg nI h4)) ?_
  refine lv_istore Z.1 Z.2.1 md_Mod_deliver_46 hl (by decide) rfl (fun ls hl => ?_)
  have hl : lv_has ls 9 [(6, .int (nI (8 + c))), (5, .int (nI (g 3))), (4, .int (nI (g 2))), (3, .int (nI (s))), (2, .int (nI (5))), (0, .ref (ad (0, 0))), (1, .int (nI (j)))] := hl
  refine lv_aload_n Z.1 Z.2.1 md_Mod_deliver_48 rfl (lv_at hl 5 rfl) ?_
  refine xb_get (v := .ref (ad (11, 0))) Z hw (by decide) (gm_e0 ad cI cZ) rfl tb_iMod 11 (by decide) mk_Mod_29 rfl rfl md_Mod_deliver_49 ?_
  refine lv_iload_n Z.1 Z.2.1 md_Mod_deliver_52 rfl (lv_at hl 6 rfl) ?_
  refine xw_iald Z hw (by decide) (gm_e11 ad cI cZ) 0 rfl (j) rfl (by omega) (by omega) md_Mod_deliver_53 ?_
  refine xi_re (show M (11, 0) (j) = nI (g 5) from hrow.2.2.2.2.2.1) ?_
  refine lv_istore Z.1 Z.2.1 md_Mod_deliver_54 hl (by decide) rfl (fun ls hl => ?_)
  have hl : lv_has ls 9 [(7, .int (nI (g 5))), (6, .int (nI (8 + c))), (5, .int (nI (g 3))), (4, .int (nI (g 2))), (3, .int (nI (s))), (2, .int (nI (5))), (0, .ref (ad (0, 0))), (1, .int (nI (j)))] := hl
  refine lv_aload_n Z.1 Z.2.1 md_Mod_deliver_56 rfl (lv_at hl 6 rfl) ?_
  refine xb_get (v := .ref (ad (12, 0))) Z hw (by decide) (gm_e0 ad cI cZ) rfl tb_iMod 12 (by decide) mk_Mod_32 rfl rfl md_Mod_deliver_57 ?_
  refine lv_iload_n Z.1 Z.2.1 md_Mod_deliver_60 rfl (lv_at hl 7 rfl) ?_
  refine xw_iald Z hw (by decide) (gm_e12 ad cI cZ) 0 rfl (j) rfl (by omega) (by omega) md_Mod_deliver_61 ?_
  refine xi_re (show M (12, 0) (j) = nI (g 6) from hrow.2.2.2.2.2.2) ?_
  refine lv_istore Z.1 Z.2.1 md_Mod_deliver_62 hl (by decide) rfl (fun ls hl => ?_)
  have hl : lv_has ls 9 [(8, .int (nI (g 6))), (7, .int (nI (g 5))), (6, .int (nI (8 + c))), (5, .int (nI (g 3))), (4, .int (nI (g 2))), (3, .int (nI (s))), (2, .int (nI (5))), (0, .ref (ad (0, 0))), (1, .int (nI (j)))] := hl
  refine lv_aload_n Z.1 Z.2.1 md_Mod_deliver_64 rfl (lv_at hl 7 rfl) ?_
  refine lv_iload_n Z.1 Z.2.1 md_Mod_deliver_65 rfl (lv_at hl 8 rfl) ?_
  refine xw_cV (n := 1) (rest := []) Z hml hl.1 hN hw (r_takeOut l D ad cI cZ h hL hj) tb_g mc_Mod_takeOut mk_Mod_125 mi_Mod_takeOut ms_Mod_takeOut mz_Mod ⟨by decide, by decide, by decide +kernel⟩ ⟨Nat.le_of_ble_eq_true rfl, Nat.le_of_ble_eq_true rfl⟩ (by decide) (gm_e0 ad cI cZ _) rfl rfl rfl rfl (Nat.le_of_ble_eq_true rfl) ⟨Nat.le_refl _, Nat.le_refl _⟩ md_Mod_deliver_66 (fun M2 H2 locs2 ht hw => ?_)
  refine W.eq (g2 := F0 m 69 ls []) rfl ?_
  refine lv_aload_n Z.1 Z.2.1 md_Mod_deliver_69 rfl (lv_at hl 7 rfl) ?_
  refine xb_get (v := .ref (ad (3, 0))) Z hw (by decide) (gm_e0 ad cI cZ) rfl tb_iMod 3 (by decide) mk_Mod_7 rfl rfl md_Mod_deliver_70 ?_
  refine lv_iload Z.1 Z.2.1 md_Mod_deliver_73 (lv_at hl 2 rfl) ?_
  refine xw_zald Z hw (by decide) (gm_e3 ad cI cZ) 1 rfl (8 + c) rfl (by omega) (by omega) md_Mod_deliver_75 ?_
  refine xi_re (show M2 (3, 0) (8 + c) = nI (S.2 3 14 (8 + c) 0) from ht.2.2.1 (8 + c) (by omega)) ?_
  have l14 := I.2.2.2 (8 + c)
  refine xi_if_eq (tgt := 81) Z md_Mod_deliver_76 (by decide) (by omega) (fun h76 => ?_) (fun h76 => by exfalso; omega)
  refine lv_iload Z.1 Z.2.1 md_Mod_deliver_81 (lv_at hl 2 rfl) ?_
  refine lv_bipush (v := nI 8) Z.1 Z.2.1 md_Mod_deliver_83 (by decide) ?_
  refine xi_icmp_ge (tgt := 103) Z md_Mod_deliver_85 (by decide) (by omega) (by omega) (fun h85 => ?_) (fun h85 => by exfalso; omega)
  refine lv_iload Z.1 Z.2.1 md_Mod_deliver_103 (lv_at hl 2 rfl) ?_
  refine lv_bipush (v := nI 10) Z.1 Z.2.1 md_Mod_deliver_105 (by decide) ?_
  refine xi_icmp_ge (tgt := 129) Z md_Mod_deliver_107 (by decide) (by omega) (by omega) (fun h107 => by exfalso; omega) (fun h107 => ?_)
  refine lv_aload_n Z.1 Z.2.1 md_Mod_deliver_110 rfl (lv_at hl 7 rfl) ?_
  refine lv_iload Z.1 Z.2.1 md_Mod_deliver_111 (lv_at hl 2 rfl) ?_
  refine lv_iload_n Z.1 Z.2.1 md_Mod_deliver_113 rfl (lv_at hl 6 rfl) ?_
  refine lv_iload_n Z.1 Z.2.1 md_Mod_deliver_114 rfl (lv_at hl 5 rfl) ?_
  refine lv_iload Z.1 Z.2.1 md_Mod_deliver_115 (lv_at hl 4 rfl) ?_
  refine lv_iload Z.1 Z.2.1 md_Mod_deliver_117 (lv_at hl 3 rfl) ?_
  refine lv_iload Z.1 Z.2.1 md_Mod_deliver_119 (lv_at hl 1 rfl) ?_
  refine lv_iload Z.1 Z.2.1 md_Mod_deliver_121 (lv_at hl 0 rfl) ?_
  obtain ⟨m1, m2, m3, m4, m5⟩ : 1 ≤ g 2 ∧ g 2 ≤ 12 ∧ g 3 < n ∧ g 5 ≤ 1000 ∧ g 5 ≠ 0 := by
    rcases hms with ⟨a, _⟩ | ⟨a, _⟩ | ⟨a, _⟩ | ⟨a, _⟩ | ⟨_, a, b, d, _, z, _, y⟩
    · omega
    · omega
    · omega
    · omega
    · exact ⟨a, b, d, z, y⟩
  refine xw_cV (n := 7) (rest := []) Z hml hl.1 hN hw (r_coord5 (S := pz_rm S j) (r := g 2) (fr := g 3) (v := g 5) (ol := g 6) l D ad cI cZ hn ht hs hc Q IV hq5 hf5 Lr m3 (by omega) m5 m4) tb_g mc_Mod_coordinate mk_Mod_133 mi_Mod_coordinate ms_Mod_coordinate mz_Mod ⟨by decide, by decide, by decide +kernel⟩ ⟨Nat.le_of_ble_eq_true rfl, Nat.le_of_ble_eq_true rfl⟩ (by decide) (gm_e0 ad cI cZ _) rfl rfl rfl rfl (Nat.le_of_ble_eq_true rfl) ⟨Nat.le_refl _, Nat.le_refl _⟩ md_Mod_deliver_123 (fun M3 H3 locs3 h9 hw => ?_)
  refine W.eq (g2 := F0 m 126 ls []) rfl ?_
  refine lv_goto (tgt := 140) Z.1 Z.2.1 md_Mod_deliver_126 (by decide) ?_
  refine lv_iload_n Z.1 Z.2.1 md_Mod_deliver_140 rfl (lv_at hl 6 rfl) ?_
  refine xw_iret Z hr hlk hw md_Mod_deliver_141 (congrArg nI (by omega)) ⟨pz_deliver_Inv Q I hg, ?_⟩
  unfold pz_hear
  rw [h4, if_neg (fun y => y hh), if_neg (by omega), if_pos (by omega), hs1, Nat.add_sub_cancel_left, hk]
  exact h9
set_option maxHeartbeats 4000000 in
theorem r_deliver_A1 (l : Launch) (D : va_G) (ad : Nat × Nat → Nat) (cI cZ : ClassId) {M : fr_M} {n q f : Nat} {S : pz_T} (hn : n ≤ 5) (hq5 : q ≤ 5) (hf5 : f ≤ 5) (Q : pz_Q n q f) (hI : gm_I n q f S M) {j s : Nat} {g : pz_M} (hg : S.1[j]? = some g) (hs1 : g 1 = s) {a : Nat} (ha : a < n) (h4 : g 4 = a) (hh : S.2 3 14 a 0 = 0) (hk : g 0 = 1) : gm_C l D ad cI cZ my_Mod_deliver mb_Mod_deliver 9 (some .int) 5 130 M [.ref (ad (0, 0)), .int (nI (j))] (some (.int (nI (g 0)))) (gm_I n q f (pz_hear n q f (pz_rm S j) g)) := by
  have h := hI.2
  have I := hI.1
  have hL := I.1
  have hj : j < S.1.length := (List.getElem?_eq_some_iff.mp hg).1
  have hrow := h.2.2.2.1 j g hg
  obtain ⟨hs0, hms⟩ := I.2.2.1 g (List.mem_of_getElem? hg)
  have hs : s < 3 := by omega
  rw [hs1] at hms
  have IV := I.2.1 s hs
  have cl := pz_ci_lt (g 2)
  have Lr := (pz_rm_Inv (i := j) I).1
  refine xw_start [.ref (ad (0, 0)), .int (nI (j))] (by decide) (Nat.le_of_ble_eq_true rfl) ?_
  intro p e st m below meth cd0 ls Z hml hr hlk hN hl hw
  have hl : lv_has ls 9 [(0, .ref (ad (0, 0))), (1, .int (nI (j)))] := hl
  refine lv_aload_n Z.1 Z.2.1 md_Mod_deliver_0 rfl (lv_at hl 0 rfl) ?_
  refine lv_iload_n Z.1 Z.2.1 md_Mod_deliver_1 rfl (lv_at hl 1 rfl) ?_
  refine xw_cV (n := 1) (rest := []) Z hml hl.1 hN hw (r_isMessage1 l D ad cI cZ (n := n) (q := q) (f := f) (M := M) hL h.2.1 hj) tb_g mc_Mod_isMessage mk_Mod_122 mi_Mod_isMessage ms_Mod_isMessage mz_Mod ⟨by decide, by decide, by decide +kernel⟩ ⟨Nat.le_of_ble_eq_true rfl, Nat.le_of_ble_eq_true rfl⟩ (by decide) (gm_e0 ad cI cZ _) rfl rfl rfl rfl (Nat.le_of_ble_eq_true rfl) ⟨Nat.le_refl _, Nat.le_refl _⟩ md_Mod_deliver_2 (fun M1 H1 locs1 e1 hw => ?_)
  have ey1 := e1.symm
  subst ey1
  refine W.eq (g2 := F0 m 5 ls [.int (nI (1))]) rfl ?_
  refine xi_if_ne (tgt := 10) Z md_Mod_deliver_5 (by decide) (by omega) (fun h5 => ?_) (fun h5 => by exfalso; omega)
  refine lv_aload_n Z.1 Z.2.1 md_Mod_deliver_10 rfl (lv_at hl 0 rfl) ?_
  refine xb_get (v := .ref (ad (6, 0))) Z hw (by decide) (gm_e0 ad cI cZ) rfl tb_iMod 6 (by decide) mk_Mod_13 rfl rfl md_Mod_deliver_11 ?_
  refine lv_iload_n Z.1 Z.2.1 md_Mod_deliver_14 rfl (lv_at hl 1 rfl) ?_
  refine xw_iald Z hw (by decide) (gm_e6 ad cI cZ) 0 rfl (j) rfl (by omega) (by omega) md_Mod_deliver_15 ?_
  refine xi_re (show M (6, 0) (j) = nI (1) from (by rw [hrow.1]; exact congrArg nI hk)) ?_
  refine lv_istore_n Z.1 Z.2.1 md_Mod_deliver_16 rfl hl (by decide) rfl (fun ls hl => ?_)
  have hl : lv_has ls 9 [(2, .int (nI (1))), (0, .ref (ad (0, 0))), (1, .int (nI (j)))] := hl
  refine lv_aload_n Z.1 Z.2.1 md_Mod_deliver_17 rfl (lv_at hl 1 rfl) ?_
  refine xb_get (v := .ref (ad (7, 0))) Z hw (by decide) (gm_e0 ad cI cZ) rfl tb_iMod 7 (by decide) mk_Mod_17 rfl rfl md_Mod_deliver_18 ?_
  refine lv_iload_n Z.1 Z.2.1 md_Mod_deliver_21 rfl (lv_at hl 2 rfl) ?_
  refine xw_iald Z hw (by decide) (gm_e7 ad cI cZ) 0 rfl (j) rfl (by omega) (by omega) md_Mod_deliver_22 ?_
  refine xi_re (show M (7, 0) (j) = nI (s) from (by rw [hrow.2.1]; exact congrArg nI hs1)) ?_
  refine lv_istore_n Z.1 Z.2.1 md_Mod_deliver_23 rfl hl (by decide) rfl (fun ls hl => ?_)
  have hl : lv_has ls 9 [(3, .int (nI (s))), (2, .int (nI (1))), (0, .ref (ad (0, 0))), (1, .int (nI (j)))] := hl
  refine lv_aload_n Z.1 Z.2.1 md_Mod_deliver_24 rfl (lv_at hl 2 rfl) ?_
  refine xb_get (v := .ref (ad (8, 0))) Z hw (by decide) (gm_e0 ad cI cZ) rfl tb_iMod 8 (by decide) mk_Mod_20 rfl rfl md_Mod_deliver_25 ?_
  refine lv_iload_n Z.1 Z.2.1 md_Mod_deliver_28 rfl (lv_at hl 3 rfl) ?_
  refine xw_iald Z hw (by decide) (gm_e8 ad cI cZ) 0 rfl (j) rfl (by omega) (by omega) md_Mod_deliver_29 ?_
  refine xi_re (show M (8, 0) (j) = nI (g 2) from hrow.2.2.1) ?_
  refine lv_istore Z.1 Z.2.1 md_Mod_deliver_30 hl (by decide) rfl (fun ls hl => ?_)
  have hl : lv_has ls 9 [(4, .int (nI (g 2))), (3, .int (nI (s))), (2, .int (nI (1))), (0, .ref (ad (0, 0))), (1, .int (nI (j)))] := hl
  refine lv_aload_n Z.1 Z.2.1 md_Mod_deliver_32 rfl (lv_at hl 3 rfl) ?_
  refine xb_get (v := .ref (ad (10, 0))) Z hw (by decide) (gm_e0 ad cI cZ) rfl tb_iMod 10 (by decide) mk_Mod_26 rfl rfl md_Mod_deliver_33 ?_
  refine lv_iload_n Z.1 Z.2.1 md_Mod_deliver_36 rfl (lv_at hl 4 rfl) ?_
  refine xw_iald Z hw (by decide) (gm_e10 ad cI cZ) 0 rfl (j) rfl (by omega) (by omega) md_Mod_deliver_37 ?_
  refine xi_re (show M (10, 0) (j) = nI (g 3) from hrow.2.2.2.2.1) ?_
  refine lv_istore Z.1 Z.2.1 md_Mod_deliver_38 hl (by decide) rfl (fun ls hl => ?_)
  have hl : lv_has ls 9 [(5, .int (nI (g 3))), (4, .int (nI (g 2))), (3, .int (nI (s))), (2, .int (nI (1))), (0, .ref (ad (0, 0))), (1, .int (nI (j)))] := hl
  refine lv_aload_n Z.1 Z.2.1 md_Mod_deliver_40 rfl (lv_at hl 4 rfl) ?_
  refine xb_get (v := .ref (ad (9, 0))) Z hw (by decide) (gm_e0 ad cI cZ) rfl tb_iMod 9 (by decide) mk_Mod_23 rfl rfl md_Mod_deliver_41 ?_
  refine lv_iload_n Z.1 Z.2.1 md_Mod_deliver_44 rfl (lv_at hl 5 rfl) ?_
  refine xw_iald Z hw (by decide) (gm_e9 ad cI cZ) 0 rfl (j) rfl (by omega) (by omega) md_Mod_deliver_45 ?_
  refine xi_re (show M (9, 0) (j) = nI (a) from (by rw [hrow.2.2.2.1]; exact congrArg nI h4)) ?_
  refine lv_istore Z.1 Z.2.1 md_Mod_deliver_46 hl (by decide) rfl (fun ls hl => ?_)
  have hl : lv_has ls 9 [(6, .int (nI (a))), (5, .int (nI (g 3))), (4, .int (nI (g 2))), (3, .int (nI (s))), (2, .int (nI (1))), (0, .ref (ad (0, 0))), (1, .int (nI (j)))] := hl
  refine lv_aload_n Z.1 Z.2.1 md_Mod_deliver_48 rfl (lv_at hl 5 rfl) ?_
  refine xb_get (v := .ref (ad (11, 0))) Z hw (by decide) (gm_e0 ad cI cZ) rfl tb_iMod 11 (by decide) mk_Mod_29 rfl rfl md_Mod_deliver_49 ?_
  refine lv_iload_n Z.1 Z.2.1 md_Mod_deliver_52 rfl (lv_at hl 6 rfl) ?_
  refine xw_iald Z hw (by decide) (gm_e11 ad cI cZ) 0 rfl (j) rfl (by omega) (by omega) md_Mod_deliver_53 ?_
  refine xi_re (show M (11, 0) (j) = nI (g 5) from hrow.2.2.2.2.2.1) ?_
  refine lv_istore Z.1 Z.2.1 md_Mod_deliver_54 hl (by decide) rfl (fun ls hl => ?_)
  have hl : lv_has ls 9 [(7, .int (nI (g 5))), (6, .int (nI (a))), (5, .int (nI (g 3))), (4, .int (nI (g 2))), (3, .int (nI (s))), (2, .int (nI (1))), (0, .ref (ad (0, 0))), (1, .int (nI (j)))] := hl
  refine lv_aload_n Z.1 Z.2.1 md_Mod_deliver_56 rfl (lv_at hl 6 rfl) ?_
  refine xb_get (v := .ref (ad (12, 0))) Z hw (by decide) (gm_e0 ad cI cZ) rfl tb_iMod 12 (by decide) mk_Mod_32 rfl rfl md_Mod_deliver_57 ?_
  refine lv_iload_n Z.1 Z.2.1 md_Mod_deliver_60 rfl (lv_at hl 7 rfl) ?_
  refine xw_iald Z hw (by decide) (gm_e12 ad cI cZ) 0 rfl (j) rfl (by omega) (by omega) md_Mod_deliver_61 ?_
  refine xi_re (show M (12, 0) (j) = nI (g 6) from hrow.2.2.2.2.2.2) ?_
  refine lv_istore Z.1 Z.2.1 md_Mod_deliver_62 hl (by decide) rfl (fun ls hl => ?_)
  have hl : lv_has ls 9 [(8, .int (nI (g 6))), (7, .int (nI (g 5))), (6, .int (nI (a))), (5, .int (nI (g 3))), (4, .int (nI (g 2))), (3, .int (nI (s))), (2, .int (nI (1))), (0, .ref (ad (0, 0))), (1, .int (nI (j)))] := hl
  refine lv_aload_n Z.1 Z.2.1 md_Mod_deliver_64 rfl (lv_at hl 7 rfl) ?_
  refine lv_iload_n Z.1 Z.2.1 md_Mod_deliver_65 rfl (lv_at hl 8 rfl) ?_
  refine xw_cV (n := 1) (rest := []) Z hml hl.1 hN hw (r_takeOut l D ad cI cZ h hL hj) tb_g mc_Mod_takeOut mk_Mod_125 mi_Mod_takeOut ms_Mod_takeOut mz_Mod ⟨by decide, by decide, by decide +kernel⟩ ⟨Nat.le_of_ble_eq_true rfl, Nat.le_of_ble_eq_true rfl⟩ (by decide) (gm_e0 ad cI cZ _) rfl rfl rfl rfl (Nat.le_of_ble_eq_true rfl) ⟨Nat.le_refl _, Nat.le_refl _⟩ md_Mod_deliver_66 (fun M2 H2 locs2 ht hw => ?_)
  refine W.eq (g2 := F0 m 69 ls []) rfl ?_
  refine lv_aload_n Z.1 Z.2.1 md_Mod_deliver_69 rfl (lv_at hl 7 rfl) ?_
  refine xb_get (v := .ref (ad (3, 0))) Z hw (by decide) (gm_e0 ad cI cZ) rfl tb_iMod 3 (by decide) mk_Mod_7 rfl rfl md_Mod_deliver_70 ?_
  refine lv_iload Z.1 Z.2.1 md_Mod_deliver_73 (lv_at hl 2 rfl) ?_
  refine xw_zald Z hw (by decide) (gm_e3 ad cI cZ) 1 rfl (a) rfl (by omega) (by omega) md_Mod_deliver_75 ?_
  refine xi_re (show M2 (3, 0) (a) = nI (S.2 3 14 (a) 0) from ht.2.2.1 (a) (by omega)) ?_
  have l14 := I.2.2.2 (a)
  refine xi_if_eq (tgt := 81) Z md_Mod_deliver_76 (by decide) (by omega) (fun h76 => ?_) (fun h76 => by exfalso; omega)
  refine lv_iload Z.1 Z.2.1 md_Mod_deliver_81 (lv_at hl 2 rfl) ?_
  refine lv_bipush (v := nI 8) Z.1 Z.2.1 md_Mod_deliver_83 (by decide) ?_
  refine xi_icmp_ge (tgt := 103) Z md_Mod_deliver_85 (by decide) (by omega) (by omega) (fun h85 => by exfalso; omega) (fun h85 => ?_)
  refine lv_aload_n Z.1 Z.2.1 md_Mod_deliver_88 rfl (lv_at hl 7 rfl) ?_
  refine lv_iload Z.1 Z.2.1 md_Mod_deliver_89 (lv_at hl 2 rfl) ?_
  refine lv_iload_n Z.1 Z.2.1 md_Mod_deliver_91 rfl (lv_at hl 6 rfl) ?_
  refine lv_iload_n Z.1 Z.2.1 md_Mod_deliver_92 rfl (lv_at hl 5 rfl) ?_
  refine lv_iload Z.1 Z.2.1 md_Mod_deliver_93 (lv_at hl 4 rfl) ?_
  refine lv_iload Z.1 Z.2.1 md_Mod_deliver_95 (lv_at hl 1 rfl) ?_
  have mv : g 5 ≤ 1000 := by rcases hms with ⟨_, _, _, _, z⟩ | ⟨a, _⟩ | ⟨a, _⟩ | ⟨a, _⟩ | ⟨a, _⟩ <;> omega
  refine xw_cV (n := 5) (rest := []) Z hml hl.1 hN hw (r_accept1 (S := pz_rm S j) (r := g 2) (v := g 5) l D ad cI cZ hn ht hs ha IV Lr mv) tb_g mc_Mod_accept mk_Mod_129 mi_Mod_accept ms_Mod_accept mz_Mod ⟨by decide, by decide, by decide +kernel⟩ ⟨Nat.le_of_ble_eq_true rfl, Nat.le_of_ble_eq_true rfl⟩ (by decide) (gm_e0 ad cI cZ _) rfl rfl rfl rfl (Nat.le_of_ble_eq_true rfl) ⟨Nat.le_refl _, Nat.le_refl _⟩ md_Mod_deliver_97 (fun M3 H3 locs3 h9 hw => ?_)
  refine W.eq (g2 := F0 m 100 ls []) rfl ?_
  refine lv_goto (tgt := 140) Z.1 Z.2.1 md_Mod_deliver_100 (by decide) ?_
  refine lv_iload_n Z.1 Z.2.1 md_Mod_deliver_140 rfl (lv_at hl 6 rfl) ?_
  refine xw_iret Z hr hlk hw md_Mod_deliver_141 (congrArg nI (by omega)) ⟨pz_deliver_Inv Q I hg, ?_⟩
  unfold pz_hear
  rw [h4, if_neg (fun y => y hh), if_pos (by omega), hs1, hk]
  exact h9
set_option maxHeartbeats 4000000 in
theorem r_deliver_A2 (l : Launch) (D : va_G) (ad : Nat × Nat → Nat) (cI cZ : ClassId) {M : fr_M} {n q f : Nat} {S : pz_T} (hn : n ≤ 5) (hq5 : q ≤ 5) (hf5 : f ≤ 5) (Q : pz_Q n q f) (hI : gm_I n q f S M) {j s : Nat} {g : pz_M} (hg : S.1[j]? = some g) (hs1 : g 1 = s) {a : Nat} (ha : a < n) (h4 : g 4 = a) (hh : S.2 3 14 a 0 = 0) (hk : g 0 = 2) : gm_C l D ad cI cZ my_Mod_deliver mb_Mod_deliver 9 (some .int) 5 130 M [.ref (ad (0, 0)), .int (nI (j))] (some (.int (nI (g 0)))) (gm_I n q f (pz_hear n q f (pz_rm S j) g)) := by
  have h := hI.2
  have I := hI.1
  have hL := I.1
  have hj : j < S.1.length := (List.getElem?_eq_some_iff.mp hg).1
  have hrow := h.2.2.2.1 j g hg
  obtain ⟨hs0, hms⟩ := I.2.2.1 g (List.mem_of_getElem? hg)
  have hs : s < 3 := by omega
  rw [hs1] at hms
  have IV := I.2.1 s hs
  have cl := pz_ci_lt (g 2)
  have Lr := (pz_rm_Inv (i := j) I).1
  refine xw_start [.ref (ad (0, 0)), .int (nI (j))] (by decide) (Nat.le_of_ble_eq_true rfl) ?_
  intro p e st m below meth cd0 ls Z hml hr hlk hN hl hw
  have hl : lv_has ls 9 [(0, .ref (ad (0, 0))), (1, .int (nI (j)))] := hl
  refine lv_aload_n Z.1 Z.2.1 md_Mod_deliver_0 rfl (lv_at hl 0 rfl) ?_
  refine lv_iload_n Z.1 Z.2.1 md_Mod_deliver_1 rfl (lv_at hl 1 rfl) ?_
  refine xw_cV (n := 1) (rest := []) Z hml hl.1 hN hw (r_isMessage1 l D ad cI cZ (n := n) (q := q) (f := f) (M := M) hL h.2.1 hj) tb_g mc_Mod_isMessage mk_Mod_122 mi_Mod_isMessage ms_Mod_isMessage mz_Mod ⟨by decide, by decide, by decide +kernel⟩ ⟨Nat.le_of_ble_eq_true rfl, Nat.le_of_ble_eq_true rfl⟩ (by decide) (gm_e0 ad cI cZ _) rfl rfl rfl rfl (Nat.le_of_ble_eq_true rfl) ⟨Nat.le_refl _, Nat.le_refl _⟩ md_Mod_deliver_2 (fun M1 H1 locs1 e1 hw => ?_)
  have ey1 := e1.symm
  subst ey1
  refine W.eq (g2 := F0 m 5 ls [.int (nI (1))]) rfl ?_
  refine xi_if_ne (tgt := 10) Z md_Mod_deliver_5 (by decide) (by omega) (fun h5 => ?_) (fun h5 => by exfalso; omega)
  refine lv_aload_n Z.1 Z.2.1 md_Mod_deliver_10 rfl (lv_at hl 0 rfl) ?_
  refine xb_get (v := .ref (ad (6, 0))) Z hw (by decide) (gm_e0 ad cI cZ) rfl tb_iMod 6 (by decide) mk_Mod_13 rfl rfl md_Mod_deliver_11 ?_
  refine lv_iload_n Z.1 Z.2.1 md_Mod_deliver_14 rfl (lv_at hl 1 rfl) ?_
  refine xw_iald Z hw (by decide) (gm_e6 ad cI cZ) 0 rfl (j) rfl (by omega) (by omega) md_Mod_deliver_15 ?_
  refine xi_re (show M (6, 0) (j) = nI (2) from (by rw [hrow.1]; exact congrArg nI hk)) ?_
  refine lv_istore_n Z.1 Z.2.1 md_Mod_deliver_16 rfl hl (by decide) rfl (fun ls hl => ?_)
  have hl : lv_has ls 9 [(2, .int (nI (2))), (0, .ref (ad (0, 0))), (1, .int (nI (j)))] := hl
  refine lv_aload_n Z.1 Z.2.1 md_Mod_deliver_17 rfl (lv_at hl 1 rfl) ?_
  refine xb_get (v := .ref (ad (7, 0))) Z hw (by decide) (gm_e0 ad cI cZ) rfl tb_iMod 7 (by decide) mk_Mod_17 rfl rfl md_Mod_deliver_18 ?_
  refine lv_iload_n Z.1 Z.2.1 md_Mod_deliver_21 rfl (lv_at hl 2 rfl) ?_
  refine xw_iald Z hw (by decide) (gm_e7 ad cI cZ) 0 rfl (j) rfl (by omega) (by omega) md_Mod_deliver_22 ?_
  refine xi_re (show M (7, 0) (j) = nI (s) from (by rw [hrow.2.1]; exact congrArg nI hs1)) ?_
  refine lv_istore_n Z.1 Z.2.1 md_Mod_deliver_23 rfl hl (by decide) rfl (fun ls hl => ?_)
  have hl : lv_has ls 9 [(3, .int (nI (s))), (2, .int (nI (2))), (0, .ref (ad (0, 0))), (1, .int (nI (j)))] := hl
  refine lv_aload_n Z.1 Z.2.1 md_Mod_deliver_24 rfl (lv_at hl 2 rfl) ?_
  refine xb_get (v := .ref (ad (8, 0))) Z hw (by decide) (gm_e0 ad cI cZ) rfl tb_iMod 8 (by decide) mk_Mod_20 rfl rfl md_Mod_deliver_25 ?_
  refine lv_iload_n Z.1 Z.2.1 md_Mod_deliver_28 rfl (lv_at hl 3 rfl) ?_
  refine xw_iald Z hw (by decide) (gm_e8 ad cI cZ) 0 rfl (j) rfl (by omega) (by omega) md_Mod_deliver_29 ?_
  refine xi_re (show M (8, 0) (j) = nI (g 2) from hrow.2.2.1) ?_
  refine lv_istore Z.1 Z.2.1 md_Mod_deliver_30 hl (by decide) rfl (fun ls hl => ?_)
  have hl : lv_has ls 9 [(4, .int (nI (g 2))), (3, .int (nI (s))), (2, .int (nI (2))), (0, .ref (ad (0, 0))), (1, .int (nI (j)))] := hl
  refine lv_aload_n Z.1 Z.2.1 md_Mod_deliver_32 rfl (lv_at hl 3 rfl) ?_
  refine xb_get (v := .ref (ad (10, 0))) Z hw (by decide) (gm_e0 ad cI cZ) rfl tb_iMod 10 (by decide) mk_Mod_26 rfl rfl md_Mod_deliver_33 ?_
  refine lv_iload_n Z.1 Z.2.1 md_Mod_deliver_36 rfl (lv_at hl 4 rfl) ?_
  refine xw_iald Z hw (by decide) (gm_e10 ad cI cZ) 0 rfl (j) rfl (by omega) (by omega) md_Mod_deliver_37 ?_
  refine xi_re (show M (10, 0) (j) = nI (g 3) from hrow.2.2.2.2.1) ?_
  refine lv_istore Z.1 Z.2.1 md_Mod_deliver_38 hl (by decide) rfl (fun ls hl => ?_)
  have hl : lv_has ls 9 [(5, .int (nI (g 3))), (4, .int (nI (g 2))), (3, .int (nI (s))), (2, .int (nI (2))), (0, .ref (ad (0, 0))), (1, .int (nI (j)))] := hl
  refine lv_aload_n Z.1 Z.2.1 md_Mod_deliver_40 rfl (lv_at hl 4 rfl) ?_
  refine xb_get (v := .ref (ad (9, 0))) Z hw (by decide) (gm_e0 ad cI cZ) rfl tb_iMod 9 (by decide) mk_Mod_23 rfl rfl md_Mod_deliver_41 ?_
  refine lv_iload_n Z.1 Z.2.1 md_Mod_deliver_44 rfl (lv_at hl 5 rfl) ?_
  refine xw_iald Z hw (by decide) (gm_e9 ad cI cZ) 0 rfl (j) rfl (by omega) (by omega) md_Mod_deliver_45 ?_
  refine xi_re (show M (9, 0) (j) = nI (a) from (by rw [hrow.2.2.2.1]; exact congrArg nI h4)) ?_
  refine lv_istore Z.1 Z.2.1 md_Mod_deliver_46 hl (by decide) rfl (fun ls hl => ?_)
  have hl : lv_has ls 9 [(6, .int (nI (a))), (5, .int (nI (g 3))), (4, .int (nI (g 2))), (3, .int (nI (s))), (2, .int (nI (2))), (0, .ref (ad (0, 0))), (1, .int (nI (j)))] := hl
  refine lv_aload_n Z.1 Z.2.1 md_Mod_deliver_48 rfl (lv_at hl 5 rfl) ?_
  refine xb_get (v := .ref (ad (11, 0))) Z hw (by decide) (gm_e0 ad cI cZ) rfl tb_iMod 11 (by decide) mk_Mod_29 rfl rfl md_Mod_deliver_49 ?_
  refine lv_iload_n Z.1 Z.2.1 md_Mod_deliver_52 rfl (lv_at hl 6 rfl) ?_
  refine xw_iald Z hw (by decide) (gm_e11 ad cI cZ) 0 rfl (j) rfl (by omega) (by omega) md_Mod_deliver_53 ?_
  refine xi_re (show M (11, 0) (j) = nI (g 5) from hrow.2.2.2.2.2.1) ?_
  refine lv_istore Z.1 Z.2.1 md_Mod_deliver_54 hl (by decide) rfl (fun ls hl => ?_)
  have hl : lv_has ls 9 [(7, .int (nI (g 5))), (6, .int (nI (a))), (5, .int (nI (g 3))), (4, .int (nI (g 2))), (3, .int (nI (s))), (2, .int (nI (2))), (0, .ref (ad (0, 0))), (1, .int (nI (j)))] := hl
  refine lv_aload_n Z.1 Z.2.1 md_Mod_deliver_56 rfl (lv_at hl 6 rfl) ?_
  refine xb_get (v := .ref (ad (12, 0))) Z hw (by decide) (gm_e0 ad cI cZ) rfl tb_iMod 12 (by decide) mk_Mod_32 rfl rfl md_Mod_deliver_57 ?_
  refine lv_iload_n Z.1 Z.2.1 md_Mod_deliver_60 rfl (lv_at hl 7 rfl) ?_
  refine xw_iald Z hw (by decide) (gm_e12 ad cI cZ) 0 rfl (j) rfl (by omega) (by omega) md_Mod_deliver_61 ?_
  refine xi_re (show M (12, 0) (j) = nI (g 6) from hrow.2.2.2.2.2.2) ?_
  refine lv_istore Z.1 Z.2.1 md_Mod_deliver_62 hl (by decide) rfl (fun ls hl => ?_)
  have hl : lv_has ls 9 [(8, .int (nI (g 6))), (7, .int (nI (g 5))), (6, .int (nI (a))), (5, .int (nI (g 3))), (4, .int (nI (g 2))), (3, .int (nI (s))), (2, .int (nI (2))), (0, .ref (ad (0, 0))), (1, .int (nI (j)))] := hl
  refine lv_aload_n Z.1 Z.2.1 md_Mod_deliver_64 rfl (lv_at hl 7 rfl) ?_
  refine lv_iload_n Z.1 Z.2.1 md_Mod_deliver_65 rfl (lv_at hl 8 rfl) ?_
  refine xw_cV (n := 1) (rest := []) Z hml hl.1 hN hw (r_takeOut l D ad cI cZ h hL hj) tb_g mc_Mod_takeOut mk_Mod_125 mi_Mod_takeOut ms_Mod_takeOut mz_Mod ⟨by decide, by decide, by decide +kernel⟩ ⟨Nat.le_of_ble_eq_true rfl, Nat.le_of_ble_eq_true rfl⟩ (by decide) (gm_e0 ad cI cZ _) rfl rfl rfl rfl (Nat.le_of_ble_eq_true rfl) ⟨Nat.le_refl _, Nat.le_refl _⟩ md_Mod_deliver_66 (fun M2 H2 locs2 ht hw => ?_)
  refine W.eq (g2 := F0 m 69 ls []) rfl ?_
  refine lv_aload_n Z.1 Z.2.1 md_Mod_deliver_69 rfl (lv_at hl 7 rfl) ?_
  refine xb_get (v := .ref (ad (3, 0))) Z hw (by decide) (gm_e0 ad cI cZ) rfl tb_iMod 3 (by decide) mk_Mod_7 rfl rfl md_Mod_deliver_70 ?_
  refine lv_iload Z.1 Z.2.1 md_Mod_deliver_73 (lv_at hl 2 rfl) ?_
  refine xw_zald Z hw (by decide) (gm_e3 ad cI cZ) 1 rfl (a) rfl (by omega) (by omega) md_Mod_deliver_75 ?_
  refine xi_re (show M2 (3, 0) (a) = nI (S.2 3 14 (a) 0) from ht.2.2.1 (a) (by omega)) ?_
  have l14 := I.2.2.2 (a)
  refine xi_if_eq (tgt := 81) Z md_Mod_deliver_76 (by decide) (by omega) (fun h76 => ?_) (fun h76 => by exfalso; omega)
  refine lv_iload Z.1 Z.2.1 md_Mod_deliver_81 (lv_at hl 2 rfl) ?_
  refine lv_bipush (v := nI 8) Z.1 Z.2.1 md_Mod_deliver_83 (by decide) ?_
  refine xi_icmp_ge (tgt := 103) Z md_Mod_deliver_85 (by decide) (by omega) (by omega) (fun h85 => by exfalso; omega) (fun h85 => ?_)
  refine lv_aload_n Z.1 Z.2.1 md_Mod_deliver_88 rfl (lv_at hl 7 rfl) ?_
  refine lv_iload Z.1 Z.2.1 md_Mod_deliver_89 (lv_at hl 2 rfl) ?_
  refine lv_iload_n Z.1 Z.2.1 md_Mod_deliver_91 rfl (lv_at hl 6 rfl) ?_
  refine lv_iload_n Z.1 Z.2.1 md_Mod_deliver_92 rfl (lv_at hl 5 rfl) ?_
  refine lv_iload Z.1 Z.2.1 md_Mod_deliver_93 (lv_at hl 4 rfl) ?_
  refine lv_iload Z.1 Z.2.1 md_Mod_deliver_95 (lv_at hl 1 rfl) ?_
  obtain ⟨m1, m2⟩ : 1 ≤ g 2 ∧ g 2 ≤ 12 := by rcases hms with ⟨a, _⟩ | ⟨_, x, y, _⟩ | ⟨a, _⟩ | ⟨a, _⟩ | ⟨a, _⟩ <;> omega
  refine xw_cV (n := 5) (rest := []) Z hml hl.1 hN hw (r_accept2 (S := pz_rm S j) (r := g 2) (v := g 5) l D ad cI cZ hn ht hs ha IV Lr m2) tb_g mc_Mod_accept mk_Mod_129 mi_Mod_accept ms_Mod_accept mz_Mod ⟨by decide, by decide, by decide +kernel⟩ ⟨Nat.le_of_ble_eq_true rfl, Nat.le_of_ble_eq_true rfl⟩ (by decide) (gm_e0 ad cI cZ _) rfl rfl rfl rfl (Nat.le_of_ble_eq_true rfl) ⟨Nat.le_refl _, Nat.le_refl _⟩ md_Mod_deliver_97 (fun M3 H3 locs3 h9 hw => ?_)
  refine W.eq (g2 := F0 m 100 ls []) rfl ?_
  refine lv_goto (tgt := 140) Z.1 Z.2.1 md_Mod_deliver_100 (by decide) ?_
  refine lv_iload_n Z.1 Z.2.1 md_Mod_deliver_140 rfl (lv_at hl 6 rfl) ?_
  refine xw_iret Z hr hlk hw md_Mod_deliver_141 (congrArg nI (by omega)) ⟨pz_deliver_Inv Q I hg, ?_⟩
  unfold pz_hear
  rw [h4, if_neg (fun y => y hh), if_pos (by omega), hs1, hk]
  exact h9
set_option maxHeartbeats 4000000 in
theorem r_deliver_A4v (l : Launch) (D : va_G) (ad : Nat × Nat → Nat) (cI cZ : ClassId) {M : fr_M} {n q f : Nat} {S : pz_T} (hn : n ≤ 5) (hq5 : q ≤ 5) (hf5 : f ≤ 5) (Q : pz_Q n q f) (hI : gm_I n q f S M) {j s : Nat} {g : pz_M} (hg : S.1[j]? = some g) (hs1 : g 1 = s) {a : Nat} (ha : a < n) (h4 : g 4 = a) (hh : S.2 3 14 a 0 = 0) (hk : g 0 = 4) (hv0 : g 5 ≠ 0) : gm_C l D ad cI cZ my_Mod_deliver mb_Mod_deliver 9 (some .int) 5 130 M [.ref (ad (0, 0)), .int (nI (j))] (some (.int (nI (g 0)))) (gm_I n q f (pz_hear n q f (pz_rm S j) g)) := by
  have h := hI.2
  have I := hI.1
  have hL := I.1
  have hj : j < S.1.length := (List.getElem?_eq_some_iff.mp hg).1
  have hrow := h.2.2.2.1 j g hg
  obtain ⟨hs0, hms⟩ := I.2.2.1 g (List.mem_of_getElem? hg)
  have hs : s < 3 := by omega
  rw [hs1] at hms
  have IV := I.2.1 s hs
  have cl := pz_ci_lt (g 2)
  have Lr := (pz_rm_Inv (i := j) I).1
  refine xw_start [.ref (ad (0, 0)), .int (nI (j))] (by decide) (Nat.le_of_ble_eq_true rfl) ?_
  intro p e st m below meth cd0 ls Z hml hr hlk hN hl hw
  have hl : lv_has ls 9 [(0, .ref (ad (0, 0))), (1, .int (nI (j)))] := hl
  refine lv_aload_n Z.1 Z.2.1 md_Mod_deliver_0 rfl (lv_at hl 0 rfl) ?_
  refine lv_iload_n Z.1 Z.2.1 md_Mod_deliver_1 rfl (lv_at hl 1 rfl) ?_
  refine xw_cV (n := 1) (rest := []) Z hml hl.1 hN hw (r_isMessage1 l D ad cI cZ (n := n) (q := q) (f := f) (M := M) hL h.2.1 hj) tb_g mc_Mod_isMessage mk_Mod_122 mi_Mod_isMessage ms_Mod_isMessage mz_Mod ⟨by decide, by decide, by decide +kernel⟩ ⟨Nat.le_of_ble_eq_true rfl, Nat.le_of_ble_eq_true rfl⟩ (by decide) (gm_e0 ad cI cZ _) rfl rfl rfl rfl (Nat.le_of_ble_eq_true rfl) ⟨Nat.le_refl _, Nat.le_refl _⟩ md_Mod_deliver_2 (fun M1 H1 locs1 e1 hw => ?_)
  have ey1 := e1.symm
  subst ey1
  refine W.eq (g2 := F0 m 5 ls [.int (nI (1))]) rfl ?_
  refine xi_if_ne (tgt := 10) Z md_Mod_deliver_5 (by decide) (by omega) (fun h5 => ?_) (fun h5 => by exfalso; omega)
  refine lv_aload_n Z.1 Z.2.1 md_Mod_deliver_10 rfl (lv_at hl 0 rfl) ?_
  refine xb_get (v := .ref (ad (6, 0))) Z hw (by decide) (gm_e0 ad cI cZ) rfl tb_iMod 6 (by decide) mk_Mod_13 rfl rfl md_Mod_deliver_11 ?_
  refine lv_iload_n Z.1 Z.2.1 md_Mod_deliver_14 rfl (lv_at hl 1 rfl) ?_
  refine xw_iald Z hw (by decide) (gm_e6 ad cI cZ) 0 rfl (j) rfl (by omega) (by omega) md_Mod_deliver_15 ?_
  refine xi_re (show M (6, 0) (j) = nI (4) from (by rw [hrow.1]; exact congrArg nI hk)) ?_
  refine lv_istore_n Z.1 Z.2.1 md_Mod_deliver_16 rfl hl (by decide) rfl (fun ls hl => ?_)
  have hl : lv_has ls 9 [(2, .int (nI (4))), (0, .ref (ad (0, 0))), (1, .int (nI (j)))] := hl
  refine lv_aload_n Z.1 Z.2.1 md_Mod_deliver_17 rfl (lv_at hl 1 rfl) ?_
  refine xb_get (v := .ref (ad (7, 0))) Z hw (by decide) (gm_e0 ad cI cZ) rfl tb_iMod 7 (by decide) mk_Mod_17 rfl rfl md_Mod_deliver_18 ?_
  refine lv_iload_n Z.1 Z.2.1 md_Mod_deliver_21 rfl (lv_at hl 2 rfl) ?_
  refine xw_iald Z hw (by decide) (gm_e7 ad cI cZ) 0 rfl (j) rfl (by omega) (by omega) md_Mod_deliver_22 ?_
  refine xi_re (show M (7, 0) (j) = nI (s) from (by rw [hrow.2.1]; exact congrArg nI hs1)) ?_
  refine lv_istore_n Z.1 Z.2.1 md_Mod_deliver_23 rfl hl (by decide) rfl (fun ls hl => ?_)
  have hl : lv_has ls 9 [(3, .int (nI (s))), (2, .int (nI (4))), (0, .ref (ad (0, 0))), (1, .int (nI (j)))] := hl
  refine lv_aload_n Z.1 Z.2.1 md_Mod_deliver_24 rfl (lv_at hl 2 rfl) ?_
  refine xb_get (v := .ref (ad (8, 0))) Z hw (by decide) (gm_e0 ad cI cZ) rfl tb_iMod 8 (by decide) mk_Mod_20 rfl rfl md_Mod_deliver_25 ?_
  refine lv_iload_n Z.1 Z.2.1 md_Mod_deliver_28 rfl (lv_at hl 3 rfl) ?_
  refine xw_iald Z hw (by decide) (gm_e8 ad cI cZ) 0 rfl (j) rfl (by omega) (by omega) md_Mod_deliver_29 ?_
  refine xi_re (show M (8, 0) (j) = nI (g 2) from hrow.2.2.1) ?_
  refine lv_istore Z.1 Z.2.1 md_Mod_deliver_30 hl (by decide) rfl (fun ls hl => ?_)
  have hl : lv_has ls 9 [(4, .int (nI (g 2))), (3, .int (nI (s))), (2, .int (nI (4))), (0, .ref (ad (0, 0))), (1, .int (nI (j)))] := hl
  refine lv_aload_n Z.1 Z.2.1 md_Mod_deliver_32 rfl (lv_at hl 3 rfl) ?_
  refine xb_get (v := .ref (ad (10, 0))) Z hw (by decide) (gm_e0 ad cI cZ) rfl tb_iMod 10 (by decide) mk_Mod_26 rfl rfl md_Mod_deliver_33 ?_
  refine lv_iload_n Z.1 Z.2.1 md_Mod_deliver_36 rfl (lv_at hl 4 rfl) ?_
  refine xw_iald Z hw (by decide) (gm_e10 ad cI cZ) 0 rfl (j) rfl (by omega) (by omega) md_Mod_deliver_37 ?_
  refine xi_re (show M (10, 0) (j) = nI (g 3) from hrow.2.2.2.2.1) ?_
  refine lv_istore Z.1 Z.2.1 md_Mod_deliver_38 hl (by decide) rfl (fun ls hl => ?_)
  have hl : lv_has ls 9 [(5, .int (nI (g 3))), (4, .int (nI (g 2))), (3, .int (nI (s))), (2, .int (nI (4))), (0, .ref (ad (0, 0))), (1, .int (nI (j)))] := hl
  refine lv_aload_n Z.1 Z.2.1 md_Mod_deliver_40 rfl (lv_at hl 4 rfl) ?_
  refine xb_get (v := .ref (ad (9, 0))) Z hw (by decide) (gm_e0 ad cI cZ) rfl tb_iMod 9 (by decide) mk_Mod_23 rfl rfl md_Mod_deliver_41 ?_
  refine lv_iload_n Z.1 Z.2.1 md_Mod_deliver_44 rfl (lv_at hl 5 rfl) ?_
  refine xw_iald Z hw (by decide) (gm_e9 ad cI cZ) 0 rfl (j) rfl (by omega) (by omega) md_Mod_deliver_45 ?_
  refine xi_re (show M (9, 0) (j) = nI (a) from (by rw [hrow.2.2.2.1]; exact congrArg nI h4)) ?_
  refine lv_istore Z.1 Z.2.1 md_Mod_deliver_46 hl (by decide) rfl (fun ls hl => ?_)
  have hl : lv_has ls 9 [(6, .int (nI (a))), (5, .int (nI (g 3))), (4, .int (nI (g 2))), (3, .int (nI (s))), (2, .int (nI (4))), (0, .ref (ad (0, 0))), (1, .int (nI (j)))] := hl
  refine lv_aload_n Z.1 Z.2.1 md_Mod_deliver_48 rfl (lv_at hl 5 rfl) ?_
  refine xb_get (v := .ref (ad (11, 0))) Z hw (by decide) (gm_e0 ad cI cZ) rfl tb_iMod 11 (by decide) mk_Mod_29 rfl rfl md_Mod_deliver_49 ?_
  refine lv_iload_n Z.1 Z.2.1 md_Mod_deliver_52 rfl (lv_at hl 6 rfl) ?_
  refine xw_iald Z hw (by decide) (gm_e11 ad cI cZ) 0 rfl (j) rfl (by omega) (by omega) md_Mod_deliver_53 ?_
  refine xi_re (show M (11, 0) (j) = nI (g 5) from hrow.2.2.2.2.2.1) ?_
  refine lv_istore Z.1 Z.2.1 md_Mod_deliver_54 hl (by decide) rfl (fun ls hl => ?_)
  have hl : lv_has ls 9 [(7, .int (nI (g 5))), (6, .int (nI (a))), (5, .int (nI (g 3))), (4, .int (nI (g 2))), (3, .int (nI (s))), (2, .int (nI (4))), (0, .ref (ad (0, 0))), (1, .int (nI (j)))] := hl
  refine lv_aload_n Z.1 Z.2.1 md_Mod_deliver_56 rfl (lv_at hl 6 rfl) ?_
  refine xb_get (v := .ref (ad (12, 0))) Z hw (by decide) (gm_e0 ad cI cZ) rfl tb_iMod 12 (by decide) mk_Mod_32 rfl rfl md_Mod_deliver_57 ?_
  refine lv_iload_n Z.1 Z.2.1 md_Mod_deliver_60 rfl (lv_at hl 7 rfl) ?_
  refine xw_iald Z hw (by decide) (gm_e12 ad cI cZ) 0 rfl (j) rfl (by omega) (by omega) md_Mod_deliver_61 ?_
  refine xi_re (show M (12, 0) (j) = nI (g 6) from hrow.2.2.2.2.2.2) ?_
  refine lv_istore Z.1 Z.2.1 md_Mod_deliver_62 hl (by decide) rfl (fun ls hl => ?_)
  have hl : lv_has ls 9 [(8, .int (nI (g 6))), (7, .int (nI (g 5))), (6, .int (nI (a))), (5, .int (nI (g 3))), (4, .int (nI (g 2))), (3, .int (nI (s))), (2, .int (nI (4))), (0, .ref (ad (0, 0))), (1, .int (nI (j)))] := hl
  refine lv_aload_n Z.1 Z.2.1 md_Mod_deliver_64 rfl (lv_at hl 7 rfl) ?_
  refine lv_iload_n Z.1 Z.2.1 md_Mod_deliver_65 rfl (lv_at hl 8 rfl) ?_
  refine xw_cV (n := 1) (rest := []) Z hml hl.1 hN hw (r_takeOut l D ad cI cZ h hL hj) tb_g mc_Mod_takeOut mk_Mod_125 mi_Mod_takeOut ms_Mod_takeOut mz_Mod ⟨by decide, by decide, by decide +kernel⟩ ⟨Nat.le_of_ble_eq_true rfl, Nat.le_of_ble_eq_true rfl⟩ (by decide) (gm_e0 ad cI cZ _) rfl rfl rfl rfl (Nat.le_of_ble_eq_true rfl) ⟨Nat.le_refl _, Nat.le_refl _⟩ md_Mod_deliver_66 (fun M2 H2 locs2 ht hw => ?_)
  refine W.eq (g2 := F0 m 69 ls []) rfl ?_
  refine lv_aload_n Z.1 Z.2.1 md_Mod_deliver_69 rfl (lv_at hl 7 rfl) ?_
  refine xb_get (v := .ref (ad (3, 0))) Z hw (by decide) (gm_e0 ad cI cZ) rfl tb_iMod 3 (by decide) mk_Mod_7 rfl rfl md_Mod_deliver_70 ?_
  refine lv_iload Z.1 Z.2.1 md_Mod_deliver_73 (lv_at hl 2 rfl) ?_
  refine xw_zald Z hw (by decide) (gm_e3 ad cI cZ) 1 rfl (a) rfl (by omega) (by omega) md_Mod_deliver_75 ?_
  refine xi_re (show M2 (3, 0) (a) = nI (S.2 3 14 (a) 0) from ht.2.2.1 (a) (by omega)) ?_
  have l14 := I.2.2.2 (a)
  refine xi_if_eq (tgt := 81) Z md_Mod_deliver_76 (by decide) (by omega) (fun h76 => ?_) (fun h76 => by exfalso; omega)
  refine lv_iload Z.1 Z.2.1 md_Mod_deliver_81 (lv_at hl 2 rfl) ?_
  refine lv_bipush (v := nI 8) Z.1 Z.2.1 md_Mod_deliver_83 (by decide) ?_
  refine xi_icmp_ge (tgt := 103) Z md_Mod_deliver_85 (by decide) (by omega) (by omega) (fun h85 => by exfalso; omega) (fun h85 => ?_)
  refine lv_aload_n Z.1 Z.2.1 md_Mod_deliver_88 rfl (lv_at hl 7 rfl) ?_
  refine lv_iload Z.1 Z.2.1 md_Mod_deliver_89 (lv_at hl 2 rfl) ?_
  refine lv_iload_n Z.1 Z.2.1 md_Mod_deliver_91 rfl (lv_at hl 6 rfl) ?_
  refine lv_iload_n Z.1 Z.2.1 md_Mod_deliver_92 rfl (lv_at hl 5 rfl) ?_
  refine lv_iload Z.1 Z.2.1 md_Mod_deliver_93 (lv_at hl 4 rfl) ?_
  refine lv_iload Z.1 Z.2.1 md_Mod_deliver_95 (lv_at hl 1 rfl) ?_
  obtain ⟨m1, m2, mv⟩ : 1 ≤ g 2 ∧ g 2 ≤ 12 ∧ g 5 ≤ 1000 := by rcases hms with ⟨a, _⟩ | ⟨a, _⟩ | ⟨a, _⟩ | ⟨_, x, y, _, z, _⟩ | ⟨a, _⟩ <;> omega
  refine xw_cV (n := 5) (rest := []) Z hml hl.1 hN hw (r_accept4v (S := pz_rm S j) (r := g 2) (v := g 5) l D ad cI cZ hn ht hs ha IV Lr m2 mv hv0) tb_g mc_Mod_accept mk_Mod_129 mi_Mod_accept ms_Mod_accept mz_Mod ⟨by decide, by decide, by decide +kernel⟩ ⟨Nat.le_of_ble_eq_true rfl, Nat.le_of_ble_eq_true rfl⟩ (by decide) (gm_e0 ad cI cZ _) rfl rfl rfl rfl (Nat.le_of_ble_eq_true rfl) ⟨Nat.le_refl _, Nat.le_refl _⟩ md_Mod_deliver_97 (fun M3 H3 locs3 h9 hw => ?_)
  refine W.eq (g2 := F0 m 100 ls []) rfl ?_
  refine lv_goto (tgt := 140) Z.1 Z.2.1 md_Mod_deliver_100 (by decide) ?_
  refine lv_iload_n Z.1 Z.2.1 md_Mod_deliver_140 rfl (lv_at hl 6 rfl) ?_
  refine xw_iret Z hr hlk hw md_Mod_deliver_141 (congrArg nI (by omega)) ⟨pz_deliver_Inv Q I hg, ?_⟩
  unfold pz_hear
  rw [h4, if_neg (fun y => y hh), if_pos (by omega), hs1, hk]
  exact h9
set_option maxHeartbeats 4000000 in
theorem r_deliver_A4a (l : Launch) (D : va_G) (ad : Nat × Nat → Nat) (cI cZ : ClassId) {M : fr_M} {n q f : Nat} {S : pz_T} (hn : n ≤ 5) (hq5 : q ≤ 5) (hf5 : f ≤ 5) (Q : pz_Q n q f) (hI : gm_I n q f S M) {j s : Nat} {g : pz_M} (hg : S.1[j]? = some g) (hs1 : g 1 = s) {a : Nat} (ha : a < n) (h4 : g 4 = a) (hh : S.2 3 14 a 0 = 0) (hk : g 0 = 4) (hv0 : g 5 = 0) : gm_C l D ad cI cZ my_Mod_deliver mb_Mod_deliver 9 (some .int) 5 130 M [.ref (ad (0, 0)), .int (nI (j))] (some (.int (nI (g 0)))) (gm_I n q f (pz_hear n q f (pz_rm S j) g)) := by
  have h := hI.2
  have I := hI.1
  have hL := I.1
  have hj : j < S.1.length := (List.getElem?_eq_some_iff.mp hg).1
  have hrow := h.2.2.2.1 j g hg
  obtain ⟨hs0, hms⟩ := I.2.2.1 g (List.mem_of_getElem? hg)
  have hs : s < 3 := by omega
  rw [hs1] at hms
  have IV := I.2.1 s hs
  have cl := pz_ci_lt (g 2)
  have Lr := (pz_rm_Inv (i := j) I).1
  refine xw_start [.ref (ad (0, 0)), .int (nI (j))] (by decide) (Nat.le_of_ble_eq_true rfl) ?_
  intro p e st m below meth cd0 ls Z hml hr hlk hN hl hw
  have hl : lv_has ls 9 [(0, .ref (ad (0, 0))), (1, .int (nI (j)))] := hl
  refine lv_aload_n Z.1 Z.2.1 md_Mod_deliver_0 rfl (lv_at hl 0 rfl) ?_
  refine lv_iload_n Z.1 Z.2.1 md_Mod_deliver_1 rfl (lv_at hl 1 rfl) ?_
  refine xw_cV (n := 1) (rest := []) Z hml hl.1 hN hw (r_isMessage1 l D ad cI cZ (n := n) (q := q) (f := f) (M := M) hL h.2.1 hj) tb_g mc_Mod_isMessage mk_Mod_122 mi_Mod_isMessage ms_Mod_isMessage mz_Mod ⟨by decide, by decide, by decide +kernel⟩ ⟨Nat.le_of_ble_eq_true rfl, Nat.le_of_ble_eq_true rfl⟩ (by decide) (gm_e0 ad cI cZ _) rfl rfl rfl rfl (Nat.le_of_ble_eq_true rfl) ⟨Nat.le_refl _, Nat.le_refl _⟩ md_Mod_deliver_2 (fun M1 H1 locs1 e1 hw => ?_)
  have ey1 := e1.symm
  subst ey1
  refine W.eq (g2 := F0 m 5 ls [.int (nI (1))]) rfl ?_
  refine xi_if_ne (tgt := 10) Z md_Mod_deliver_5 (by decide) (by omega) (fun h5 => ?_) (fun h5 => by exfalso; omega)
  refine lv_aload_n Z.1 Z.2.1 md_Mod_deliver_10 rfl (lv_at hl 0 rfl) ?_
  refine xb_get (v := .ref (ad (6, 0))) Z hw (by decide) (gm_e0 ad cI cZ) rfl tb_iMod 6 (by decide) mk_Mod_13 rfl rfl md_Mod_deliver_11 ?_
  refine lv_iload_n Z.1 Z.2.1 md_Mod_deliver_14 rfl (lv_at hl 1 rfl) ?_
  refine xw_iald Z hw (by decide) (gm_e6 ad cI cZ) 0 rfl (j) rfl (by omega) (by omega) md_Mod_deliver_15 ?_
  refine xi_re (show M (6, 0) (j) = nI (4) from (by rw [hrow.1]; exact congrArg nI hk)) ?_
  refine lv_istore_n Z.1 Z.2.1 md_Mod_deliver_16 rfl hl (by decide) rfl (fun ls hl => ?_)
  have hl : lv_has ls 9 [(2, .int (nI (4))), (0, .ref (ad (0, 0))), (1, .int (nI (j)))] := hl
  refine lv_aload_n Z.1 Z.2.1 md_Mod_deliver_17 rfl (lv_at hl 1 rfl) ?_
  refine xb_get (v := .ref (ad (7, 0))) Z hw (by decide) (gm_e0 ad cI cZ) rfl tb_iMod 7 (by decide) mk_Mod_17 rfl rfl md_Mod_deliver_18 ?_
  refine lv_iload_n Z.1 Z.2.1 md_Mod_deliver_21 rfl (lv_at hl 2 rfl) ?_
  refine xw_iald Z hw (by decide) (gm_e7 ad cI cZ) 0 rfl (j) rfl (by omega) (by omega) md_Mod_deliver_22 ?_
  refine xi_re (show M (7, 0) (j) = nI (s) from (by rw [hrow.2.1]; exact congrArg nI hs1)) ?_
  refine lv_istore_n Z.1 Z.2.1 md_Mod_deliver_23 rfl hl (by decide) rfl (fun ls hl => ?_)
  have hl : lv_has ls 9 [(3, .int (nI (s))), (2, .int (nI (4))), (0, .ref (ad (0, 0))), (1, .int (nI (j)))] := hl
  refine lv_aload_n Z.1 Z.2.1 md_Mod_deliver_24 rfl (lv_at hl 2 rfl) ?_
  refine xb_get (v := .ref (ad (8, 0))) Z hw (by decide) (gm_e0 ad cI cZ) rfl tb_iMod 8 (by decide) mk_Mod_20 rfl rfl md_Mod_deliver_25 ?_
  refine lv_iload_n Z.1 Z.2.1 md_Mod_deliver_28 rfl (lv_at hl 3 rfl) ?_
  refine xw_iald Z hw (by decide) (gm_e8 ad cI cZ) 0 rfl (j) rfl (by omega) (by omega) md_Mod_deliver_29 ?_
  refine xi_re (show M (8, 0) (j) = nI (g 2) from hrow.2.2.1) ?_
  refine lv_istore Z.1 Z.2.1 md_Mod_deliver_30 hl (by decide) rfl (fun ls hl => ?_)
  have hl : lv_has ls 9 [(4, .int (nI (g 2))), (3, .int (nI (s))), (2, .int (nI (4))), (0, .ref (ad (0, 0))), (1, .int (nI (j)))] := hl
  refine lv_aload_n Z.1 Z.2.1 md_Mod_deliver_32 rfl (lv_at hl 3 rfl) ?_
  refine xb_get (v := .ref (ad (10, 0))) Z hw (by decide) (gm_e0 ad cI cZ) rfl tb_iMod 10 (by decide) mk_Mod_26 rfl rfl md_Mod_deliver_33 ?_
  refine lv_iload_n Z.1 Z.2.1 md_Mod_deliver_36 rfl (lv_at hl 4 rfl) ?_
  refine xw_iald Z hw (by decide) (gm_e10 ad cI cZ) 0 rfl (j) rfl (by omega) (by omega) md_Mod_deliver_37 ?_
  refine xi_re (show M (10, 0) (j) = nI (g 3) from hrow.2.2.2.2.1) ?_
  refine lv_istore Z.1 Z.2.1 md_Mod_deliver_38 hl (by decide) rfl (fun ls hl => ?_)
  have hl : lv_has ls 9 [(5, .int (nI (g 3))), (4, .int (nI (g 2))), (3, .int (nI (s))), (2, .int (nI (4))), (0, .ref (ad (0, 0))), (1, .int (nI (j)))] := hl
  refine lv_aload_n Z.1 Z.2.1 md_Mod_deliver_40 rfl (lv_at hl 4 rfl) ?_
  refine xb_get (v := .ref (ad (9, 0))) Z hw (by decide) (gm_e0 ad cI cZ) rfl tb_iMod 9 (by decide) mk_Mod_23 rfl rfl md_Mod_deliver_41 ?_
  refine lv_iload_n Z.1 Z.2.1 md_Mod_deliver_44 rfl (lv_at hl 5 rfl) ?_
  refine xw_iald Z hw (by decide) (gm_e9 ad cI cZ) 0 rfl (j) rfl (by omega) (by omega) md_Mod_deliver_45 ?_
  refine xi_re (show M (9, 0) (j) = nI (a) from (by rw [hrow.2.2.2.1]; exact congrArg nI h4)) ?_
  refine lv_istore Z.1 Z.2.1 md_Mod_deliver_46 hl (by decide) rfl (fun ls hl => ?_)
  have hl : lv_has ls 9 [(6, .int (nI (a))), (5, .int (nI (g 3))), (4, .int (nI (g 2))), (3, .int (nI (s))), (2, .int (nI (4))), (0, .ref (ad (0, 0))), (1, .int (nI (j)))] := hl
  refine lv_aload_n Z.1 Z.2.1 md_Mod_deliver_48 rfl (lv_at hl 5 rfl) ?_
  refine xb_get (v := .ref (ad (11, 0))) Z hw (by decide) (gm_e0 ad cI cZ) rfl tb_iMod 11 (by decide) mk_Mod_29 rfl rfl md_Mod_deliver_49 ?_
  refine lv_iload_n Z.1 Z.2.1 md_Mod_deliver_52 rfl (lv_at hl 6 rfl) ?_
  refine xw_iald Z hw (by decide) (gm_e11 ad cI cZ) 0 rfl (j) rfl (by omega) (by omega) md_Mod_deliver_53 ?_
  refine xi_re (show M (11, 0) (j) = nI (g 5) from hrow.2.2.2.2.2.1) ?_
  refine lv_istore Z.1 Z.2.1 md_Mod_deliver_54 hl (by decide) rfl (fun ls hl => ?_)
  have hl : lv_has ls 9 [(7, .int (nI (g 5))), (6, .int (nI (a))), (5, .int (nI (g 3))), (4, .int (nI (g 2))), (3, .int (nI (s))), (2, .int (nI (4))), (0, .ref (ad (0, 0))), (1, .int (nI (j)))] := hl
  refine lv_aload_n Z.1 Z.2.1 md_Mod_deliver_56 rfl (lv_at hl 6 rfl) ?_
  refine xb_get (v := .ref (ad (12, 0))) Z hw (by decide) (gm_e0 ad cI cZ) rfl tb_iMod 12 (by decide) mk_Mod_32 rfl rfl md_Mod_deliver_57 ?_
  refine lv_iload_n Z.1 Z.2.1 md_Mod_deliver_60 rfl (lv_at hl 7 rfl) ?_
  refine xw_iald Z hw (by decide) (gm_e12 ad cI cZ) 0 rfl (j) rfl (by omega) (by omega) md_Mod_deliver_61 ?_
  refine xi_re (show M (12, 0) (j) = nI (g 6) from hrow.2.2.2.2.2.2) ?_
  refine lv_istore Z.1 Z.2.1 md_Mod_deliver_62 hl (by decide) rfl (fun ls hl => ?_)
  have hl : lv_has ls 9 [(8, .int (nI (g 6))), (7, .int (nI (g 5))), (6, .int (nI (a))), (5, .int (nI (g 3))), (4, .int (nI (g 2))), (3, .int (nI (s))), (2, .int (nI (4))), (0, .ref (ad (0, 0))), (1, .int (nI (j)))] := hl
  refine lv_aload_n Z.1 Z.2.1 md_Mod_deliver_64 rfl (lv_at hl 7 rfl) ?_
  refine lv_iload_n Z.1 Z.2.1 md_Mod_deliver_65 rfl (lv_at hl 8 rfl) ?_
  refine xw_cV (n := 1) (rest := []) Z hml hl.1 hN hw (r_takeOut l D ad cI cZ h hL hj) tb_g mc_Mod_takeOut mk_Mod_125 mi_Mod_takeOut ms_Mod_takeOut mz_Mod ⟨by decide, by decide, by decide +kernel⟩ ⟨Nat.le_of_ble_eq_true rfl, Nat.le_of_ble_eq_true rfl⟩ (by decide) (gm_e0 ad cI cZ _) rfl rfl rfl rfl (Nat.le_of_ble_eq_true rfl) ⟨Nat.le_refl _, Nat.le_refl _⟩ md_Mod_deliver_66 (fun M2 H2 locs2 ht hw => ?_)
  refine W.eq (g2 := F0 m 69 ls []) rfl ?_
  refine lv_aload_n Z.1 Z.2.1 md_Mod_deliver_69 rfl (lv_at hl 7 rfl) ?_
  refine xb_get (v := .ref (ad (3, 0))) Z hw (by decide) (gm_e0 ad cI cZ) rfl tb_iMod 3 (by decide) mk_Mod_7 rfl rfl md_Mod_deliver_70 ?_
  refine lv_iload Z.1 Z.2.1 md_Mod_deliver_73 (lv_at hl 2 rfl) ?_
  refine xw_zald Z hw (by decide) (gm_e3 ad cI cZ) 1 rfl (a) rfl (by omega) (by omega) md_Mod_deliver_75 ?_
  refine xi_re (show M2 (3, 0) (a) = nI (S.2 3 14 (a) 0) from ht.2.2.1 (a) (by omega)) ?_
  have l14 := I.2.2.2 (a)
  refine xi_if_eq (tgt := 81) Z md_Mod_deliver_76 (by decide) (by omega) (fun h76 => ?_) (fun h76 => by exfalso; omega)
  refine lv_iload Z.1 Z.2.1 md_Mod_deliver_81 (lv_at hl 2 rfl) ?_
  refine lv_bipush (v := nI 8) Z.1 Z.2.1 md_Mod_deliver_83 (by decide) ?_
  refine xi_icmp_ge (tgt := 103) Z md_Mod_deliver_85 (by decide) (by omega) (by omega) (fun h85 => by exfalso; omega) (fun h85 => ?_)
  refine lv_aload_n Z.1 Z.2.1 md_Mod_deliver_88 rfl (lv_at hl 7 rfl) ?_
  refine lv_iload Z.1 Z.2.1 md_Mod_deliver_89 (lv_at hl 2 rfl) ?_
  refine lv_iload_n Z.1 Z.2.1 md_Mod_deliver_91 rfl (lv_at hl 6 rfl) ?_
  refine lv_iload_n Z.1 Z.2.1 md_Mod_deliver_92 rfl (lv_at hl 5 rfl) ?_
  refine lv_iload Z.1 Z.2.1 md_Mod_deliver_93 (lv_at hl 4 rfl) ?_
  refine lv_iload Z.1 Z.2.1 md_Mod_deliver_95 (lv_at hl 1 rfl) ?_
  obtain ⟨m1, m2, mv⟩ : 1 ≤ g 2 ∧ g 2 ≤ 12 ∧ g 5 ≤ 1000 := by rcases hms with ⟨a, _⟩ | ⟨a, _⟩ | ⟨a, _⟩ | ⟨_, x, y, _, z, _⟩ | ⟨a, _⟩ <;> omega
  refine xw_cV (n := 5) (rest := []) Z hml hl.1 hN hw (r_accept4a (S := pz_rm S j) (r := g 2) (v := g 5) l D ad cI cZ hn ht hs ha IV Lr m2 mv hv0) tb_g mc_Mod_accept mk_Mod_129 mi_Mod_accept ms_Mod_accept mz_Mod ⟨by decide, by decide, by decide +kernel⟩ ⟨Nat.le_of_ble_eq_true rfl, Nat.le_of_ble_eq_true rfl⟩ (by decide) (gm_e0 ad cI cZ _) rfl rfl rfl rfl (Nat.le_of_ble_eq_true rfl) ⟨Nat.le_refl _, Nat.le_refl _⟩ md_Mod_deliver_97 (fun M3 H3 locs3 h9 hw => ?_)
  refine W.eq (g2 := F0 m 100 ls []) rfl ?_
  refine lv_goto (tgt := 140) Z.1 Z.2.1 md_Mod_deliver_100 (by decide) ?_
  refine lv_iload_n Z.1 Z.2.1 md_Mod_deliver_140 rfl (lv_at hl 6 rfl) ?_
  refine xw_iret Z hr hlk hw md_Mod_deliver_141 (congrArg nI (by omega)) ⟨pz_deliver_Inv Q I hg, ?_⟩
  unfold pz_hear
  rw [h4, if_neg (fun y => y hh), if_pos (by omega), hs1, hk]
  exact h9
/-- a message is delivered -/
theorem r_deliver (l : Launch) (D : va_G) (ad : Nat × Nat → Nat) (cI cZ : ClassId) {M : fr_M} {n q f : Nat} {S : pz_T} (hn : n ≤ 5) (hq5 : q ≤ 5) (hf5 : f ≤ 5) (Q : pz_Q n q f) (hI : gm_I n q f S M) {j : Nat} {g : pz_M} (hg : S.1[j]? = some g) : gm_C l D ad cI cZ my_Mod_deliver mb_Mod_deliver 9 (some .int) 5 130 M [.ref (ad (0, 0)), .int (nI j)] (some (.int (nI (g 0)))) (gm_I n q f (pz_hear n q f (pz_rm S j) g)) := by
  obtain ⟨hs0, hms⟩ := hI.1.2.2.1 g (List.mem_of_getElem? hg)
  have cl := pz_ci_lt (g 2)
  have q2 := Q.2.1
  by_cases hh : S.2 3 14 (g 4) 0 = 0
  · rcases hms with ⟨k, _, z | z | z, _⟩ | ⟨k, _, _, z, _⟩ | ⟨k, _, _, _, z, _⟩ | ⟨k, _, _, z, _⟩ | ⟨k, _, _, _, z | z, _⟩
    · exact r_deliver_A1 l D ad cI cZ hn hq5 hf5 Q hI hg rfl z rfl hh k
    · exact r_deliver_C1 l D ad cI cZ hn hq5 hf5 Q hI hg rfl (c := 0) (by decide) z (by rw [z] at hh; exact hh) k
    · exact r_deliver_C1 l D ad cI cZ hn hq5 hf5 Q hI hg rfl (c := 1) (by decide) z (by rw [z] at hh; exact hh) k
    · exact r_deliver_A2 l D ad cI cZ hn hq5 hf5 Q hI hg rfl z rfl hh k
    · exact r_deliver_C3 l D ad cI cZ hn hq5 hf5 Q hI hg rfl cl z (by rw [z] at hh; exact hh) k
    · by_cases v0 : g 5 = 0
      · exact r_deliver_A4a l D ad cI cZ hn hq5 hf5 Q hI hg rfl z rfl hh k v0
      · exact r_deliver_A4v l D ad cI cZ hn hq5 hf5 Q hI hg rfl z rfl hh k v0
    · exact r_deliver_C5 l D ad cI cZ hn hq5 hf5 Q hI hg rfl cl z (by rw [z] at hh; exact hh) k
    · exact r_deliver_L l D ad cI cZ hn hq5 hf5 Q hI hg rfl z (by rw [z] at hh; exact hh) k
  · refine r_deliver_h l D ad cI cZ hn hq5 hf5 Q hI hg rfl rfl ?_ hh
    rcases hms with ⟨k, _, z | z | z, _⟩ | ⟨k, _, _, z, _⟩ | ⟨k, _, _, _, z, _⟩ | ⟨k, _, _, z, _⟩ | ⟨k, _, _, _, z | z, _⟩ <;> omega
set_option maxHeartbeats 4000000 in
theorem r_deliver_b (l : Launch) (D : va_G) (ad : Nat × Nat → Nat) (cI cZ : ClassId) {M : fr_M} {n q f : Nat} {S : pz_T} (hn : n ≤ 5) (hI : gm_I n q f S M) {x : Int32} (hx : x < 0 ∨ nI S.1.length ≤ x) : gm_C l D ad cI cZ my_Mod_deliver mb_Mod_deliver 9 (some .int) 1 21 M [.ref (ad (0, 0)), .int (x)] (some (.int (-1))) (fun M' => M' = M) := by
  have h := hI.2
  have I := hI.1
  have hL := I.1
  refine xw_start [.ref (ad (0, 0)), .int (x)] (by decide) (Nat.le_of_ble_eq_true rfl) ?_
  intro p e st m below meth cd0 ls Z hml hr hlk hN hl hw
  have hl : lv_has ls 9 [(0, .ref (ad (0, 0))), (1, .int (x))] := hl
  refine lv_aload_n Z.1 Z.2.1 md_Mod_deliver_0 rfl (lv_at hl 0 rfl) ?_
  refine lv_iload_n Z.1 Z.2.1 md_Mod_deliver_1 rfl (lv_at hl 1 rfl) ?_
  refine xw_cV (n := 1) (rest := []) Z hml hl.1 hN hw (r_isMessage0 l D ad cI cZ (n := n) (q := q) (f := f) (M := M) hL h.2.1 hx) tb_g mc_Mod_isMessage mk_Mod_122 mi_Mod_isMessage ms_Mod_isMessage mz_Mod ⟨by decide, by decide, by decide +kernel⟩ ⟨Nat.le_of_ble_eq_true rfl, Nat.le_of_ble_eq_true rfl⟩ (by decide) (gm_e0 ad cI cZ _) rfl rfl rfl rfl (Nat.le_of_ble_eq_true rfl) ⟨Nat.le_refl _, Nat.le_refl _⟩ md_Mod_deliver_2 (fun M1 H1 locs1 e1 hw => ?_)
  have ey1 := e1.symm
  subst ey1
  refine W.eq (g2 := F0 m 5 ls [.int (nI (0))]) rfl ?_
  refine xi_if_ne (tgt := 10) Z md_Mod_deliver_5 (by decide) (by omega) (fun h5 => by exfalso; omega) (fun h5 => ?_)
  refine lv_iconst (v := -1) Z.1 Z.2.1 md_Mod_deliver_8 (by decide) ?_
  exact xw_iret Z hr hlk hw md_Mod_deliver_9 rfl rfl
