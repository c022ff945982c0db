/-! The program's own face. -/
theorem md_FB_propose_0 : decode mb_FB_propose 0 = .ok (.iload_n 1, 1) := by decide +kernel
theorem md_FB_propose_1 : decode mb_FB_propose 1 = .ok (.invokestatic 38, 3) := by decide +kernel
theorem md_FB_propose_4 : decode mb_FB_propose 4 = .ok (.ifCond .eq 10, 3) := by decide +kernel
theorem md_FB_propose_7 : decode mb_FB_propose 7 = .ok (.iload_n 2, 1) := by decide +kernel
theorem md_FB_propose_8 : decode mb_FB_propose 8 = .ok (.invokestatic 42, 3) := by decide +kernel
theorem md_FB_propose_11 : decode mb_FB_propose 11 = .ok (.ifCond .ne 5, 3) := by decide +kernel
theorem md_FB_propose_14 : decode mb_FB_propose 14 = .ok (.iconst (-1), 1) := by decide +kernel
theorem md_FB_propose_15 : decode mb_FB_propose 15 = .ok (.ireturn, 1) := by decide +kernel
theorem md_FB_propose_16 : decode mb_FB_propose 16 = .ok (.iconst 0, 1) := by decide +kernel
theorem md_FB_propose_17 : decode mb_FB_propose 17 = .ok (.istore_n 3, 1) := by decide +kernel
theorem md_FB_propose_18 : decode mb_FB_propose 18 = .ok (.iload_n 3, 1) := by decide +kernel
theorem md_FB_propose_19 : decode mb_FB_propose 19 = .ok (.aload_n 0, 1) := by decide +kernel
theorem md_FB_propose_20 : decode mb_FB_propose 20 = .ok (.getfield 12, 3) := by decide +kernel
theorem md_FB_propose_23 : decode mb_FB_propose 23 = .ok (.getfield 45, 3) := by decide +kernel
theorem md_FB_propose_26 : decode mb_FB_propose 26 = .ok (.if_icmp .ge 23, 3) := by decide +kernel
theorem md_FB_propose_29 : decode mb_FB_propose 29 = .ok (.aload_n 0, 1) := by decide +kernel
theorem md_FB_propose_30 : decode mb_FB_propose 30 = .ok (.getfield 21, 3) := by decide +kernel
theorem md_FB_propose_33 : decode mb_FB_propose 33 = .ok (.iconst 1, 1) := by decide +kernel
theorem md_FB_propose_34 : decode mb_FB_propose 34 = .ok (.iload_n 1, 1) := by decide +kernel
theorem md_FB_propose_35 : decode mb_FB_propose 35 = .ok (.iconst 0, 1) := by decide +kernel
theorem md_FB_propose_36 : decode mb_FB_propose 36 = .ok (.iconst (-1), 1) := by decide +kernel
theorem md_FB_propose_37 : decode mb_FB_propose 37 = .ok (.iload_n 3, 1) := by decide +kernel
theorem md_FB_propose_38 : decode mb_FB_propose 38 = .ok (.iload_n 2, 1) := by decide +kernel
theorem md_FB_propose_39 : decode mb_FB_propose 39 = .ok (.iconst 0, 1) := by decide +kernel
theorem md_FB_propose_40 : decode mb_FB_propose 40 = .ok (.invokevirtual 49, 3) := by decide +kernel
theorem md_FB_propose_43 : decode mb_FB_propose 43 = .ok (.iinc 3 1, 3) := by decide +kernel
theorem md_FB_propose_46 : decode mb_FB_propose 46 = .ok (.goto (-28), 3) := by decide +kernel
theorem md_FB_propose_49 : decode mb_FB_propose 49 = .ok (.aload_n 0, 1) := by decide +kernel
theorem md_FB_propose_50 : decode mb_FB_propose 50 = .ok (.getfield 21, 3) := by decide +kernel
theorem md_FB_propose_53 : decode mb_FB_propose 53 = .ok (.iconst 1, 1) := by decide +kernel
theorem md_FB_propose_54 : decode mb_FB_propose 54 = .ok (.iload_n 1, 1) := by decide +kernel
theorem md_FB_propose_55 : decode mb_FB_propose 55 = .ok (.iconst 0, 1) := by decide +kernel
theorem md_FB_propose_56 : decode mb_FB_propose 56 = .ok (.iconst (-1), 1) := by decide +kernel
theorem md_FB_propose_57 : decode mb_FB_propose 57 = .ok (.bipush 8, 2) := by decide +kernel
theorem md_FB_propose_59 : decode mb_FB_propose 59 = .ok (.iload_n 2, 1) := by decide +kernel
theorem md_FB_propose_60 : decode mb_FB_propose 60 = .ok (.iconst 0, 1) := by decide +kernel
theorem md_FB_propose_61 : decode mb_FB_propose 61 = .ok (.invokevirtual 49, 3) := by decide +kernel
theorem md_FB_propose_64 : decode mb_FB_propose 64 = .ok (.aload_n 0, 1) := by decide +kernel
theorem md_FB_propose_65 : decode mb_FB_propose 65 = .ok (.getfield 21, 3) := by decide +kernel
theorem md_FB_propose_68 : decode mb_FB_propose 68 = .ok (.iconst 1, 1) := by decide +kernel
theorem md_FB_propose_69 : decode mb_FB_propose 69 = .ok (.iload_n 1, 1) := by decide +kernel
theorem md_FB_propose_70 : decode mb_FB_propose 70 = .ok (.iconst 0, 1) := by decide +kernel
theorem md_FB_propose_71 : decode mb_FB_propose 71 = .ok (.iconst (-1), 1) := by decide +kernel
theorem md_FB_propose_72 : decode mb_FB_propose 72 = .ok (.bipush 9, 2) := by decide +kernel
theorem md_FB_propose_74 : decode mb_FB_propose 74 = .ok (.iload_n 2, 1) := by decide +kernel
theorem md_FB_propose_75 : decode mb_FB_propose 75 = .ok (.iconst 0, 1) := by decide +kernel
theorem md_FB_propose_76 : decode mb_FB_propose 76 = .ok (.invokevirtual 49, 3) := by decide +kernel
theorem md_FB_propose_79 : decode mb_FB_propose 79 = .ok (.aload_n 0, 1) := by decide +kernel
theorem md_FB_propose_80 : decode mb_FB_propose 80 = .ok (.getfield 21, 3) := by decide +kernel
theorem md_FB_propose_83 : decode mb_FB_propose 83 = .ok (.getfield 53, 3) := by decide +kernel
theorem md_FB_propose_86 : decode mb_FB_propose 86 = .ok (.ireturn, 1) := by decide +kernel
theorem md_FB_begin_0 : decode mb_FB_begin 0 = .ok (.iload_n 1, 1) := by decide +kernel
theorem md_FB_begin_1 : decode mb_FB_begin 1 = .ok (.invokestatic 38, 3) := by decide +kernel
theorem md_FB_begin_4 : decode mb_FB_begin 4 = .ok (.ifCond .eq 10, 3) := by decide +kernel
theorem md_FB_begin_7 : decode mb_FB_begin 7 = .ok (.iload_n 2, 1) := by decide +kernel
theorem md_FB_begin_8 : decode mb_FB_begin 8 = .ok (.invokestatic 56, 3) := by decide +kernel
theorem md_FB_begin_11 : decode mb_FB_begin 11 = .ok (.ifCond .ne 5, 3) := by decide +kernel
theorem md_FB_begin_14 : decode mb_FB_begin 14 = .ok (.iconst (-1), 1) := by decide +kernel
theorem md_FB_begin_15 : decode mb_FB_begin 15 = .ok (.ireturn, 1) := by decide +kernel
theorem md_FB_begin_16 : decode mb_FB_begin 16 = .ok (.iload_n 2, 1) := by decide +kernel
theorem md_FB_begin_17 : decode mb_FB_begin 17 = .ok (.invokestatic 59, 3) := by decide +kernel
theorem md_FB_begin_20 : decode mb_FB_begin 20 = .ok (.istore_n 3, 1) := by decide +kernel
theorem md_FB_begin_21 : decode mb_FB_begin 21 = .ok (.aload_n 0, 1) := by decide +kernel
theorem md_FB_begin_22 : decode mb_FB_begin 22 = .ok (.getfield 31, 3) := by decide +kernel
theorem md_FB_begin_25 : decode mb_FB_begin 25 = .ok (.iload_n 1, 1) := by decide +kernel
theorem md_FB_begin_26 : decode mb_FB_begin 26 = .ok (.aaload, 1) := by decide +kernel
theorem md_FB_begin_27 : decode mb_FB_begin 27 = .ok (.iload_n 3, 1) := by decide +kernel
theorem md_FB_begin_28 : decode mb_FB_begin 28 = .ok (.invokevirtual 63, 3) := by decide +kernel
theorem md_FB_begin_31 : decode mb_FB_begin 31 = .ok (.astore 4, 2) := by decide +kernel
theorem md_FB_begin_33 : decode mb_FB_begin 33 = .ok (.aload_n 0, 1) := by decide +kernel
theorem md_FB_begin_34 : decode mb_FB_begin 34 = .ok (.getfield 25, 3) := by decide +kernel
theorem md_FB_begin_37 : decode mb_FB_begin 37 = .ok (.iload_n 3, 1) := by decide +kernel
theorem md_FB_begin_38 : decode mb_FB_begin 38 = .ok (.baload, 1) := by decide +kernel
theorem md_FB_begin_39 : decode mb_FB_begin 39 = .ok (.ifCond .ne 12, 3) := by decide +kernel
theorem md_FB_begin_42 : decode mb_FB_begin 42 = .ok (.iload_n 2, 1) := by decide +kernel
theorem md_FB_begin_43 : decode mb_FB_begin 43 = .ok (.aload 4, 2) := by decide +kernel
theorem md_FB_begin_45 : decode mb_FB_begin 45 = .ok (.getfield 67, 3) := by decide +kernel
theorem md_FB_begin_48 : decode mb_FB_begin 48 = .ok (.if_icmp .gt 5, 3) := by decide +kernel
theorem md_FB_begin_51 : decode mb_FB_begin 51 = .ok (.iconst (-1), 1) := by decide +kernel
theorem md_FB_begin_52 : decode mb_FB_begin 52 = .ok (.ireturn, 1) := by decide +kernel
theorem md_FB_begin_53 : decode mb_FB_begin 53 = .ok (.aload 4, 2) := by decide +kernel
theorem md_FB_begin_55 : decode mb_FB_begin 55 = .ok (.iload_n 2, 1) := by decide +kernel
theorem md_FB_begin_56 : decode mb_FB_begin 56 = .ok (.invokevirtual 72, 3) := by decide +kernel
theorem md_FB_begin_59 : decode mb_FB_begin 59 = .ok (.aload_n 0, 1) := by decide +kernel
theorem md_FB_begin_60 : decode mb_FB_begin 60 = .ok (.getfield 21, 3) := by decide +kernel
theorem md_FB_begin_63 : decode mb_FB_begin 63 = .ok (.getfield 53, 3) := by decide +kernel
theorem md_FB_begin_66 : decode mb_FB_begin 66 = .ok (.ireturn, 1) := by decide +kernel
theorem md_FB_deliver_0 : decode mb_FB_deliver 0 = .ok (.aload_n 0, 1) := by decide +kernel
theorem md_FB_deliver_1 : decode mb_FB_deliver 1 = .ok (.getfield 21, 3) := by decide +kernel
theorem md_FB_deliver_4 : decode mb_FB_deliver 4 = .ok (.iload_n 1, 1) := by decide +kernel
theorem md_FB_deliver_5 : decode mb_FB_deliver 5 = .ok (.invokevirtual 76, 3) := by decide +kernel
theorem md_FB_deliver_8 : decode mb_FB_deliver 8 = .ok (.ifCond .ne 5, 3) := by decide +kernel
theorem md_FB_deliver_11 : decode mb_FB_deliver 11 = .ok (.iconst (-1), 1) := by decide +kernel
theorem md_FB_deliver_12 : decode mb_FB_deliver 12 = .ok (.ireturn, 1) := by decide +kernel
theorem md_FB_deliver_13 : decode mb_FB_deliver 13 = .ok (.aload_n 0, 1) := by decide +kernel
theorem md_FB_deliver_14 : decode mb_FB_deliver 14 = .ok (.getfield 21, 3) := by decide +kernel
theorem md_FB_deliver_17 : decode mb_FB_deliver 17 = .ok (.iload_n 1, 1) := by decide +kernel
theorem md_FB_deliver_18 : decode mb_FB_deliver 18 = .ok (.invokevirtual 79, 3) := by decide +kernel
theorem md_FB_deliver_21 : decode mb_FB_deliver 21 = .ok (.astore_n 2, 1) := by decide +kernel
theorem md_FB_deliver_22 : decode mb_FB_deliver 22 = .ok (.aload_n 0, 1) := by decide +kernel
theorem md_FB_deliver_23 : decode mb_FB_deliver 23 = .ok (.getfield 31, 3) := by decide +kernel
theorem md_FB_deliver_26 : decode mb_FB_deliver 26 = .ok (.aload_n 2, 1) := by decide +kernel
theorem md_FB_deliver_27 : decode mb_FB_deliver 27 = .ok (.getfield 83, 3) := by decide +kernel
theorem md_FB_deliver_30 : decode mb_FB_deliver 30 = .ok (.aaload, 1) := by decide +kernel
theorem md_FB_deliver_31 : decode mb_FB_deliver 31 = .ok (.astore_n 3, 1) := by decide +kernel
theorem md_FB_deliver_32 : decode mb_FB_deliver 32 = .ok (.aload_n 0, 1) := by decide +kernel
theorem md_FB_deliver_33 : decode mb_FB_deliver 33 = .ok (.getfield 25, 3) := by decide +kernel
theorem md_FB_deliver_36 : decode mb_FB_deliver 36 = .ok (.aload_n 2, 1) := by decide +kernel
theorem md_FB_deliver_37 : decode mb_FB_deliver 37 = .ok (.getfield 88, 3) := by decide +kernel
theorem md_FB_deliver_40 : decode mb_FB_deliver 40 = .ok (.baload, 1) := by decide +kernel
theorem md_FB_deliver_41 : decode mb_FB_deliver 41 = .ok (.ifCond .eq 8, 3) := by decide +kernel
theorem md_FB_deliver_44 : decode mb_FB_deliver 44 = .ok (.aload_n 2, 1) := by decide +kernel
theorem md_FB_deliver_45 : decode mb_FB_deliver 45 = .ok (.getfield 91, 3) := by decide +kernel
theorem md_FB_deliver_48 : decode mb_FB_deliver 48 = .ok (.ireturn, 1) := by decide +kernel
theorem md_FB_deliver_49 : decode mb_FB_deliver 49 = .ok (.aload_n 2, 1) := by decide +kernel
theorem md_FB_deliver_50 : decode mb_FB_deliver 50 = .ok (.getfield 88, 3) := by decide +kernel
theorem md_FB_deliver_53 : decode mb_FB_deliver 53 = .ok (.bipush 10, 2) := by decide +kernel
theorem md_FB_deliver_55 : decode mb_FB_deliver 55 = .ok (.if_icmp .ne 25, 3) := by decide +kernel
theorem md_FB_deliver_58 : decode mb_FB_deliver 58 = .ok (.aload_n 3, 1) := by decide +kernel
theorem md_FB_deliver_59 : decode mb_FB_deliver 59 = .ok (.getfield 94, 3) := by decide +kernel
theorem md_FB_deliver_62 : decode mb_FB_deliver 62 = .ok (.aload_n 2, 1) := by decide +kernel
theorem md_FB_deliver_63 : decode mb_FB_deliver 63 = .ok (.getfield 98, 3) := by decide +kernel
theorem md_FB_deliver_66 : decode mb_FB_deliver 66 = .ok (.aload_n 2, 1) := by decide +kernel
theorem md_FB_deliver_67 : decode mb_FB_deliver 67 = .ok (.getfield 101, 3) := by decide +kernel
theorem md_FB_deliver_70 : decode mb_FB_deliver 70 = .ok (.aload_n 2, 1) := by decide +kernel
theorem md_FB_deliver_71 : decode mb_FB_deliver 71 = .ok (.getfield 104, 3) := by decide +kernel
theorem md_FB_deliver_74 : decode mb_FB_deliver 74 = .ok (.invokevirtual 107, 3) := by decide +kernel
theorem md_FB_deliver_77 : decode mb_FB_deliver 77 = .ok (.goto 41, 3) := by decide +kernel
theorem md_FB_deliver_80 : decode mb_FB_deliver 80 = .ok (.aload_n 2, 1) := by decide +kernel
theorem md_FB_deliver_81 : decode mb_FB_deliver 81 = .ok (.getfield 88, 3) := by decide +kernel
theorem md_FB_deliver_84 : decode mb_FB_deliver 84 = .ok (.invokestatic 112, 3) := by decide +kernel
theorem md_FB_deliver_87 : decode mb_FB_deliver 87 = .ok (.ifCond .eq 18, 3) := by decide +kernel
theorem md_FB_deliver_90 : decode mb_FB_deliver 90 = .ok (.aload_n 3, 1) := by decide +kernel
theorem md_FB_deliver_91 : decode mb_FB_deliver 91 = .ok (.aload_n 2, 1) := by decide +kernel
theorem md_FB_deliver_92 : decode mb_FB_deliver 92 = .ok (.getfield 88, 3) := by decide +kernel
theorem md_FB_deliver_95 : decode mb_FB_deliver 95 = .ok (.invokevirtual 63, 3) := by decide +kernel
theorem md_FB_deliver_98 : decode mb_FB_deliver 98 = .ok (.aload_n 2, 1) := by decide +kernel
theorem md_FB_deliver_99 : decode mb_FB_deliver 99 = .ok (.invokevirtual 115, 3) := by decide +kernel
theorem md_FB_deliver_102 : decode mb_FB_deliver 102 = .ok (.goto 16, 3) := by decide +kernel
theorem md_FB_deliver_105 : decode mb_FB_deliver 105 = .ok (.aload_n 3, 1) := by decide +kernel
theorem md_FB_deliver_106 : decode mb_FB_deliver 106 = .ok (.getfield 119, 3) := by decide +kernel
theorem md_FB_deliver_109 : decode mb_FB_deliver 109 = .ok (.aload_n 2, 1) := by decide +kernel
theorem md_FB_deliver_110 : decode mb_FB_deliver 110 = .ok (.getfield 88, 3) := by decide +kernel
theorem md_FB_deliver_113 : decode mb_FB_deliver 113 = .ok (.aaload, 1) := by decide +kernel
theorem md_FB_deliver_114 : decode mb_FB_deliver 114 = .ok (.aload_n 2, 1) := by decide +kernel
theorem md_FB_deliver_115 : decode mb_FB_deliver 115 = .ok (.invokevirtual 122, 3) := by decide +kernel
theorem md_FB_deliver_118 : decode mb_FB_deliver 118 = .ok (.aload_n 2, 1) := by decide +kernel
theorem md_FB_deliver_119 : decode mb_FB_deliver 119 = .ok (.getfield 91, 3) := by decide +kernel
theorem md_FB_deliver_122 : decode mb_FB_deliver 122 = .ok (.ireturn, 1) := by decide +kernel
theorem md_FB_drop_0 : decode mb_FB_drop 0 = .ok (.aload_n 0, 1) := by decide +kernel
theorem md_FB_drop_1 : decode mb_FB_drop 1 = .ok (.getfield 21, 3) := by decide +kernel
theorem md_FB_drop_4 : decode mb_FB_drop 4 = .ok (.iload_n 1, 1) := by decide +kernel
theorem md_FB_drop_5 : decode mb_FB_drop 5 = .ok (.invokevirtual 76, 3) := by decide +kernel
theorem md_FB_drop_8 : decode mb_FB_drop 8 = .ok (.ifCond .ne 5, 3) := by decide +kernel
theorem md_FB_drop_11 : decode mb_FB_drop 11 = .ok (.iconst 0, 1) := by decide +kernel
theorem md_FB_drop_12 : decode mb_FB_drop 12 = .ok (.ireturn, 1) := by decide +kernel
theorem md_FB_drop_13 : decode mb_FB_drop 13 = .ok (.aload_n 0, 1) := by decide +kernel
theorem md_FB_drop_14 : decode mb_FB_drop 14 = .ok (.getfield 21, 3) := by decide +kernel
theorem md_FB_drop_17 : decode mb_FB_drop 17 = .ok (.iload_n 1, 1) := by decide +kernel
theorem md_FB_drop_18 : decode mb_FB_drop 18 = .ok (.invokevirtual 125, 3) := by decide +kernel
theorem md_FB_drop_21 : decode mb_FB_drop 21 = .ok (.iconst 1, 1) := by decide +kernel
theorem md_FB_drop_22 : decode mb_FB_drop 22 = .ok (.ireturn, 1) := by decide +kernel
theorem md_FB_halt_0 : decode mb_FB_halt 0 = .ok (.aload_n 0, 1) := by decide +kernel
theorem md_FB_halt_1 : decode mb_FB_halt 1 = .ok (.iload_n 1, 1) := by decide +kernel
theorem md_FB_halt_2 : decode mb_FB_halt 2 = .ok (.invokevirtual 128, 3) := by decide +kernel
theorem md_FB_halt_5 : decode mb_FB_halt 5 = .ok (.ifCond .ne 18, 3) := by decide +kernel
theorem md_FB_halt_8 : decode mb_FB_halt 8 = .ok (.iload_n 1, 1) := by decide +kernel
theorem md_FB_halt_9 : decode mb_FB_halt 9 = .ok (.invokestatic 112, 3) := by decide +kernel
theorem md_FB_halt_12 : decode mb_FB_halt 12 = .ok (.ifCond .ne 11, 3) := by decide +kernel
theorem md_FB_halt_15 : decode mb_FB_halt 15 = .ok (.iload_n 1, 1) := by decide +kernel
theorem md_FB_halt_16 : decode mb_FB_halt 16 = .ok (.bipush 10, 2) := by decide +kernel
theorem md_FB_halt_18 : decode mb_FB_halt 18 = .ok (.if_icmp .eq 5, 3) := by decide +kernel
theorem md_FB_halt_21 : decode mb_FB_halt 21 = .ok (.iconst 0, 1) := by decide +kernel
theorem md_FB_halt_22 : decode mb_FB_halt 22 = .ok (.ireturn, 1) := by decide +kernel
theorem md_FB_halt_23 : decode mb_FB_halt 23 = .ok (.aload_n 0, 1) := by decide +kernel
theorem md_FB_halt_24 : decode mb_FB_halt 24 = .ok (.getfield 25, 3) := by decide +kernel
theorem md_FB_halt_27 : decode mb_FB_halt 27 = .ok (.iload_n 1, 1) := by decide +kernel
theorem md_FB_halt_28 : decode mb_FB_halt 28 = .ok (.baload, 1) := by decide +kernel
theorem md_FB_halt_29 : decode mb_FB_halt 29 = .ok (.iload_n 2, 1) := by decide +kernel
theorem md_FB_halt_30 : decode mb_FB_halt 30 = .ok (.if_icmp .ne 5, 3) := by decide +kernel
theorem md_FB_halt_33 : decode mb_FB_halt 33 = .ok (.iconst 0, 1) := by decide +kernel
theorem md_FB_halt_34 : decode mb_FB_halt 34 = .ok (.ireturn, 1) := by decide +kernel
theorem md_FB_halt_35 : decode mb_FB_halt 35 = .ok (.aload_n 0, 1) := by decide +kernel
theorem md_FB_halt_36 : decode mb_FB_halt 36 = .ok (.getfield 25, 3) := by decide +kernel
theorem md_FB_halt_39 : decode mb_FB_halt 39 = .ok (.iload_n 1, 1) := by decide +kernel
theorem md_FB_halt_40 : decode mb_FB_halt 40 = .ok (.iload_n 2, 1) := by decide +kernel
theorem md_FB_halt_41 : decode mb_FB_halt 41 = .ok (.bastore, 1) := by decide +kernel
theorem md_FB_halt_42 : decode mb_FB_halt 42 = .ok (.iconst 1, 1) := by decide +kernel
theorem md_FB_halt_43 : decode mb_FB_halt 43 = .ok (.ireturn, 1) := by decide +kernel
theorem md_FB_waiting_0 : decode mb_FB_waiting 0 = .ok (.aload_n 0, 1) := by decide +kernel
theorem md_FB_waiting_1 : decode mb_FB_waiting 1 = .ok (.getfield 21, 3) := by decide +kernel
theorem md_FB_waiting_4 : decode mb_FB_waiting 4 = .ok (.getfield 53, 3) := by decide +kernel
theorem md_FB_waiting_7 : decode mb_FB_waiting 7 = .ok (.ireturn, 1) := by decide +kernel
theorem md_FB_lost_0 : decode mb_FB_lost 0 = .ok (.aload_n 0, 1) := by decide +kernel
theorem md_FB_lost_1 : decode mb_FB_lost 1 = .ok (.getfield 21, 3) := by decide +kernel
theorem md_FB_lost_4 : decode mb_FB_lost 4 = .ok (.getfield 131, 3) := by decide +kernel
theorem md_FB_lost_7 : decode mb_FB_lost 7 = .ok (.ireturn, 1) := by decide +kernel
theorem md_FB_message_0 : decode mb_FB_message 0 = .ok (.aload_n 0, 1) := by decide +kernel
theorem md_FB_message_1 : decode mb_FB_message 1 = .ok (.getfield 21, 3) := by decide +kernel
theorem md_FB_message_4 : decode mb_FB_message 4 = .ok (.iload_n 1, 1) := by decide +kernel
theorem md_FB_message_5 : decode mb_FB_message 5 = .ok (.invokevirtual 76, 3) := by decide +kernel
theorem md_FB_message_8 : decode mb_FB_message 8 = .ok (.ifCond .eq 14, 3) := by decide +kernel
theorem md_FB_message_11 : decode mb_FB_message 11 = .ok (.aload_n 0, 1) := by decide +kernel
theorem md_FB_message_12 : decode mb_FB_message 12 = .ok (.getfield 21, 3) := by decide +kernel
theorem md_FB_message_15 : decode mb_FB_message 15 = .ok (.iload_n 1, 1) := by decide +kernel
theorem md_FB_message_16 : decode mb_FB_message 16 = .ok (.invokevirtual 134, 3) := by decide +kernel
theorem md_FB_message_19 : decode mb_FB_message 19 = .ok (.goto 4, 3) := by decide +kernel
theorem md_FB_message_22 : decode mb_FB_message 22 = .ok (.iconst (-1), 1) := by decide +kernel
theorem md_FB_message_23 : decode mb_FB_message 23 = .ok (.ireturn, 1) := by decide +kernel
theorem md_FB_value_0 : decode mb_FB_value 0 = .ok (.aload_n 0, 1) := by decide +kernel
theorem md_FB_value_1 : decode mb_FB_value 1 = .ok (.getfield 21, 3) := by decide +kernel
theorem md_FB_value_4 : decode mb_FB_value 4 = .ok (.iload_n 1, 1) := by decide +kernel
theorem md_FB_value_5 : decode mb_FB_value 5 = .ok (.invokevirtual 76, 3) := by decide +kernel
theorem md_FB_value_8 : decode mb_FB_value 8 = .ok (.ifCond .eq 14, 3) := by decide +kernel
theorem md_FB_value_11 : decode mb_FB_value 11 = .ok (.aload_n 0, 1) := by decide +kernel
theorem md_FB_value_12 : decode mb_FB_value 12 = .ok (.getfield 21, 3) := by decide +kernel
theorem md_FB_value_15 : decode mb_FB_value 15 = .ok (.iload_n 1, 1) := by decide +kernel
theorem md_FB_value_16 : decode mb_FB_value 16 = .ok (.invokevirtual 137, 3) := by decide +kernel
theorem md_FB_value_19 : decode mb_FB_value 19 = .ok (.goto 4, 3) := by decide +kernel
theorem md_FB_value_22 : decode mb_FB_value 22 = .ok (.iconst (-1), 1) := by decide +kernel
theorem md_FB_value_23 : decode mb_FB_value 23 = .ok (.ireturn, 1) := by decide +kernel
theorem md_FB_round_0 : decode mb_FB_round 0 = .ok (.aload_n 0, 1) := by decide +kernel
theorem md_FB_round_1 : decode mb_FB_round 1 = .ok (.iload_n 1, 1) := by decide +kernel
theorem md_FB_round_2 : decode mb_FB_round 2 = .ok (.invokevirtual 128, 3) := by decide +kernel
theorem md_FB_round_5 : decode mb_FB_round 5 = .ok (.ifCond .eq 27, 3) := by decide +kernel
theorem md_FB_round_8 : decode mb_FB_round 8 = .ok (.iload_n 2, 1) := by decide +kernel
theorem md_FB_round_9 : decode mb_FB_round 9 = .ok (.invokestatic 38, 3) := by decide +kernel
theorem md_FB_round_12 : decode mb_FB_round 12 = .ok (.ifCond .eq 20, 3) := by decide +kernel
theorem md_FB_round_15 : decode mb_FB_round 15 = .ok (.aload_n 0, 1) := by decide +kernel
theorem md_FB_round_16 : decode mb_FB_round 16 = .ok (.getfield 31, 3) := by decide +kernel
theorem md_FB_round_19 : decode mb_FB_round 19 = .ok (.iload_n 2, 1) := by decide +kernel
theorem md_FB_round_20 : decode mb_FB_round 20 = .ok (.aaload, 1) := by decide +kernel
theorem md_FB_round_21 : decode mb_FB_round 21 = .ok (.getfield 119, 3) := by decide +kernel
theorem md_FB_round_24 : decode mb_FB_round 24 = .ok (.iload_n 1, 1) := by decide +kernel
theorem md_FB_round_25 : decode mb_FB_round 25 = .ok (.aaload, 1) := by decide +kernel
theorem md_FB_round_26 : decode mb_FB_round 26 = .ok (.getfield 140, 3) := by decide +kernel
theorem md_FB_round_29 : decode mb_FB_round 29 = .ok (.goto 4, 3) := by decide +kernel
theorem md_FB_round_32 : decode mb_FB_round 32 = .ok (.iconst (-1), 1) := by decide +kernel
theorem md_FB_round_33 : decode mb_FB_round 33 = .ok (.ireturn, 1) := by decide +kernel
theorem md_FB_vote_0 : decode mb_FB_vote 0 = .ok (.aload_n 0, 1) := by decide +kernel
theorem md_FB_vote_1 : decode mb_FB_vote 1 = .ok (.iload_n 1, 1) := by decide +kernel
theorem md_FB_vote_2 : decode mb_FB_vote 2 = .ok (.invokevirtual 128, 3) := by decide +kernel
theorem md_FB_vote_5 : decode mb_FB_vote 5 = .ok (.ifCond .eq 27, 3) := by decide +kernel
theorem md_FB_vote_8 : decode mb_FB_vote 8 = .ok (.iload_n 2, 1) := by decide +kernel
theorem md_FB_vote_9 : decode mb_FB_vote 9 = .ok (.invokestatic 38, 3) := by decide +kernel
theorem md_FB_vote_12 : decode mb_FB_vote 12 = .ok (.ifCond .eq 20, 3) := by decide +kernel
theorem md_FB_vote_15 : decode mb_FB_vote 15 = .ok (.aload_n 0, 1) := by decide +kernel
theorem md_FB_vote_16 : decode mb_FB_vote 16 = .ok (.getfield 31, 3) := by decide +kernel
theorem md_FB_vote_19 : decode mb_FB_vote 19 = .ok (.iload_n 2, 1) := by decide +kernel
theorem md_FB_vote_20 : decode mb_FB_vote 20 = .ok (.aaload, 1) := by decide +kernel
theorem md_FB_vote_21 : decode mb_FB_vote 21 = .ok (.getfield 119, 3) := by decide +kernel
theorem md_FB_vote_24 : decode mb_FB_vote 24 = .ok (.iload_n 1, 1) := by decide +kernel
theorem md_FB_vote_25 : decode mb_FB_vote 25 = .ok (.aaload, 1) := by decide +kernel
theorem md_FB_vote_26 : decode mb_FB_vote 26 = .ok (.getfield 143, 3) := by decide +kernel
theorem md_FB_vote_29 : decode mb_FB_vote 29 = .ok (.goto 4, 3) := by decide +kernel
theorem md_FB_vote_32 : decode mb_FB_vote 32 = .ok (.iconst (-1), 1) := by decide +kernel
theorem md_FB_vote_33 : decode mb_FB_vote 33 = .ok (.ireturn, 1) := by decide +kernel
theorem md_FB_voteRound_0 : decode mb_FB_voteRound 0 = .ok (.aload_n 0, 1) := by decide +kernel
theorem md_FB_voteRound_1 : decode mb_FB_voteRound 1 = .ok (.iload_n 1, 1) := by decide +kernel
theorem md_FB_voteRound_2 : decode mb_FB_voteRound 2 = .ok (.invokevirtual 128, 3) := by decide +kernel
theorem md_FB_voteRound_5 : decode mb_FB_voteRound 5 = .ok (.ifCond .eq 27, 3) := by decide +kernel
theorem md_FB_voteRound_8 : decode mb_FB_voteRound 8 = .ok (.iload_n 2, 1) := by decide +kernel
theorem md_FB_voteRound_9 : decode mb_FB_voteRound 9 = .ok (.invokestatic 38, 3) := by decide +kernel
theorem md_FB_voteRound_12 : decode mb_FB_voteRound 12 = .ok (.ifCond .eq 20, 3) := by decide +kernel
theorem md_FB_voteRound_15 : decode mb_FB_voteRound 15 = .ok (.aload_n 0, 1) := by decide +kernel
theorem md_FB_voteRound_16 : decode mb_FB_voteRound 16 = .ok (.getfield 31, 3) := by decide +kernel
theorem md_FB_voteRound_19 : decode mb_FB_voteRound 19 = .ok (.iload_n 2, 1) := by decide +kernel
theorem md_FB_voteRound_20 : decode mb_FB_voteRound 20 = .ok (.aaload, 1) := by decide +kernel
theorem md_FB_voteRound_21 : decode mb_FB_voteRound 21 = .ok (.getfield 119, 3) := by decide +kernel
theorem md_FB_voteRound_24 : decode mb_FB_voteRound 24 = .ok (.iload_n 1, 1) := by decide +kernel
theorem md_FB_voteRound_25 : decode mb_FB_voteRound 25 = .ok (.aaload, 1) := by decide +kernel
theorem md_FB_voteRound_26 : decode mb_FB_voteRound 26 = .ok (.getfield 146, 3) := by decide +kernel
theorem md_FB_voteRound_29 : decode mb_FB_voteRound 29 = .ok (.goto 4, 3) := by decide +kernel
theorem md_FB_voteRound_32 : decode mb_FB_voteRound 32 = .ok (.iconst (-1), 1) := by decide +kernel
theorem md_FB_voteRound_33 : decode mb_FB_voteRound 33 = .ok (.ireturn, 1) := by decide +kernel
theorem md_FB_leads_0 : decode mb_FB_leads 0 = .ok (.iload_n 1, 1) := by decide +kernel
theorem md_FB_leads_1 : decode mb_FB_leads 1 = .ok (.invokestatic 112, 3) := by decide +kernel
theorem md_FB_leads_4 : decode mb_FB_leads 4 = .ok (.ifCond .eq 26, 3) := by decide +kernel
theorem md_FB_leads_7 : decode mb_FB_leads 7 = .ok (.iload_n 2, 1) := by decide +kernel
theorem md_FB_leads_8 : decode mb_FB_leads 8 = .ok (.invokestatic 38, 3) := by decide +kernel
theorem md_FB_leads_11 : decode mb_FB_leads 11 = .ok (.ifCond .eq 19, 3) := by decide +kernel
theorem md_FB_leads_14 : decode mb_FB_leads 14 = .ok (.aload_n 0, 1) := by decide +kernel
theorem md_FB_leads_15 : decode mb_FB_leads 15 = .ok (.getfield 31, 3) := by decide +kernel
theorem md_FB_leads_18 : decode mb_FB_leads 18 = .ok (.iload_n 2, 1) := by decide +kernel
theorem md_FB_leads_19 : decode mb_FB_leads 19 = .ok (.aaload, 1) := by decide +kernel
theorem md_FB_leads_20 : decode mb_FB_leads 20 = .ok (.iload_n 1, 1) := by decide +kernel
theorem md_FB_leads_21 : decode mb_FB_leads 21 = .ok (.invokevirtual 63, 3) := by decide +kernel
theorem md_FB_leads_24 : decode mb_FB_leads 24 = .ok (.getfield 67, 3) := by decide +kernel
theorem md_FB_leads_27 : decode mb_FB_leads 27 = .ok (.goto 4, 3) := by decide +kernel
theorem md_FB_leads_30 : decode mb_FB_leads 30 = .ok (.iconst (-1), 1) := by decide +kernel
theorem md_FB_leads_31 : decode mb_FB_leads 31 = .ok (.ireturn, 1) := by decide +kernel
theorem md_FB_phase_0 : decode mb_FB_phase 0 = .ok (.iload_n 1, 1) := by decide +kernel
theorem md_FB_phase_1 : decode mb_FB_phase 1 = .ok (.invokestatic 112, 3) := by decide +kernel
theorem md_FB_phase_4 : decode mb_FB_phase 4 = .ok (.ifCond .eq 26, 3) := by decide +kernel
theorem md_FB_phase_7 : decode mb_FB_phase 7 = .ok (.iload_n 2, 1) := by decide +kernel
theorem md_FB_phase_8 : decode mb_FB_phase 8 = .ok (.invokestatic 38, 3) := by decide +kernel
theorem md_FB_phase_11 : decode mb_FB_phase 11 = .ok (.ifCond .eq 19, 3) := by decide +kernel
theorem md_FB_phase_14 : decode mb_FB_phase 14 = .ok (.aload_n 0, 1) := by decide +kernel
theorem md_FB_phase_15 : decode mb_FB_phase 15 = .ok (.getfield 31, 3) := by decide +kernel
theorem md_FB_phase_18 : decode mb_FB_phase 18 = .ok (.iload_n 2, 1) := by decide +kernel
theorem md_FB_phase_19 : decode mb_FB_phase 19 = .ok (.aaload, 1) := by decide +kernel
theorem md_FB_phase_20 : decode mb_FB_phase 20 = .ok (.iload_n 1, 1) := by decide +kernel
theorem md_FB_phase_21 : decode mb_FB_phase 21 = .ok (.invokevirtual 63, 3) := by decide +kernel
theorem md_FB_phase_24 : decode mb_FB_phase 24 = .ok (.getfield 149, 3) := by decide +kernel
theorem md_FB_phase_27 : decode mb_FB_phase 27 = .ok (.goto 4, 3) := by decide +kernel
theorem md_FB_phase_30 : decode mb_FB_phase 30 = .ok (.iconst (-1), 1) := by decide +kernel
theorem md_FB_phase_31 : decode mb_FB_phase 31 = .ok (.ireturn, 1) := by decide +kernel
theorem md_FB_learned_0 : decode mb_FB_learned 0 = .ok (.iload_n 1, 1) := by decide +kernel
theorem md_FB_learned_1 : decode mb_FB_learned 1 = .ok (.invokestatic 38, 3) := by decide +kernel
theorem md_FB_learned_4 : decode mb_FB_learned 4 = .ok (.ifCond .eq 18, 3) := by decide +kernel
theorem md_FB_learned_7 : decode mb_FB_learned 7 = .ok (.aload_n 0, 1) := by decide +kernel
theorem md_FB_learned_8 : decode mb_FB_learned 8 = .ok (.getfield 31, 3) := by decide +kernel
theorem md_FB_learned_11 : decode mb_FB_learned 11 = .ok (.iload_n 1, 1) := by decide +kernel
theorem md_FB_learned_12 : decode mb_FB_learned 12 = .ok (.aaload, 1) := by decide +kernel
theorem md_FB_learned_13 : decode mb_FB_learned 13 = .ok (.getfield 94, 3) := by decide +kernel
theorem md_FB_learned_16 : decode mb_FB_learned 16 = .ok (.getfield 152, 3) := by decide +kernel
theorem md_FB_learned_19 : decode mb_FB_learned 19 = .ok (.goto 4, 3) := by decide +kernel
theorem md_FB_learned_22 : decode mb_FB_learned 22 = .ok (.iconst (-1), 1) := by decide +kernel
theorem md_FB_learned_23 : decode mb_FB_learned 23 = .ok (.ireturn, 1) := by decide +kernel
theorem md_FB_chosen_0 : decode mb_FB_chosen 0 = .ok (.iload_n 1, 1) := by decide +kernel
theorem md_FB_chosen_1 : decode mb_FB_chosen 1 = .ok (.invokestatic 38, 3) := by decide +kernel
theorem md_FB_chosen_4 : decode mb_FB_chosen 4 = .ok (.ifCond .eq 18, 3) := by decide +kernel
theorem md_FB_chosen_7 : decode mb_FB_chosen 7 = .ok (.aload_n 0, 1) := by decide +kernel
theorem md_FB_chosen_8 : decode mb_FB_chosen 8 = .ok (.getfield 31, 3) := by decide +kernel
theorem md_FB_chosen_11 : decode mb_FB_chosen 11 = .ok (.iload_n 1, 1) := by decide +kernel
theorem md_FB_chosen_12 : decode mb_FB_chosen 12 = .ok (.aaload, 1) := by decide +kernel
theorem md_FB_chosen_13 : decode mb_FB_chosen 13 = .ok (.getfield 155, 3) := by decide +kernel
theorem md_FB_chosen_16 : decode mb_FB_chosen 16 = .ok (.getfield 152, 3) := by decide +kernel
theorem md_FB_chosen_19 : decode mb_FB_chosen 19 = .ok (.goto 4, 3) := by decide +kernel
theorem md_FB_chosen_22 : decode mb_FB_chosen 22 = .ok (.iconst (-1), 1) := by decide +kernel
theorem md_FB_chosen_23 : decode mb_FB_chosen 23 = .ok (.ireturn, 1) := by decide +kernel
theorem md_FB_votes_0 : decode mb_FB_votes 0 = .ok (.iload_n 1, 1) := by decide +kernel
theorem md_FB_votes_1 : decode mb_FB_votes 1 = .ok (.invokestatic 38, 3) := by decide +kernel
theorem md_FB_votes_4 : decode mb_FB_votes 4 = .ok (.ifCond .eq 17, 3) := by decide +kernel
theorem md_FB_votes_7 : decode mb_FB_votes 7 = .ok (.iload_n 2, 1) := by decide +kernel
theorem md_FB_votes_8 : decode mb_FB_votes 8 = .ok (.invokestatic 56, 3) := by decide +kernel
theorem md_FB_votes_11 : decode mb_FB_votes 11 = .ok (.ifCond .eq 10, 3) := by decide +kernel
theorem md_FB_votes_14 : decode mb_FB_votes 14 = .ok (.iload_n 3, 1) := by decide +kernel
theorem md_FB_votes_15 : decode mb_FB_votes 15 = .ok (.invokestatic 42, 3) := by decide +kernel
theorem md_FB_votes_18 : decode mb_FB_votes 18 = .ok (.ifCond .ne 5, 3) := by decide +kernel
theorem md_FB_votes_21 : decode mb_FB_votes 21 = .ok (.iconst (-1), 1) := by decide +kernel
theorem md_FB_votes_22 : decode mb_FB_votes 22 = .ok (.ireturn, 1) := by decide +kernel
theorem md_FB_votes_23 : decode mb_FB_votes 23 = .ok (.aload_n 0, 1) := by decide +kernel
theorem md_FB_votes_24 : decode mb_FB_votes 24 = .ok (.getfield 31, 3) := by decide +kernel
theorem md_FB_votes_27 : decode mb_FB_votes 27 = .ok (.iload_n 1, 1) := by decide +kernel
theorem md_FB_votes_28 : decode mb_FB_votes 28 = .ok (.aaload, 1) := by decide +kernel
theorem md_FB_votes_29 : decode mb_FB_votes 29 = .ok (.getfield 155, 3) := by decide +kernel
theorem md_FB_votes_32 : decode mb_FB_votes 32 = .ok (.iload_n 2, 1) := by decide +kernel
theorem md_FB_votes_33 : decode mb_FB_votes 33 = .ok (.iload_n 3, 1) := by decide +kernel
theorem md_FB_votes_34 : decode mb_FB_votes 34 = .ok (.invokevirtual 158, 3) := by decide +kernel
theorem md_FB_votes_37 : decode mb_FB_votes 37 = .ok (.ireturn, 1) := by decide +kernel
theorem md_FB_size_0 : decode mb_FB_size 0 = .ok (.iload_n 1, 1) := by decide +kernel
theorem md_FB_size_1 : decode mb_FB_size 1 = .ok (.tableswitch 51 0 2 #[27, 35, 43], 27) := by decide +kernel
theorem md_FB_size_28 : decode mb_FB_size 28 = .ok (.aload_n 0, 1) := by decide +kernel
theorem md_FB_size_29 : decode mb_FB_size 29 = .ok (.getfield 12, 3) := by decide +kernel
theorem md_FB_size_32 : decode mb_FB_size 32 = .ok (.getfield 45, 3) := by decide +kernel
theorem md_FB_size_35 : decode mb_FB_size 35 = .ok (.ireturn, 1) := by decide +kernel
theorem md_FB_size_36 : decode mb_FB_size 36 = .ok (.aload_n 0, 1) := by decide +kernel
theorem md_FB_size_37 : decode mb_FB_size 37 = .ok (.getfield 12, 3) := by decide +kernel
theorem md_FB_size_40 : decode mb_FB_size 40 = .ok (.getfield 162, 3) := by decide +kernel
theorem md_FB_size_43 : decode mb_FB_size 43 = .ok (.ireturn, 1) := by decide +kernel
theorem md_FB_size_44 : decode mb_FB_size 44 = .ok (.aload_n 0, 1) := by decide +kernel
theorem md_FB_size_45 : decode mb_FB_size 45 = .ok (.getfield 12, 3) := by decide +kernel
theorem md_FB_size_48 : decode mb_FB_size 48 = .ok (.getfield 165, 3) := by decide +kernel
theorem md_FB_size_51 : decode mb_FB_size 51 = .ok (.ireturn, 1) := by decide +kernel
theorem md_FB_size_52 : decode mb_FB_size 52 = .ok (.iconst (-1), 1) := by decide +kernel
theorem md_FB_size_53 : decode mb_FB_size 53 = .ok (.ireturn, 1) := by decide +kernel
/-- the program's memory at rest stands for the state S -/
def fr_I (n q f : Nat) (S : pz_T) (M : fr_M) : Prop := pz_Inv n q f S ∧ fr_R n q f S (fr_X S) M
theorem pz_sd_9 (S : pz_T) (g : pz_M) {s c : Nat} (hs : s < 3) : (pz_sd S g).2 s 9 c 0 = S.2 s 9 c 0 := by rw [pz_sd_2 S g hs]
theorem pz_pw_9 {S : pz_T} {s s' c : Nat} {p : pz_P} (h : ∀ d, p 9 d 0 = S.2 s 9 d 0) : (pz_pw S s p).2 s' 9 c 0 = S.2 s' 9 c 0 := by
  by_cases e : s' = s
  · subst e; rw [pz_pw_s]; exact h c
  · show pz_w S.2 s p s' 9 c 0 = _
    rw [pz_w_n e]
theorem pz_cast_9 {n q f s a r v s' c : Nat} {S : pz_T} (hs : s' < 3) : (pz_cast n q f S s a r v).2 s' 9 c 0 = S.2 s' 9 c 0 := by
  unfold pz_cast
  rw [pz_sd_9 _ _ hs, pz_sd_9 _ _ hs]
  exact pz_pw_9 (fun d => by unfold pz_v2 pz_v1; rw [pz_u_k (by decide), pz_u_k (by decide), pz_u_k (by decide), pz_u_k (by decide)])
theorem pz_accept_9 {n q f s a kd r v s' c : Nat} {S : pz_T} (hs : s' < 3) : (pz_accept n q f S s a kd r v).2 s' 9 c 0 = S.2 s' 9 c 0 := by
  have p1 : ∀ k x y v, k ≠ 9 → (pz_pw S s (pz_u (S.2 s) k x y v)).2 s' 9 c 0 = S.2 s' 9 c 0 := fun k x y v hk => pz_pw_9 (fun d => pz_u_k (Ne.symm hk))
  have p2 : ∀ k x y v k' x' y' v', k ≠ 9 → k' ≠ 9 → (pz_pw S s (pz_u (pz_u (S.2 s) k x y v) k' x' y' v')).2 s' 9 c 0 = S.2 s' 9 c 0 := fun k x y v k' x' y' v' hk hk' => pz_pw_9 (fun d => by rw [pz_u_k (Ne.symm hk'), pz_u_k (Ne.symm hk)])
  unfold pz_accept
  split
  · split
    · rw [pz_sd_9 _ _ hs]; exact p1 _ _ _ _ (by decide)
    · rfl
  · split
    · split
      · split
        · rw [pz_cast_9 hs]; exact p1 _ _ _ _ (by decide)
        · split
          · rw [pz_cast_9 hs]; exact p2 _ _ _ _ _ _ _ _ (by decide) (by decide)
          · exact p2 _ _ _ _ _ _ _ _ (by decide) (by decide)
      · rfl
    · split
      · split
        · split
          · rw [pz_cast_9 hs]; exact p1 _ _ _ _ (by decide)
          · exact p1 _ _ _ _ (by decide)
        · rfl
      · rfl
theorem pz_sa_9 {kd s r v s' c i : Nat} {S : pz_T} (hs : s' < 3) : (pz_sa kd s r v i S).2 s' 9 c 0 = S.2 s' 9 c 0 := by rw [pz_sa_2 _ _ _ _ _ hs]
theorem xi_zb {b : Nat} (h : b ≤ 1) : vp_nar .boolean (nI b) = nI b := by
  have e : b = 0 ∨ b = 1 := by omega
  rcases e with e | e
  · subst e; exact xi_z0
  · subst e; exact xi_z1
set_option maxHeartbeats 4000000 in
theorem k_propose (l : Launch) (D : va_G) {n : Nat} (ad : Nat × Nat → Nat) (cI cZ cS cA : ClassId) {M : fr_M} {q f : Nat} {S : pz_T} (hn : n ≤ 5) (hq5 : q ≤ 5) (hf5 : f ≤ 5) (Q : pz_Q n q f) (hI : fr_I n q f S M) {s v : Nat} (hs : s < 3) (hv1 : 1 ≤ v) (hv2 : v ≤ 1000) : fb_C l D n ad cI cZ cS cA my_FB_propose mb_FB_propose 4 (some .int) 1 28 M [.ref (ad (0, 0)), .int (nI (s)), .int (nI (v))] (some (.int (nI (pz_propose n S s v).1.length))) (fr_I n q f (pz_propose n S s v)) := by
  have h := hI.2
  have I := hI.1
  have h60 := I.1
  refine xw_start [.ref (ad (0, 0)), .int (nI (s)), .int (nI (v))] (by decide) (Nat.le_of_ble_eq_true rfl) ?_
  intro p e st m below meth cd0 ls Z hml hr hlk hN hl hw
  have hl : lv_has ls 4 [(0, .ref (ad (0, 0))), (1, .int (nI (s))), (2, .int (nI (v)))] := hl
  refine lv_iload_n Z.1 Z.2.1 md_FB_propose_0 rfl (lv_at hl 1 rfl) ?_
  refine xw_cS (n := 1) (rest := []) Z hml hl.1 hN hw (k_isSlot1 l D ad cI cZ cS cA (M := M) hs) tb_g mc_FB_isSlot mk_FB_38 mt_FB_isSlot mz_FB ⟨by decide, by decide, by decide +kernel⟩ ⟨Nat.le_of_ble_eq_true rfl, Nat.le_of_ble_eq_true rfl⟩ rfl rfl (Nat.le_of_ble_eq_true rfl) ⟨Nat.le_refl _, Nat.le_refl _⟩ md_FB_propose_1 (fun M1 H1 locs1 e1 hw => ?_)
  have ey1 := e1.symm
  subst ey1
  refine W.eq (g2 := F0 m 4 ls [.int (nI (1))]) rfl ?_
  refine xi_if_eq (tgt := 14) Z md_FB_propose_4 (by decide) (by omega) (fun h4 => by exfalso; omega) (fun h4 => ?_)
  refine lv_iload_n Z.1 Z.2.1 md_FB_propose_7 rfl (lv_at hl 2 rfl) ?_
  refine xw_cS (n := 1) (rest := []) Z hml hl.1 hN hw (k_isValue1 l D ad cI cZ cS cA (M := M) hv1 hv2) tb_g mc_FB_isValue mk_FB_42 mt_FB_isValue mz_FB ⟨by decide, by decide, by decide +kernel⟩ ⟨Nat.le_of_ble_eq_true rfl, Nat.le_of_ble_eq_true rfl⟩ rfl rfl (Nat.le_of_ble_eq_true rfl) ⟨Nat.le_refl _, Nat.le_refl _⟩ md_FB_propose_8 (fun M2 H2 locs2 e2 hw => ?_)
  have ey2 := e2.symm
  subst ey2
  refine W.eq (g2 := F0 m 11 ls [.int (nI (1))]) rfl ?_
  refine xi_if_ne (tgt := 16) Z md_FB_propose_11 (by decide) (by omega) (fun h11 => ?_) (fun h11 => by exfalso; omega)
  refine lv_iconst (v := nI 0) Z.1 Z.2.1 md_FB_propose_16 (by decide) ?_
  refine lv_istore_n Z.1 Z.2.1 md_FB_propose_17 rfl hl (by decide) rfl (fun ls hl => ?_)
  have hl : lv_has ls 4 [(3, .int (nI (0))), (0, .ref (ad (0, 0))), (1, .int (nI (s))), (2, .int (nI (v)))] := hl
  have loop18 : ∀ (d i : Nat) (Mi : fr_M) (Hi : Heap) (Li : List Loc) (ls : Array Slot), i + d = n → (fr_K n q f (pz_sa 1 s 0 v i S) (fr_X S) M Mi) → xw_H D tb_cl (xw_A (fb_ids n) ad) st.heap (fb_ids n) ad (xw_M (fb_k n ad cI cZ cS cA) Mi) Hi Li → lv_has ls 4 [(3, .int (nI (i))), (0, .ref (ad (0, 0))), (1, .int (nI (s))), (2, .int (nI (v)))] → W p l e { frames := 1, cells := 0, slots := 0, locals := 28 } st m [.ref (ad (0, 0)), .int (nI (s)), .int (nI (v))].toArray below meth cd0 Hi Li 0 0 (MQ below (xw_Qc D tb_cl (fb_ids n) ad (fb_k n ad cI cZ cS cA) (some (.int (nI (pz_propose n S s v).1.length))) (fr_I n q f (pz_propose n S s v))) [.ref (ad (0, 0)), .int (nI (s)), .int (nI (v))].toArray st 0 0 (xw_A (fb_ids n) ad)) (F0 m 18 ls []) := by
    intro d
    induction d with
    | zero =>
      intro i Mi Hi Li ls hi hinv hw hl
      refine lv_iload_n Z.1 Z.2.1 md_FB_propose_18 rfl (lv_at hl 0 rfl) ?_
      refine lv_aload_n Z.1 Z.2.1 md_FB_propose_19 rfl (lv_at hl 1 rfl) ?_
      refine xb_get (v := .ref (ad (1, 0))) Z hw (fb_in0 n) (fb_e0 n ad cI cZ cS cA) rfl tb_iFB 0 (by decide) mk_FB_12 rfl rfl md_FB_propose_20 ?_
      refine xb_get (v := .int (Mi (1, 0) 0)) Z hw (fb_in1 n) (fb_e1 n ad cI cZ cS cA) rfl tb_iSiz 0 (by decide) mk_FB_45 rfl rfl md_FB_propose_23 ?_
      refine xi_re (show Mi (1, 0) 0 = nI (n) from hinv.1.1.1) ?_
      refine xi_icmp_ge (tgt := 49) Z md_FB_propose_26 (by decide) (by omega) (by omega) (fun h26 => ?_) (fun h26 => by exfalso; omega)
      rw [show i = n by omega] at hinv
      refine lv_aload_n Z.1 Z.2.1 md_FB_propose_49 rfl (lv_at hl 1 rfl) ?_
      refine xb_get (v := .ref (ad (2, 0))) Z hw (fb_in0 n) (fb_e0 n ad cI cZ cS cA) rfl tb_iFB 1 (by decide) mk_FB_21 rfl rfl md_FB_propose_50 ?_
      refine lv_iconst (v := nI 1) Z.1 Z.2.1 md_FB_propose_53 (by decide) ?_
      refine lv_iload_n Z.1 Z.2.1 md_FB_propose_54 rfl (lv_at hl 2 rfl) ?_
      refine lv_iconst (v := nI 0) Z.1 Z.2.1 md_FB_propose_55 (by decide) ?_
      refine lv_iconst (v := -1) Z.1 Z.2.1 md_FB_propose_56 (by decide) ?_
      refine lv_bipush (v := nI 8) Z.1 Z.2.1 md_FB_propose_57 (by decide) ?_
      refine lv_iload_n Z.1 Z.2.1 md_FB_propose_59 rfl (lv_at hl 3 rfl) ?_
      refine lv_iconst (v := nI 0) Z.1 Z.2.1 md_FB_propose_60 (by decide) ?_
      refine xw_cV (n := 7) (rest := []) Z hml hl.1 hN hw (k_send (g := pz_mg 1 s 0 0 8 v 0) (x := -1) l D ad cI cZ cS cA hinv.1 (fr_sa_len h60 n) (fun z => absurd z (show ¬ (1 = 3 ∨ 1 = 5) by decide))) tb_g mc_Mail_send mk_FB_49 mi_Mail_send ms_Mail_send mz_Mail ⟨by decide, by decide, by decide +kernel⟩ ⟨Nat.le_of_ble_eq_true rfl, Nat.le_of_ble_eq_true rfl⟩ (fb_in2 n) (fb_e2 n ad cI cZ cS cA _) rfl rfl rfl rfl (Nat.le_of_ble_eq_true rfl) ⟨Nat.le_refl _, Nat.le_refl _⟩ md_FB_propose_61 (fun M3 H3 locs3 hp8 hw => ?_)
      refine W.eq (g2 := F0 m 64 ls []) rfl ?_
      refine lv_aload_n Z.1 Z.2.1 md_FB_propose_64 rfl (lv_at hl 1 rfl) ?_
      refine xb_get (v := .ref (ad (2, 0))) Z hw (fb_in0 n) (fb_e0 n ad cI cZ cS cA) rfl tb_iFB 1 (by decide) mk_FB_21 rfl rfl md_FB_propose_65 ?_
      refine lv_iconst (v := nI 1) Z.1 Z.2.1 md_FB_propose_68 (by decide) ?_
      refine lv_iload_n Z.1 Z.2.1 md_FB_propose_69 rfl (lv_at hl 2 rfl) ?_
      refine lv_iconst (v := nI 0) Z.1 Z.2.1 md_FB_propose_70 (by decide) ?_
      refine lv_iconst (v := -1) Z.1 Z.2.1 md_FB_propose_71 (by decide) ?_
      refine lv_bipush (v := nI 9) Z.1 Z.2.1 md_FB_propose_72 (by decide) ?_
      refine lv_iload_n Z.1 Z.2.1 md_FB_propose_74 rfl (lv_at hl 3 rfl) ?_
      refine lv_iconst (v := nI 0) Z.1 Z.2.1 md_FB_propose_75 (by decide) ?_
      refine xw_cV (n := 7) (rest := []) Z hml hl.1 hN hw (k_send (g := pz_mg 1 s 0 0 9 v 0) (x := -1) l D ad cI cZ cS cA hp8.1 (fr_sd_len (fr_sa_len h60 n)) (fun z => absurd z (show ¬ (1 = 3 ∨ 1 = 5) by decide))) tb_g mc_Mail_send mk_FB_49 mi_Mail_send ms_Mail_send mz_Mail ⟨by decide, by decide, by decide +kernel⟩ ⟨Nat.le_of_ble_eq_true rfl, Nat.le_of_ble_eq_true rfl⟩ (fb_in2 n) (fb_e2 n ad cI cZ cS cA _) rfl rfl rfl rfl (Nat.le_of_ble_eq_true rfl) ⟨Nat.le_refl _, Nat.le_refl _⟩ md_FB_propose_76 (fun M4 H4 locs4 hp9 hw => ?_)
      refine W.eq (g2 := F0 m 79 ls []) rfl ?_
      refine lv_aload_n Z.1 Z.2.1 md_FB_propose_79 rfl (lv_at hl 1 rfl) ?_
      refine xb_get (v := .ref (ad (2, 0))) Z hw (fb_in0 n) (fb_e0 n ad cI cZ cS cA) rfl tb_iFB 1 (by decide) mk_FB_21 rfl rfl md_FB_propose_80 ?_
      refine xb_get (v := .int (M4 (2, 0) 2)) Z hw (fb_in2 n) (fb_e2 n ad cI cZ cS cA) rfl tb_iMail 2 (by decide) mk_FB_53 rfl rfl md_FB_propose_83 ?_
      refine xi_re (show M4 (2, 0) 2 = nI ((pz_propose n S s v).1.length) from hp9.1.2.1.1) ?_
      exact xw_iret Z hr hlk hw md_FB_propose_86 rfl ⟨pz_propose_Inv I hs hv1 hv2, fr_fin2 hp9.1 (fun s' c' hs' _ => by unfold pz_propose; rw [pz_sd_9 _ _ hs', pz_sd_9 _ _ hs', pz_sa_9 hs'])⟩
    | succ d ih =>
      intro i Mi Hi Li ls hi hinv hw hl
      refine lv_iload_n Z.1 Z.2.1 md_FB_propose_18 rfl (lv_at hl 0 rfl) ?_
      refine lv_aload_n Z.1 Z.2.1 md_FB_propose_19 rfl (lv_at hl 1 rfl) ?_
      refine xb_get (v := .ref (ad (1, 0))) Z hw (fb_in0 n) (fb_e0 n ad cI cZ cS cA) rfl tb_iFB 0 (by decide) mk_FB_12 rfl rfl md_FB_propose_20 ?_
      refine xb_get (v := .int (Mi (1, 0) 0)) Z hw (fb_in1 n) (fb_e1 n ad cI cZ cS cA) rfl tb_iSiz 0 (by decide) mk_FB_45 rfl rfl md_FB_propose_23 ?_
      refine xi_re (show Mi (1, 0) 0 = nI (n) from hinv.1.1.1) ?_
      refine xi_icmp_ge (tgt := 49) Z md_FB_propose_26 (by decide) (by omega) (by omega) (fun h26 => by exfalso; omega) (fun h26 => ?_)
      refine lv_aload_n Z.1 Z.2.1 md_FB_propose_29 rfl (lv_at hl 1 rfl) ?_
      refine xb_get (v := .ref (ad (2, 0))) Z hw (fb_in0 n) (fb_e0 n ad cI cZ cS cA) rfl tb_iFB 1 (by decide) mk_FB_21 rfl rfl md_FB_propose_30 ?_
      refine lv_iconst (v := nI 1) Z.1 Z.2.1 md_FB_propose_33 (by decide) ?_
      refine lv_iload_n Z.1 Z.2.1 md_FB_propose_34 rfl (lv_at hl 2 rfl) ?_
      refine lv_iconst (v := nI 0) Z.1 Z.2.1 md_FB_propose_35 (by decide) ?_
      refine lv_iconst (v := -1) Z.1 Z.2.1 md_FB_propose_36 (by decide) ?_
      refine lv_iload_n Z.1 Z.2.1 md_FB_propose_37 rfl (lv_at hl 0 rfl) ?_
      refine lv_iload_n Z.1 Z.2.1 md_FB_propose_38 rfl (lv_at hl 3 rfl) ?_
      refine lv_iconst (v := nI 0) Z.1 Z.2.1 md_FB_propose_39 (by decide) ?_
      refine xw_cV (n := 7) (rest := []) Z hml hl.1 hN hw (k_send (g := pz_mg 1 s 0 0 i v 0) (x := -1) l D ad cI cZ cS cA hinv.1 (fr_sa_len h60 i) (fun z => absurd z (show ¬ (1 = 3 ∨ 1 = 5) by decide))) tb_g mc_Mail_send mk_FB_49 mi_Mail_send ms_Mail_send mz_Mail ⟨by decide, by decide, by decide +kernel⟩ ⟨Nat.le_of_ble_eq_true rfl, Nat.le_of_ble_eq_true rfl⟩ (fb_in2 n) (fb_e2 n ad cI cZ cS cA _) rfl rfl rfl rfl (Nat.le_of_ble_eq_true rfl) ⟨Nat.le_refl _, Nat.le_refl _⟩ md_FB_propose_40 (fun M5 H5 locs5 hp hw => ?_)
      refine W.eq (g2 := F0 m 43 ls []) rfl ?_
      refine lv_iinc Z.1 Z.2.1 md_FB_propose_43 hl (k := 0) rfl (xi_inc1 (i)) (by decide) rfl (fun ls hl => ?_)
      have hl : lv_has ls 4 [(3, .int (nI (i + 1))), (0, .ref (ad (0, 0))), (1, .int (nI (s))), (2, .int (nI (v)))] := hl
      refine lv_goto (tgt := 18) Z.1 Z.2.1 md_FB_propose_46 (by decide) ?_
      refine ih (i + 1) M5 _ _ ls (by omega) (⟨hp.1, by rw [hp.2]; exact hinv.2⟩) hw ?_
      exact lv_sub hl [0, 1, 2, 3] rfl
  exact loop18 n (0) M _ _ ls (by omega) ⟨h, rfl⟩ hw (lv_sub hl [0, 1, 2, 3] rfl)
set_option maxHeartbeats 4000000 in
theorem k_propose_b1 (l : Launch) (D : va_G) {n : Nat} (ad : Nat × Nat → Nat) (cI cZ cS cA : ClassId) {M : fr_M} {x : Int32} (hx : x < 0 ∨ nI 3 ≤ x) {y : Int32} : fb_C l D n ad cI cZ cS cA my_FB_propose mb_FB_propose 4 (some .int) 1 20 M [.ref (ad (0, 0)), .int (x), .int (y)] (some (.int (-1))) (fun M' => M' = M) := by
  refine xw_start [.ref (ad (0, 0)), .int (x), .int (y)] (by decide) (Nat.le_of_ble_eq_true rfl) ?_
  intro p e st m below meth cd0 ls Z hml hr hlk hN hl hw
  have hl : lv_has ls 4 [(0, .ref (ad (0, 0))), (1, .int (x)), (2, .int (y))] := hl
  refine lv_iload_n Z.1 Z.2.1 md_FB_propose_0 rfl (lv_at hl 1 rfl) ?_
  refine xw_cS (n := 1) (rest := []) Z hml hl.1 hN hw (k_isSlot0 l D ad cI cZ cS cA (M := M) hx) tb_g mc_FB_isSlot mk_FB_38 mt_FB_isSlot mz_FB ⟨by decide, by decide, by decide +kernel⟩ ⟨Nat.le_of_ble_eq_true rfl, Nat.le_of_ble_eq_true rfl⟩ rfl rfl (Nat.le_of_ble_eq_true rfl) ⟨Nat.le_refl _, Nat.le_refl _⟩ md_FB_propose_1 (fun M1 H1 locs1 e1 hw => ?_)
  have ey1 := e1.symm
  subst ey1
  refine W.eq (g2 := F0 m 4 ls [.int (nI (0))]) rfl ?_
  refine xi_if_eq (tgt := 14) Z md_FB_propose_4 (by decide) (by omega) (fun h4 => ?_) (fun h4 => by exfalso; omega)
  refine lv_iconst (v := -1) Z.1 Z.2.1 md_FB_propose_14 (by decide) ?_
  exact xw_iret Z hr hlk hw md_FB_propose_15 rfl rfl
set_option maxHeartbeats 4000000 in
theorem k_begin_b1 (l : Launch) (D : va_G) {n : Nat} (ad : Nat × Nat → Nat) (cI cZ cS cA : ClassId) {M : fr_M} {x : Int32} (hx : x < 0 ∨ nI 3 ≤ x) {y : Int32} : fb_C l D n ad cI cZ cS cA my_FB_begin mb_FB_begin 5 (some .int) 1 20 M [.ref (ad (0, 0)), .int (x), .int (y)] (some (.int (-1))) (fun M' => M' = M) := by
  refine xw_start [.ref (ad (0, 0)), .int (x), .int (y)] (by decide) (Nat.le_of_ble_eq_true rfl) ?_
  intro p e st m below meth cd0 ls Z hml hr hlk hN hl hw
  have hl : lv_has ls 5 [(0, .ref (ad (0, 0))), (1, .int (x)), (2, .int (y))] := hl
  refine lv_iload_n Z.1 Z.2.1 md_FB_begin_0 rfl (lv_at hl 1 rfl) ?_
  refine xw_cS (n := 1) (rest := []) Z hml hl.1 hN hw (k_isSlot0 l D ad cI cZ cS cA (M := M) hx) tb_g mc_FB_isSlot mk_FB_38 mt_FB_isSlot mz_FB ⟨by decide, by decide, by decide +kernel⟩ ⟨Nat.le_of_ble_eq_true rfl, Nat.le_of_ble_eq_true rfl⟩ rfl rfl (Nat.le_of_ble_eq_true rfl) ⟨Nat.le_refl _, Nat.le_refl _⟩ md_FB_begin_1 (fun M1 H1 locs1 e1 hw => ?_)
  have ey1 := e1.symm
  subst ey1
  refine W.eq (g2 := F0 m 4 ls [.int (nI (0))]) rfl ?_
  refine xi_if_eq (tgt := 14) Z md_FB_begin_4 (by decide) (by omega) (fun h4 => ?_) (fun h4 => by exfalso; omega)
  refine lv_iconst (v := -1) Z.1 Z.2.1 md_FB_begin_14 (by decide) ?_
  exact xw_iret Z hr hlk hw md_FB_begin_15 rfl rfl
set_option maxHeartbeats 4000000 in
theorem k_propose_b2 (l : Launch) (D : va_G) {n : Nat} (ad : Nat × Nat → Nat) (cI cZ cS cA : ClassId) {M : fr_M} {s : Nat} (hs : s < 3) {y : Int32} (hy : y < nI 1 ∨ nI 1000 < y) : fb_C l D n ad cI cZ cS cA my_FB_propose mb_FB_propose 4 (some .int) 1 20 M [.ref (ad (0, 0)), .int (nI (s)), .int (y)] (some (.int (-1))) (fun M' => M' = M) := by
  refine xw_start [.ref (ad (0, 0)), .int (nI (s)), .int (y)] (by decide) (Nat.le_of_ble_eq_true rfl) ?_
  intro p e st m below meth cd0 ls Z hml hr hlk hN hl hw
  have hl : lv_has ls 4 [(0, .ref (ad (0, 0))), (1, .int (nI (s))), (2, .int (y))] := hl
  refine lv_iload_n Z.1 Z.2.1 md_FB_propose_0 rfl (lv_at hl 1 rfl) ?_
  refine xw_cS (n := 1) (rest := []) Z hml hl.1 hN hw (k_isSlot1 l D ad cI cZ cS cA (M := M) hs) tb_g mc_FB_isSlot mk_FB_38 mt_FB_isSlot mz_FB ⟨by decide, by decide, by decide +kernel⟩ ⟨Nat.le_of_ble_eq_true rfl, Nat.le_of_ble_eq_true rfl⟩ rfl rfl (Nat.le_of_ble_eq_true rfl) ⟨Nat.le_refl _, Nat.le_refl _⟩ md_FB_propose_1 (fun M1 H1 locs1 e1 hw => ?_)
  have ey1 := e1.symm
  subst ey1
  refine W.eq (g2 := F0 m 4 ls [.int (nI (1))]) rfl ?_
  refine xi_if_eq (tgt := 14) Z md_FB_propose_4 (by decide) (by omega) (fun h4 => by exfalso; omega) (fun h4 => ?_)
  refine lv_iload_n Z.1 Z.2.1 md_FB_propose_7 rfl (lv_at hl 2 rfl) ?_
  refine xw_cS (n := 1) (rest := []) Z hml hl.1 hN hw (k_isValue0 l D ad cI cZ cS cA (M := M) hy) tb_g mc_FB_isValue mk_FB_42 mt_FB_isValue mz_FB ⟨by decide, by decide, by decide +kernel⟩ ⟨Nat.le_of_ble_eq_true rfl, Nat.le_of_ble_eq_true rfl⟩ rfl rfl (Nat.le_of_ble_eq_true rfl) ⟨Nat.le_refl _, Nat.le_refl _⟩ md_FB_propose_8 (fun M2 H2 locs2 e2 hw => ?_)
  have ey2 := e2.symm
  subst ey2
  refine W.eq (g2 := F0 m 11 ls [.int (nI (0))]) rfl ?_
  refine xi_if_ne (tgt := 16) Z md_FB_propose_11 (by decide) (by omega) (fun h11 => by exfalso; omega) (fun h11 => ?_)
  refine lv_iconst (v := -1) Z.1 Z.2.1 md_FB_propose_14 (by decide) ?_
  exact xw_iret Z hr hlk hw md_FB_propose_15 rfl rfl
set_option maxHeartbeats 4000000 in
theorem k_begin_b2 (l : Launch) (D : va_G) {n : Nat} (ad : Nat × Nat → Nat) (cI cZ cS cA : ClassId) {M : fr_M} {s : Nat} (hs : s < 3) {y : Int32} (hy : y < nI 1 ∨ nI 12 < y) : fb_C l D n ad cI cZ cS cA my_FB_begin mb_FB_begin 5 (some .int) 1 20 M [.ref (ad (0, 0)), .int (nI (s)), .int (y)] (some (.int (-1))) (fun M' => M' = M) := by
  refine xw_start [.ref (ad (0, 0)), .int (nI (s)), .int (y)] (by decide) (Nat.le_of_ble_eq_true rfl) ?_
  intro p e st m below meth cd0 ls Z hml hr hlk hN hl hw
  have hl : lv_has ls 5 [(0, .ref (ad (0, 0))), (1, .int (nI (s))), (2, .int (y))] := hl
  refine lv_iload_n Z.1 Z.2.1 md_FB_begin_0 rfl (lv_at hl 1 rfl) ?_
  refine xw_cS (n := 1) (rest := []) Z hml hl.1 hN hw (k_isSlot1 l D ad cI cZ cS cA (M := M) hs) tb_g mc_FB_isSlot mk_FB_38 mt_FB_isSlot mz_FB ⟨by decide, by decide, by decide +kernel⟩ ⟨Nat.le_of_ble_eq_true rfl, Nat.le_of_ble_eq_true rfl⟩ rfl rfl (Nat.le_of_ble_eq_true rfl) ⟨Nat.le_refl _, Nat.le_refl _⟩ md_FB_begin_1 (fun M1 H1 locs1 e1 hw => ?_)
  have ey1 := e1.symm
  subst ey1
  refine W.eq (g2 := F0 m 4 ls [.int (nI (1))]) rfl ?_
  refine xi_if_eq (tgt := 14) Z md_FB_begin_4 (by decide) (by omega) (fun h4 => by exfalso; omega) (fun h4 => ?_)
  refine lv_iload_n Z.1 Z.2.1 md_FB_begin_7 rfl (lv_at hl 2 rfl) ?_
  refine xw_cS (n := 1) (rest := []) Z hml hl.1 hN hw (k_isRound0 l D ad cI cZ cS cA (M := M) hy) tb_g mc_FB_isRound mk_FB_56 mt_FB_isRound mz_FB ⟨by decide, by decide, by decide +kernel⟩ ⟨Nat.le_of_ble_eq_true rfl, Nat.le_of_ble_eq_true rfl⟩ rfl rfl (Nat.le_of_ble_eq_true rfl) ⟨Nat.le_refl _, Nat.le_refl _⟩ md_FB_begin_8 (fun M2 H2 locs2 e2 hw => ?_)
  have ey2 := e2.symm
  subst ey2
  refine W.eq (g2 := F0 m 11 ls [.int (nI (0))]) rfl ?_
  refine xi_if_ne (tgt := 16) Z md_FB_begin_11 (by decide) (by omega) (fun h11 => by exfalso; omega) (fun h11 => ?_)
  refine lv_iconst (v := -1) Z.1 Z.2.1 md_FB_begin_14 (by decide) ?_
  exact xw_iret Z hr hlk hw md_FB_begin_15 rfl rfl
set_option maxHeartbeats 4000000 in
theorem k_begin (l : Launch) (D : va_G) {n : Nat} (ad : Nat × Nat → Nat) (cI cZ cS cA : ClassId) {M : fr_M} {q f : Nat} {S : pz_T} (hn : n ≤ 5) (hq5 : q ≤ 5) (hf5 : f ≤ 5) (Q : pz_Q n q f) (hI : fr_I n q f S M) {s r c : Nat} (hs : s < 3) (hr1 : 1 ≤ r) (hr12 : r ≤ 12) (hci : pz_ci r = c) (hno : S.2 3 14 (8 + c) 0 = 0) (hgo : S.2 s 8 c 0 < r) : fb_C l D n ad cI cZ cS cA my_FB_begin mb_FB_begin 5 (some .int) 3 72 M [.ref (ad (0, 0)), .int (nI (s)), .int (nI (r))] (some (.int (nI (pz_begin n S s r).1.length))) (fr_I n q f (pz_begin n S s r)) := by
  have h := hI.2
  have I := hI.1
  have h60 := I.1
  have hc : c < 2 := by rw [← hci]; exact pz_ci_lt r
  refine xw_start [.ref (ad (0, 0)), .int (nI (s)), .int (nI (r))] (by decide) (Nat.le_of_ble_eq_true rfl) ?_
  intro p e st m below meth cd0 ls Z hml hr hlk hN hl hw
  have hl : lv_has ls 5 [(0, .ref (ad (0, 0))), (1, .int (nI (s))), (2, .int (nI (r)))] := hl
  refine lv_iload_n Z.1 Z.2.1 md_FB_begin_0 rfl (lv_at hl 1 rfl) ?_
  refine xw_cS (n := 1) (rest := []) Z hml hl.1 hN hw (k_isSlot1 l D ad cI cZ cS cA (M := M) hs) tb_g mc_FB_isSlot mk_FB_38 mt_FB_isSlot mz_FB ⟨by decide, by decide, by decide +kernel⟩ ⟨Nat.le_of_ble_eq_true rfl, Nat.le_of_ble_eq_true rfl⟩ rfl rfl (Nat.le_of_ble_eq_true rfl) ⟨Nat.le_refl _, Nat.le_refl _⟩ md_FB_begin_1 (fun M1 H1 locs1 e1 hw => ?_)
  have ey1 := e1.symm
  subst ey1
  refine W.eq (g2 := F0 m 4 ls [.int (nI (1))]) rfl ?_
  refine xi_if_eq (tgt := 14) Z md_FB_begin_4 (by decide) (by omega) (fun h4 => by exfalso; omega) (fun h4 => ?_)
  refine lv_iload_n Z.1 Z.2.1 md_FB_begin_7 rfl (lv_at hl 2 rfl) ?_
  refine xw_cS (n := 1) (rest := []) Z hml hl.1 hN hw (k_isRound1 l D ad cI cZ cS cA (M := M) hr1 hr12) tb_g mc_FB_isRound mk_FB_56 mt_FB_isRound mz_FB ⟨by decide, by decide, by decide +kernel⟩ ⟨Nat.le_of_ble_eq_true rfl, Nat.le_of_ble_eq_true rfl⟩ rfl rfl (Nat.le_of_ble_eq_true rfl) ⟨Nat.le_refl _, Nat.le_refl _⟩ md_FB_begin_8 (fun M2 H2 locs2 e2 hw => ?_)
  have ey2 := e2.symm
  subst ey2
  refine W.eq (g2 := F0 m 11 ls [.int (nI (1))]) rfl ?_
  refine xi_if_ne (tgt := 16) Z md_FB_begin_11 (by decide) (by omega) (fun h11 => ?_) (fun h11 => by exfalso; omega)
  refine lv_iload_n Z.1 Z.2.1 md_FB_begin_16 rfl (lv_at hl 2 rfl) ?_
  refine xw_cS (n := 1) (rest := []) Z hml hl.1 hN hw (k_coordinatorOf l D ad cI cZ cS cA (M := M) hr1 (by omega)) tb_g mc_FB_coordinatorOf mk_FB_59 mt_FB_coordinatorOf mz_FB ⟨by decide, by decide, by decide +kernel⟩ ⟨Nat.le_of_ble_eq_true rfl, Nat.le_of_ble_eq_true rfl⟩ rfl rfl (Nat.le_of_ble_eq_true rfl) ⟨Nat.le_refl _, Nat.le_refl _⟩ md_FB_begin_17 (fun M3 H3 locs3 e3 hw => ?_)
  have ey3 := e3.symm
  subst ey3
  refine W.eq (g2 := F0 m 20 ls [.int (nI (8 + pz_ci r))]) rfl ?_
  refine xi_re (show _ = nI (8 + c) from (by rw [hci])) ?_
  refine lv_istore_n Z.1 Z.2.1 md_FB_begin_20 rfl hl (by decide) rfl (fun ls hl => ?_)
  have hl : lv_has ls 5 [(3, .int (nI (8 + c))), (0, .ref (ad (0, 0))), (1, .int (nI (s))), (2, .int (nI (r)))] := hl
  refine lv_aload_n Z.1 Z.2.1 md_FB_begin_21 rfl (lv_at hl 1 rfl) ?_
  refine xb_get (v := .ref (ad (3, 0))) Z hw (fb_in0 n) (fb_e0 n ad cI cZ cS cA) rfl tb_iFB 2 (by decide) mk_FB_31 rfl rfl md_FB_begin_22 ?_
  refine lv_iload_n Z.1 Z.2.1 md_FB_begin_25 rfl (lv_at hl 2 rfl) ?_
  refine xw_aald (a := ad (7, s)) Z hw (fb_in3 n) (fb_e3 n ad cI cZ cS cA (M (3, 0))) 2 rfl (s) rfl hs (by omega) rfl md_FB_begin_26 ?_
  refine lv_iload_n Z.1 Z.2.1 md_FB_begin_27 rfl (lv_at hl 0 rfl) ?_
  refine xw_cV (n := 1) (rest := []) Z hml hl.1 hN hw (k_coordinator l D ad cI cZ cS cA (M := M) hs hc) tb_g mc_Slt_coordinator mk_FB_63 mi_Slt_coordinator ms_Slt_coordinator mz_Slt ⟨by decide, by decide, by decide +kernel⟩ ⟨Nat.le_of_ble_eq_true rfl, Nat.le_of_ble_eq_true rfl⟩ (fb_in7 n hs) (fb_e7 n ad cI cZ cS cA (s) _) rfl rfl rfl rfl (Nat.le_of_ble_eq_true rfl) ⟨Nat.le_refl _, Nat.le_refl _⟩ md_FB_begin_28 (fun M4 H4 locs4 e4 hw => ?_)
  have ey4 := e4.symm
  subst ey4
  refine W.eq (g2 := F0 m 31 ls [.ref (ad (9, 2 * s + c))]) rfl ?_
  refine lv_astore Z.1 Z.2.1 md_FB_begin_31 hl (by decide) rfl (fun ls hl => ?_)
  have hl : lv_has ls 5 [(4, .ref (ad (9, 2 * s + c))), (3, .int (nI (8 + c))), (0, .ref (ad (0, 0))), (1, .int (nI (s))), (2, .int (nI (r)))] := hl
  refine lv_aload_n Z.1 Z.2.1 md_FB_begin_33 rfl (lv_at hl 2 rfl) ?_
  refine xb_get (v := .ref (ad (4, 0))) Z hw (fb_in0 n) (fb_e0 n ad cI cZ cS cA) rfl tb_iFB 3 (by decide) mk_FB_25 rfl rfl md_FB_begin_34 ?_
  refine lv_iload_n Z.1 Z.2.1 md_FB_begin_37 rfl (lv_at hl 1 rfl) ?_
  refine xw_zald Z hw (fb_in4 n) (fb_e4 n ad cI cZ cS cA) 1 rfl (8 + c) rfl (by omega) (by omega) md_FB_begin_38 ?_
  refine xi_re (show M (4, 0) (8 + c) = nI (S.2 3 14 (8 + c) 0) from h.2.2.1 (8 + c) (by omega)) ?_
  have l14 := I.2.2.2 (8 + c)
  refine xi_if_ne (tgt := 51) Z md_FB_begin_39 (by decide) (by omega) (fun h39 => by exfalso; omega) (fun h39 => ?_)
  refine lv_iload_n Z.1 Z.2.1 md_FB_begin_42 rfl (lv_at hl 4 rfl) ?_
  refine lv_aload Z.1 Z.2.1 md_FB_begin_43 (lv_at hl 0 rfl) ?_
  refine xb_get (v := .int (M (9, 2 * s + c) 3)) Z hw (fb_in9 n hs hc) (fb_e9 n ad cI cZ cS cA (2 * s + c)) rfl tb_iCor 3 (by decide) mk_FB_67 rfl rfl md_FB_begin_45 ?_
  refine xi_re (show M (9, 2 * s + c) 3 = nI (S.2 s 8 c 0) from (fr_c h hs hc).2.1) ?_
  have l8 := (I.2.1 s hs).2.2.2.2.2.1 c hc |>.1
  refine xi_icmp_gt (tgt := 53) Z md_FB_begin_48 (by decide) (by omega) (by omega) (fun h48 => ?_) (fun h48 => by exfalso; omega)
  refine lv_aload Z.1 Z.2.1 md_FB_begin_53 (lv_at hl 0 rfl) ?_
  refine lv_iload_n Z.1 Z.2.1 md_FB_begin_55 rfl (lv_at hl 4 rfl) ?_
  refine xw_cV (n := 1) (rest := []) Z hml hl.1 hN hw (k_startAsking (r := r) l D ad cI cZ cS cA hn h hs hc h60 hci) tb_g mc_Cor_startAsking mk_FB_72 mi_Cor_startAsking ms_Cor_startAsking mz_Cor ⟨by decide, by decide, by decide +kernel⟩ ⟨Nat.le_of_ble_eq_true rfl, Nat.le_of_ble_eq_true rfl⟩ (fb_in9 n hs hc) (fb_e9 n ad cI cZ cS cA (2 * s + c) _) rfl rfl rfl rfl (Nat.le_of_ble_eq_true rfl) ⟨Nat.le_refl _, Nat.le_refl _⟩ md_FB_begin_56 (fun M5 H5 locs5 ha hw => ?_)
  refine W.eq (g2 := F0 m 59 ls []) rfl ?_
  refine lv_aload_n Z.1 Z.2.1 md_FB_begin_59 rfl (lv_at hl 2 rfl) ?_
  refine xb_get (v := .ref (ad (2, 0))) Z hw (fb_in0 n) (fb_e0 n ad cI cZ cS cA) rfl tb_iFB 1 (by decide) mk_FB_21 rfl rfl md_FB_begin_60 ?_
  refine xb_get (v := .int (M5 (2, 0) 2)) Z hw (fb_in2 n) (fb_e2 n ad cI cZ cS cA) rfl tb_iMail 2 (by decide) mk_FB_53 rfl rfl md_FB_begin_63 ?_
  refine xi_re (show M5 (2, 0) 2 = nI ((pz_begin n S s r).1.length) from ha.1.2.1.1) ?_
  refine xw_iret Z hr hlk hw md_FB_begin_66 rfl ⟨pz_begin_Inv Q I hs hr1 hr12 (by rw [hci]; exact hgo), fr_fin (s := s) (c := c) (fr_xs_w ha.1) (fun s' c' hs' _ hne => ?_)⟩
  unfold pz_begin
  rw [pz_sa_9 hs']
  exact pz_w9 hne (fun d hd => pz_ld_x (by rw [hci]; exact hd))
set_option maxHeartbeats 4000000 in
theorem k_begin_no (l : Launch) (D : va_G) {n : Nat} (ad : Nat × Nat → Nat) (cI cZ cS cA : ClassId) {M : fr_M} {q f : Nat} {S : pz_T} (hn : n ≤ 5) (hq5 : q ≤ 5) (hf5 : f ≤ 5) (Q : pz_Q n q f) (hI : fr_I n q f S M) {s r c : Nat} (hs : s < 3) (hr1 : 1 ≤ r) (hr12 : r ≤ 12) (hci : pz_ci r = c) (hno : S.2 3 14 (8 + c) 0 ≠ 0 ∨ r ≤ S.2 s 8 c 0) : fb_C l D n ad cI cZ cS cA my_FB_begin mb_FB_begin 5 (some .int) 1 21 M [.ref (ad (0, 0)), .int (nI (s)), .int (nI (r))] (some (.int (-1))) (fun M' => M' = M) := by
  have h := hI.2
  have I := hI.1
  have h60 := I.1
  have hc : c < 2 := by rw [← hci]; exact pz_ci_lt r
  refine xw_start [.ref (ad (0, 0)), .int (nI (s)), .int (nI (r))] (by decide) (Nat.le_of_ble_eq_true rfl) ?_
  intro p e st m below meth cd0 ls Z hml hr hlk hN hl hw
  have hl : lv_has ls 5 [(0, .ref (ad (0, 0))), (1, .int (nI (s))), (2, .int (nI (r)))] := hl
  refine lv_iload_n Z.1 Z.2.1 md_FB_begin_0 rfl (lv_at hl 1 rfl) ?_
  refine xw_cS (n := 1) (rest := []) Z hml hl.1 hN hw (k_isSlot1 l D ad cI cZ cS cA (M := M) hs) tb_g mc_FB_isSlot mk_FB_38 mt_FB_isSlot mz_FB ⟨by decide, by decide, by decide +kernel⟩ ⟨Nat.le_of_ble_eq_true rfl, Nat.le_of_ble_eq_true rfl⟩ rfl rfl (Nat.le_of_ble_eq_true rfl) ⟨Nat.le_refl _, Nat.le_refl _⟩ md_FB_begin_1 (fun M1 H1 locs1 e1 hw => ?_)
  have ey1 := e1.symm
  subst ey1
  refine W.eq (g2 := F0 m 4 ls [.int (nI (1))]) rfl ?_
  refine xi_if_eq (tgt := 14) Z md_FB_begin_4 (by decide) (by omega) (fun h4 => by exfalso; omega) (fun h4 => ?_)
  refine lv_iload_n Z.1 Z.2.1 md_FB_begin_7 rfl (lv_at hl 2 rfl) ?_
  refine xw_cS (n := 1) (rest := []) Z hml hl.1 hN hw (k_isRound1 l D ad cI cZ cS cA (M := M) hr1 hr12) tb_g mc_FB_isRound mk_FB_56 mt_FB_isRound mz_FB ⟨by decide, by decide, by decide +kernel⟩ ⟨Nat.le_of_ble_eq_true rfl, Nat.le_of_ble_eq_true rfl⟩ rfl rfl (Nat.le_of_ble_eq_true rfl) ⟨Nat.le_refl _, Nat.le_refl _⟩ md_FB_begin_8 (fun M2 H2 locs2 e2 hw => ?_)
  have ey2 := e2.symm
  subst ey2
  refine W.eq (g2 := F0 m 11 ls [.int (nI (1))]) rfl ?_
  refine xi_if_ne (tgt := 16) Z md_FB_begin_11 (by decide) (by omega) (fun h11 => ?_) (fun h11 => by exfalso; omega)
  refine lv_iload_n Z.1 Z.2.1 md_FB_begin_16 rfl (lv_at hl 2 rfl) ?_
  refine xw_cS (n := 1) (rest := []) Z hml hl.1 hN hw (k_coordinatorOf l D ad cI cZ cS cA (M := M) hr1 (by omega)) tb_g mc_FB_coordinatorOf mk_FB_59 mt_FB_coordinatorOf mz_FB ⟨by decide, by decide, by decide +kernel⟩ ⟨Nat.le_of_ble_eq_true rfl, Nat.le_of_ble_eq_true rfl⟩ rfl rfl (Nat.le_of_ble_eq_true rfl) ⟨Nat.le_refl _, Nat.le_refl _⟩ md_FB_begin_17 (fun M3 H3 locs3 e3 hw => ?_)
  have ey3 := e3.symm
  subst ey3
  refine W.eq (g2 := F0 m 20 ls [.int (nI (8 + pz_ci r))]) rfl ?_
  refine xi_re (show _ = nI (8 + c) from (by rw [hci])) ?_
  refine lv_istore_n Z.1 Z.2.1 md_FB_begin_20 rfl hl (by decide) rfl (fun ls hl => ?_)
  have hl : lv_has ls 5 [(3, .int (nI (8 + c))), (0, .ref (ad (0, 0))), (1, .int (nI (s))), (2, .int (nI (r)))] := hl
  refine lv_aload_n Z.1 Z.2.1 md_FB_begin_21 rfl (lv_at hl 1 rfl) ?_
  refine xb_get (v := .ref (ad (3, 0))) Z hw (fb_in0 n) (fb_e0 n ad cI cZ cS cA) rfl tb_iFB 2 (by decide) mk_FB_31 rfl rfl md_FB_begin_22 ?_
  refine lv_iload_n Z.1 Z.2.1 md_FB_begin_25 rfl (lv_at hl 2 rfl) ?_
  refine xw_aald (a := ad (7, s)) Z hw (fb_in3 n) (fb_e3 n ad cI cZ cS cA (M (3, 0))) 2 rfl (s) rfl hs (by omega) rfl md_FB_begin_26 ?_
  refine lv_iload_n Z.1 Z.2.1 md_FB_begin_27 rfl (lv_at hl 0 rfl) ?_
  refine xw_cV (n := 1) (rest := []) Z hml hl.1 hN hw (k_coordinator l D ad cI cZ cS cA (M := M) hs hc) tb_g mc_Slt_coordinator mk_FB_63 mi_Slt_coordinator ms_Slt_coordinator mz_Slt ⟨by decide, by decide, by decide +kernel⟩ ⟨Nat.le_of_ble_eq_true rfl, Nat.le_of_ble_eq_true rfl⟩ (fb_in7 n hs) (fb_e7 n ad cI cZ cS cA (s) _) rfl rfl rfl rfl (Nat.le_of_ble_eq_true rfl) ⟨Nat.le_refl _, Nat.le_refl _⟩ md_FB_begin_28 (fun M4 H4 locs4 e4 hw => ?_)
  have ey4 := e4.symm
  subst ey4
  refine W.eq (g2 := F0 m 31 ls [.ref (ad (9, 2 * s + c))]) rfl ?_
  refine lv_astore Z.1 Z.2.1 md_FB_begin_31 hl (by decide) rfl (fun ls hl => ?_)
  have hl : lv_has ls 5 [(4, .ref (ad (9, 2 * s + c))), (3, .int (nI (8 + c))), (0, .ref (ad (0, 0))), (1, .int (nI (s))), (2, .int (nI (r)))] := hl
  refine lv_aload_n Z.1 Z.2.1 md_FB_begin_33 rfl (lv_at hl 2 rfl) ?_
  refine xb_get (v := .ref (ad (4, 0))) Z hw (fb_in0 n) (fb_e0 n ad cI cZ cS cA) rfl tb_iFB 3 (by decide) mk_FB_25 rfl rfl md_FB_begin_34 ?_
  refine lv_iload_n Z.1 Z.2.1 md_FB_begin_37 rfl (lv_at hl 1 rfl) ?_
  refine xw_zald Z hw (fb_in4 n) (fb_e4 n ad cI cZ cS cA) 1 rfl (8 + c) rfl (by omega) (by omega) md_FB_begin_38 ?_
  refine xi_re (show M (4, 0) (8 + c) = nI (S.2 3 14 (8 + c) 0) from h.2.2.1 (8 + c) (by omega)) ?_
  have l14 := I.2.2.2 (8 + c)
  refine xi_if_ne (tgt := 51) Z md_FB_begin_39 (by decide) (by omega) (fun h39 => ?_) (fun h39 => ?_)
  · refine lv_iconst (v := -1) Z.1 Z.2.1 md_FB_begin_51 (by decide) ?_
    exact xw_iret Z hr hlk hw md_FB_begin_52 rfl rfl
  · refine lv_iload_n Z.1 Z.2.1 md_FB_begin_42 rfl (lv_at hl 4 rfl) ?_
    refine lv_aload Z.1 Z.2.1 md_FB_begin_43 (lv_at hl 0 rfl) ?_
    refine xb_get (v := .int (M (9, 2 * s + c) 3)) Z hw (fb_in9 n hs hc) (fb_e9 n ad cI cZ cS cA (2 * s + c)) rfl tb_iCor 3 (by decide) mk_FB_67 rfl rfl md_FB_begin_45 ?_
    refine xi_re (show M (9, 2 * s + c) 3 = nI (S.2 s 8 c 0) from (fr_c h hs hc).2.1) ?_
    have l8 := (I.2.1 s hs).2.2.2.2.2.1 c hc |>.1
    refine xi_icmp_gt (tgt := 53) Z md_FB_begin_48 (by decide) (by omega) (by omega) (fun h48 => by exfalso; omega) (fun h48 => ?_)
    refine lv_iconst (v := -1) Z.1 Z.2.1 md_FB_begin_51 (by decide) ?_
    exact xw_iret Z hr hlk hw md_FB_begin_52 rfl rfl
set_option maxHeartbeats 4000000 in
theorem k_waiting (l : Launch) (D : va_G) {n : Nat} (ad : Nat × Nat → Nat) (cI cZ cS cA : ClassId) {M : fr_M} {q f : Nat} {S : pz_T} (hn : n ≤ 5) (hI : fr_I n q f S M) : fb_C l D n ad cI cZ cS cA my_FB_waiting mb_FB_waiting 1 (some .int) 0 0 M [.ref (ad (0, 0))] (some (.int (nI S.1.length))) (fun M' => M' = M) := by
  have h := hI.2
  have I := hI.1
  have h60 := I.1
  refine xw_start [.ref (ad (0, 0))] (by decide) (Nat.le_of_ble_eq_true rfl) ?_
  intro p e st m below meth cd0 ls Z hml hr hlk hN hl hw
  have hl : lv_has ls 1 [(0, .ref (ad (0, 0)))] := hl
  refine lv_aload_n Z.1 Z.2.1 md_FB_waiting_0 rfl (lv_at hl 0 rfl) ?_
  refine xb_get (v := .ref (ad (2, 0))) Z hw (fb_in0 n) (fb_e0 n ad cI cZ cS cA) rfl tb_iFB 1 (by decide) mk_FB_21 rfl rfl md_FB_waiting_1 ?_
  refine xb_get (v := .int (M (2, 0) 2)) Z hw (fb_in2 n) (fb_e2 n ad cI cZ cS cA) rfl tb_iMail 2 (by decide) mk_FB_53 rfl rfl md_FB_waiting_4 ?_
  refine xi_re (show M (2, 0) 2 = nI (S.1.length) from h.2.1.1) ?_
  exact xw_iret Z hr hlk hw md_FB_waiting_7 rfl rfl
set_option maxHeartbeats 4000000 in
theorem k_lost (l : Launch) (D : va_G) {n : Nat} (ad : Nat × Nat → Nat) (cI cZ cS cA : ClassId) {M : fr_M} {q f : Nat} {S : pz_T} (hn : n ≤ 5) (hI : fr_I n q f S M) : fb_C l D n ad cI cZ cS cA my_FB_lost mb_FB_lost 1 (some .int) 0 0 M [.ref (ad (0, 0))] (some (.int (nI (S.2 3 15 0 0)))) (fun M' => M' = M) := by
  have h := hI.2
  have I := hI.1
  have h60 := I.1
  refine xw_start [.ref (ad (0, 0))] (by decide) (Nat.le_of_ble_eq_true rfl) ?_
  intro p e st m below meth cd0 ls Z hml hr hlk hN hl hw
  have hl : lv_has ls 1 [(0, .ref (ad (0, 0)))] := hl
  refine lv_aload_n Z.1 Z.2.1 md_FB_lost_0 rfl (lv_at hl 0 rfl) ?_
  refine xb_get (v := .ref (ad (2, 0))) Z hw (fb_in0 n) (fb_e0 n ad cI cZ cS cA) rfl tb_iFB 1 (by decide) mk_FB_21 rfl rfl md_FB_lost_1 ?_
  refine xb_get (v := .int (M (2, 0) 3)) Z hw (fb_in2 n) (fb_e2 n ad cI cZ cS cA) rfl tb_iMail 3 (by decide) mk_FB_131 rfl rfl md_FB_lost_4 ?_
  refine xi_re (show M (2, 0) 3 = nI (S.2 3 15 0 0) from h.2.1.2) ?_
  exact xw_iret Z hr hlk hw md_FB_lost_7 rfl rfl
set_option maxHeartbeats 4000000 in
theorem k_message (l : Launch) (D : va_G) {n : Nat} (ad : Nat × Nat → Nat) (cI cZ cS cA : ClassId) {M : fr_M} {q f : Nat} {S : pz_T} (hn : n ≤ 5) (hI : fr_I n q f S M) {j : Nat} {g : pz_M} (hg : S.1[j]? = some g) : fb_C l D n ad cI cZ cS cA my_FB_message mb_FB_message 2 (some .int) 1 23 M [.ref (ad (0, 0)), .int (nI (j))] (some (.int (nI (100000 * g 0 + 10000 * g 1 + 100 * g 2 + g 4)))) (fun M' => M' = M) := by
  have h := hI.2
  have I := hI.1
  have h60 := I.1
  have hj : j < S.1.length := (List.getElem?_eq_some_iff.mp hg).1
  refine xw_start [.ref (ad (0, 0)), .int (nI (j))] (by decide) (Nat.le_of_ble_eq_true rfl) ?_
  intro p e st m below meth cd0 ls Z hml hr hlk hN hl hw
  have hl : lv_has ls 2 [(0, .ref (ad (0, 0))), (1, .int (nI (j)))] := hl
  refine lv_aload_n Z.1 Z.2.1 md_FB_message_0 rfl (lv_at hl 0 rfl) ?_
  refine xb_get (v := .ref (ad (2, 0))) Z hw (fb_in0 n) (fb_e0 n ad cI cZ cS cA) rfl tb_iFB 1 (by decide) mk_FB_21 rfl rfl md_FB_message_1 ?_
  refine lv_iload_n Z.1 Z.2.1 md_FB_message_4 rfl (lv_at hl 1 rfl) ?_
  refine xw_cV (n := 1) (rest := []) Z hml hl.1 hN hw (k_has1 l D ad cI cZ cS cA (M := M) h.2.1 h60 hj) tb_g mc_Mail_has mk_FB_76 mi_Mail_has ms_Mail_has mz_Mail ⟨by decide, by decide, by decide +kernel⟩ ⟨Nat.le_of_ble_eq_true rfl, Nat.le_of_ble_eq_true rfl⟩ (fb_in2 n) (fb_e2 n ad cI cZ cS cA _) rfl rfl rfl rfl (Nat.le_of_ble_eq_true rfl) ⟨Nat.le_refl _, Nat.le_refl _⟩ md_FB_message_5 (fun M1 H1 locs1 e1 hw => ?_)
  have ey1 := e1.symm
  subst ey1
  refine W.eq (g2 := F0 m 8 ls [.int (nI (1))]) rfl ?_
  refine xi_if_eq (tgt := 22) Z md_FB_message_8 (by decide) (by omega) (fun h8 => by exfalso; omega) (fun h8 => ?_)
  refine lv_aload_n Z.1 Z.2.1 md_FB_message_11 rfl (lv_at hl 0 rfl) ?_
  refine xb_get (v := .ref (ad (2, 0))) Z hw (fb_in0 n) (fb_e0 n ad cI cZ cS cA) rfl tb_iFB 1 (by decide) mk_FB_21 rfl rfl md_FB_message_12 ?_
  refine lv_iload_n Z.1 Z.2.1 md_FB_message_15 rfl (lv_at hl 1 rfl) ?_
  refine xw_cV (n := 1) (rest := []) Z hml hl.1 hN hw (k_label l D ad cI cZ cS cA h h60 hg) tb_g mc_Mail_label mk_FB_134 mi_Mail_label ms_Mail_label mz_Mail ⟨by decide, by decide, by decide +kernel⟩ ⟨Nat.le_of_ble_eq_true rfl, Nat.le_of_ble_eq_true rfl⟩ (fb_in2 n) (fb_e2 n ad cI cZ cS cA _) rfl rfl rfl rfl (Nat.le_of_ble_eq_true rfl) ⟨Nat.le_refl _, Nat.le_refl _⟩ md_FB_message_16 (fun M2 H2 locs2 e2 hw => ?_)
  have ey2 := e2.symm
  subst ey2
  refine W.eq (g2 := F0 m 19 ls [.int (nI (100000 * g 0 + 10000 * g 1 + 100 * g 2 + g 4))]) rfl ?_
  refine lv_goto (tgt := 23) Z.1 Z.2.1 md_FB_message_19 (by decide) ?_
  exact xw_iret Z hr hlk hw md_FB_message_23 rfl rfl
set_option maxHeartbeats 4000000 in
theorem k_message_b (l : Launch) (D : va_G) {n : Nat} (ad : Nat × Nat → Nat) (cI cZ cS cA : ClassId) {M : fr_M} {q f : Nat} {S : pz_T} (hn : n ≤ 5) (hI : fr_I n q f S M) {x : Int32} (hx : x < 0 ∨ nI S.1.length ≤ x) : fb_C l D n ad cI cZ cS cA my_FB_message mb_FB_message 2 (some .int) 1 21 M [.ref (ad (0, 0)), .int (x)] (some (.int (-1))) (fun M' => M' = M) := by
  have h := hI.2
  have I := hI.1
  have h60 := I.1
  refine xw_start [.ref (ad (0, 0)), .int (x)] (by decide) (Nat.le_of_ble_eq_true rfl) ?_
  intro p e st m below meth cd0 ls Z hml hr hlk hN hl hw
  have hl : lv_has ls 2 [(0, .ref (ad (0, 0))), (1, .int (x))] := hl
  refine lv_aload_n Z.1 Z.2.1 md_FB_message_0 rfl (lv_at hl 0 rfl) ?_
  refine xb_get (v := .ref (ad (2, 0))) Z hw (fb_in0 n) (fb_e0 n ad cI cZ cS cA) rfl tb_iFB 1 (by decide) mk_FB_21 rfl rfl md_FB_message_1 ?_
  refine lv_iload_n Z.1 Z.2.1 md_FB_message_4 rfl (lv_at hl 1 rfl) ?_
  refine xw_cV (n := 1) (rest := []) Z hml hl.1 hN hw (k_has0 l D ad cI cZ cS cA (M := M) h.2.1 hx) tb_g mc_Mail_has mk_FB_76 mi_Mail_has ms_Mail_has mz_Mail ⟨by decide, by decide, by decide +kernel⟩ ⟨Nat.le_of_ble_eq_true rfl, Nat.le_of_ble_eq_true rfl⟩ (fb_in2 n) (fb_e2 n ad cI cZ cS cA _) rfl rfl rfl rfl (Nat.le_of_ble_eq_true rfl) ⟨Nat.le_refl _, Nat.le_refl _⟩ md_FB_message_5 (fun M1 H1 locs1 e1 hw => ?_)
  have ey1 := e1.symm
  subst ey1
  refine W.eq (g2 := F0 m 8 ls [.int (nI (0))]) rfl ?_
  refine xi_if_eq (tgt := 22) Z md_FB_message_8 (by decide) (by omega) (fun h8 => ?_) (fun h8 => by exfalso; omega)
  refine lv_iconst (v := -1) Z.1 Z.2.1 md_FB_message_22 (by decide) ?_
  exact xw_iret Z hr hlk hw md_FB_message_23 rfl rfl
set_option maxHeartbeats 4000000 in
theorem k_value (l : Launch) (D : va_G) {n : Nat} (ad : Nat × Nat → Nat) (cI cZ cS cA : ClassId) {M : fr_M} {q f : Nat} {S : pz_T} (hn : n ≤ 5) (hI : fr_I n q f S M) {j : Nat} {g : pz_M} (hg : S.1[j]? = some g) : fb_C l D n ad cI cZ cS cA my_FB_value mb_FB_value 2 (some .int) 1 21 M [.ref (ad (0, 0)), .int (nI (j))] (some (.int (nI (g 5)))) (fun M' => M' = M) := by
  have h := hI.2
  have I := hI.1
  have h60 := I.1
  have hj : j < S.1.length := (List.getElem?_eq_some_iff.mp hg).1
  refine xw_start [.ref (ad (0, 0)), .int (nI (j))] (by decide) (Nat.le_of_ble_eq_true rfl) ?_
  intro p e st m below meth cd0 ls Z hml hr hlk hN hl hw
  have hl : lv_has ls 2 [(0, .ref (ad (0, 0))), (1, .int (nI (j)))] := hl
  refine lv_aload_n Z.1 Z.2.1 md_FB_value_0 rfl (lv_at hl 0 rfl) ?_
  refine xb_get (v := .ref (ad (2, 0))) Z hw (fb_in0 n) (fb_e0 n ad cI cZ cS cA) rfl tb_iFB 1 (by decide) mk_FB_21 rfl rfl md_FB_value_1 ?_
  refine lv_iload_n Z.1 Z.2.1 md_FB_value_4 rfl (lv_at hl 1 rfl) ?_
  refine xw_cV (n := 1) (rest := []) Z hml hl.1 hN hw (k_has1 l D ad cI cZ cS cA (M := M) h.2.1 h60 hj) tb_g mc_Mail_has mk_FB_76 mi_Mail_has ms_Mail_has mz_Mail ⟨by decide, by decide, by decide +kernel⟩ ⟨Nat.le_of_ble_eq_true rfl, Nat.le_of_ble_eq_true rfl⟩ (fb_in2 n) (fb_e2 n ad cI cZ cS cA _) rfl rfl rfl rfl (Nat.le_of_ble_eq_true rfl) ⟨Nat.le_refl _, Nat.le_refl _⟩ md_FB_value_5 (fun M1 H1 locs1 e1 hw => ?_)
  have ey1 := e1.symm
  subst ey1
  refine W.eq (g2 := F0 m 8 ls [.int (nI (1))]) rfl ?_
  refine xi_if_eq (tgt := 22) Z md_FB_value_8 (by decide) (by omega) (fun h8 => by exfalso; omega) (fun h8 => ?_)
  refine lv_aload_n Z.1 Z.2.1 md_FB_value_11 rfl (lv_at hl 0 rfl) ?_
  refine xb_get (v := .ref (ad (2, 0))) Z hw (fb_in0 n) (fb_e0 n ad cI cZ cS cA) rfl tb_iFB 1 (by decide) mk_FB_21 rfl rfl md_FB_value_12 ?_
  refine lv_iload_n Z.1 Z.2.1 md_FB_value_15 rfl (lv_at hl 1 rfl) ?_
  refine xw_cV (n := 1) (rest := []) Z hml hl.1 hN hw (k_valueIn l D ad cI cZ cS cA h h60 hg) tb_g mc_Mail_valueIn mk_FB_137 mi_Mail_valueIn ms_Mail_valueIn mz_Mail ⟨by decide, by decide, by decide +kernel⟩ ⟨Nat.le_of_ble_eq_true rfl, Nat.le_of_ble_eq_true rfl⟩ (fb_in2 n) (fb_e2 n ad cI cZ cS cA _) rfl rfl rfl rfl (Nat.le_of_ble_eq_true rfl) ⟨Nat.le_refl _, Nat.le_refl _⟩ md_FB_value_16 (fun M2 H2 locs2 e2 hw => ?_)
  have ey2 := e2.symm
  subst ey2
  refine W.eq (g2 := F0 m 19 ls [.int (nI (g 5))]) rfl ?_
  refine lv_goto (tgt := 23) Z.1 Z.2.1 md_FB_value_19 (by decide) ?_
  exact xw_iret Z hr hlk hw md_FB_value_23 rfl rfl
set_option maxHeartbeats 4000000 in
theorem k_value_b (l : Launch) (D : va_G) {n : Nat} (ad : Nat × Nat → Nat) (cI cZ cS cA : ClassId) {M : fr_M} {q f : Nat} {S : pz_T} (hn : n ≤ 5) (hI : fr_I n q f S M) {x : Int32} (hx : x < 0 ∨ nI S.1.length ≤ x) : fb_C l D n ad cI cZ cS cA my_FB_value mb_FB_value 2 (some .int) 1 21 M [.ref (ad (0, 0)), .int (x)] (some (.int (-1))) (fun M' => M' = M) := by
  have h := hI.2
  have I := hI.1
  have h60 := I.1
  refine xw_start [.ref (ad (0, 0)), .int (x)] (by decide) (Nat.le_of_ble_eq_true rfl) ?_
  intro p e st m below meth cd0 ls Z hml hr hlk hN hl hw
  have hl : lv_has ls 2 [(0, .ref (ad (0, 0))), (1, .int (x))] := hl
  refine lv_aload_n Z.1 Z.2.1 md_FB_value_0 rfl (lv_at hl 0 rfl) ?_
  refine xb_get (v := .ref (ad (2, 0))) Z hw (fb_in0 n) (fb_e0 n ad cI cZ cS cA) rfl tb_iFB 1 (by decide) mk_FB_21 rfl rfl md_FB_value_1 ?_
  refine lv_iload_n Z.1 Z.2.1 md_FB_value_4 rfl (lv_at hl 1 rfl) ?_
  refine xw_cV (n := 1) (rest := []) Z hml hl.1 hN hw (k_has0 l D ad cI cZ cS cA (M := M) h.2.1 hx) tb_g mc_Mail_has mk_FB_76 mi_Mail_has ms_Mail_has mz_Mail ⟨by decide, by decide, by decide +kernel⟩ ⟨Nat.le_of_ble_eq_true rfl, Nat.le_of_ble_eq_true rfl⟩ (fb_in2 n) (fb_e2 n ad cI cZ cS cA _) rfl rfl rfl rfl (Nat.le_of_ble_eq_true rfl) ⟨Nat.le_refl _, Nat.le_refl _⟩ md_FB_value_5 (fun M1 H1 locs1 e1 hw => ?_)
  have ey1 := e1.symm
  subst ey1
  refine W.eq (g2 := F0 m 8 ls [.int (nI (0))]) rfl ?_
  refine xi_if_eq (tgt := 22) Z md_FB_value_8 (by decide) (by omega) (fun h8 => ?_) (fun h8 => by exfalso; omega)
  refine lv_iconst (v := -1) Z.1 Z.2.1 md_FB_value_22 (by decide) ?_
  exact xw_iret Z hr hlk hw md_FB_value_23 rfl rfl
set_option maxHeartbeats 4000000 in
theorem k_round (l : Launch) (D : va_G) {n : Nat} (ad : Nat × Nat → Nat) (cI cZ cS cA : ClassId) {M : fr_M} {q f : Nat} {S : pz_T} (hn : n ≤ 5) (hI : fr_I n q f S M) {s a : Nat} (hs : s < 3) (ha : a < n) : fb_C l D n ad cI cZ cS cA my_FB_round mb_FB_round 3 (some .int) 1 21 M [.ref (ad (0, 0)), .int (nI (a)), .int (nI (s))] (some (.int (nI (S.2 s 0 a 0)))) (fun M' => M' = M) := by
  have h := hI.2
  have I := hI.1
  have h60 := I.1
  refine xw_start [.ref (ad (0, 0)), .int (nI (a)), .int (nI (s))] (by decide) (Nat.le_of_ble_eq_true rfl) ?_
  intro p e st m below meth cd0 ls Z hml hr hlk hN hl hw
  have hl : lv_has ls 3 [(0, .ref (ad (0, 0))), (1, .int (nI (a))), (2, .int (nI (s)))] := hl
  refine lv_aload_n Z.1 Z.2.1 md_FB_round_0 rfl (lv_at hl 0 rfl) ?_
  refine lv_iload_n Z.1 Z.2.1 md_FB_round_1 rfl (lv_at hl 1 rfl) ?_
  refine xw_cV (n := 1) (rest := []) Z hml hl.1 hN hw (k_isAcceptor1 l D ad cI cZ cS cA (M := M) hn h.1 ha) tb_g mc_FB_isAcceptor mk_FB_128 mi_FB_isAcceptor ms_FB_isAcceptor mz_FB ⟨by decide, by decide, by decide +kernel⟩ ⟨Nat.le_of_ble_eq_true rfl, Nat.le_of_ble_eq_true rfl⟩ (fb_in0 n) (fb_e0 n ad cI cZ cS cA _) rfl rfl rfl rfl (Nat.le_of_ble_eq_true rfl) ⟨Nat.le_refl _, Nat.le_refl _⟩ md_FB_round_2 (fun M1 H1 locs1 e1 hw => ?_)
  have ey1 := e1.symm
  subst ey1
  refine W.eq (g2 := F0 m 5 ls [.int (nI (1))]) rfl ?_
  refine xi_if_eq (tgt := 32) Z md_FB_round_5 (by decide) (by omega) (fun h5 => by exfalso; omega) (fun h5 => ?_)
  refine lv_iload_n Z.1 Z.2.1 md_FB_round_8 rfl (lv_at hl 2 rfl) ?_
  refine xw_cS (n := 1) (rest := []) Z hml hl.1 hN hw (k_isSlot1 l D ad cI cZ cS cA (M := M) hs) tb_g mc_FB_isSlot mk_FB_38 mt_FB_isSlot mz_FB ⟨by decide, by decide, by decide +kernel⟩ ⟨Nat.le_of_ble_eq_true rfl, Nat.le_of_ble_eq_true rfl⟩ rfl rfl (Nat.le_of_ble_eq_true rfl) ⟨Nat.le_refl _, Nat.le_refl _⟩ md_FB_round_9 (fun M2 H2 locs2 e2 hw => ?_)
  have ey2 := e2.symm
  subst ey2
  refine W.eq (g2 := F0 m 12 ls [.int (nI (1))]) rfl ?_
  refine xi_if_eq (tgt := 32) Z md_FB_round_12 (by decide) (by omega) (fun h12 => by exfalso; omega) (fun h12 => ?_)
  refine lv_aload_n Z.1 Z.2.1 md_FB_round_15 rfl (lv_at hl 0 rfl) ?_
  refine xb_get (v := .ref (ad (3, 0))) Z hw (fb_in0 n) (fb_e0 n ad cI cZ cS cA) rfl tb_iFB 2 (by decide) mk_FB_31 rfl rfl md_FB_round_16 ?_
  refine lv_iload_n Z.1 Z.2.1 md_FB_round_19 rfl (lv_at hl 2 rfl) ?_
  refine xw_aald (a := ad (7, s)) Z hw (fb_in3 n) (fb_e3 n ad cI cZ cS cA (M (3, 0))) 2 rfl (s) rfl hs (by omega) rfl md_FB_round_20 ?_
  refine xb_get (v := .ref (ad (8, s))) Z hw (fb_in7 n hs) (fb_e7 n ad cI cZ cS cA (s)) rfl tb_iSlt 0 (by decide) mk_FB_119 rfl rfl md_FB_round_21 ?_
  refine lv_iload_n Z.1 Z.2.1 md_FB_round_24 rfl (lv_at hl 1 rfl) ?_
  refine xw_aald (a := ad (15, 5 * s + a)) Z hw (fb_in8 n hs) (fb_e8 n ad cI cZ cS cA (s) (M (8, s))) 3 rfl (a) rfl ha (by omega) rfl md_FB_round_25 ?_
  refine xb_get (v := .int (M (15, 5 * s + a) 4)) Z hw (fb_in15 hn hs ha) (fb_e15 n ad cI cZ cS cA (5 * s + a)) rfl tb_iAcc 4 (by decide) mk_FB_140 rfl rfl md_FB_round_26 ?_
  refine xi_re (show M (15, 5 * s + a) 4 = nI (S.2 s 0 a 0) from (fr_a h hs ha).2.2.1) ?_
  refine lv_goto (tgt := 33) Z.1 Z.2.1 md_FB_round_29 (by decide) ?_
  exact xw_iret Z hr hlk hw md_FB_round_33 rfl rfl
set_option maxHeartbeats 4000000 in
theorem k_round_b1 (l : Launch) (D : va_G) {n : Nat} (ad : Nat × Nat → Nat) (cI cZ cS cA : ClassId) {M : fr_M} {q f : Nat} {S : pz_T} (hn : n ≤ 5) (hI : fr_I n q f S M) {x y : Int32} (hx : x < 0 ∨ nI n ≤ x) : fb_C l D n ad cI cZ cS cA my_FB_round mb_FB_round 3 (some .int) 1 21 M [.ref (ad (0, 0)), .int (x), .int (y)] (some (.int (-1))) (fun M' => M' = M) := by
  have h := hI.2
  have I := hI.1
  have h60 := I.1
  refine xw_start [.ref (ad (0, 0)), .int (x), .int (y)] (by decide) (Nat.le_of_ble_eq_true rfl) ?_
  intro p e st m below meth cd0 ls Z hml hr hlk hN hl hw
  have hl : lv_has ls 3 [(0, .ref (ad (0, 0))), (1, .int (x)), (2, .int (y))] := hl
  refine lv_aload_n Z.1 Z.2.1 md_FB_round_0 rfl (lv_at hl 0 rfl) ?_
  refine lv_iload_n Z.1 Z.2.1 md_FB_round_1 rfl (lv_at hl 1 rfl) ?_
  refine xw_cV (n := 1) (rest := []) Z hml hl.1 hN hw (k_isAcceptor0 l D ad cI cZ cS cA (M := M) h.1 hx) tb_g mc_FB_isAcceptor mk_FB_128 mi_FB_isAcceptor ms_FB_isAcceptor mz_FB ⟨by decide, by decide, by decide +kernel⟩ ⟨Nat.le_of_ble_eq_true rfl, Nat.le_of_ble_eq_true rfl⟩ (fb_in0 n) (fb_e0 n ad cI cZ cS cA _) rfl rfl rfl rfl (Nat.le_of_ble_eq_true rfl) ⟨Nat.le_refl _, Nat.le_refl _⟩ md_FB_round_2 (fun M1 H1 locs1 e1 hw => ?_)
  have ey1 := e1.symm
  subst ey1
  refine W.eq (g2 := F0 m 5 ls [.int (nI (0))]) rfl ?_
  refine xi_if_eq (tgt := 32) Z md_FB_round_5 (by decide) (by omega) (fun h5 => ?_) (fun h5 => by exfalso; omega)
  refine lv_iconst (v := -1) Z.1 Z.2.1 md_FB_round_32 (by decide) ?_
  exact xw_iret Z hr hlk hw md_FB_round_33 rfl rfl
set_option maxHeartbeats 4000000 in
theorem k_round_b2 (l : Launch) (D : va_G) {n : Nat} (ad : Nat × Nat → Nat) (cI cZ cS cA : ClassId) {M : fr_M} {q f : Nat} {S : pz_T} (hn : n ≤ 5) (hI : fr_I n q f S M) {a : Nat} (ha : a < n) {y : Int32} (hy : y < 0 ∨ nI 3 ≤ y) : fb_C l D n ad cI cZ cS cA my_FB_round mb_FB_round 3 (some .int) 1 21 M [.ref (ad (0, 0)), .int (nI (a)), .int (y)] (some (.int (-1))) (fun M' => M' = M) := by
  have h := hI.2
  have I := hI.1
  have h60 := I.1
  refine xw_start [.ref (ad (0, 0)), .int (nI (a)), .int (y)] (by decide) (Nat.le_of_ble_eq_true rfl) ?_
  intro p e st m below meth cd0 ls Z hml hr hlk hN hl hw
  have hl : lv_has ls 3 [(0, .ref (ad (0, 0))), (1, .int (nI (a))), (2, .int (y))] := hl
  refine lv_aload_n Z.1 Z.2.1 md_FB_round_0 rfl (lv_at hl 0 rfl) ?_
  refine lv_iload_n Z.1 Z.2.1 md_FB_round_1 rfl (lv_at hl 1 rfl) ?_
  refine xw_cV (n := 1) (rest := []) Z hml hl.1 hN hw (k_isAcceptor1 l D ad cI cZ cS cA (M := M) hn h.1 ha) tb_g mc_FB_isAcceptor mk_FB_128 mi_FB_isAcceptor ms_FB_isAcceptor mz_FB ⟨by decide, by decide, by decide +kernel⟩ ⟨Nat.le_of_ble_eq_true rfl, Nat.le_of_ble_eq_true rfl⟩ (fb_in0 n) (fb_e0 n ad cI cZ cS cA _) rfl rfl rfl rfl (Nat.le_of_ble_eq_true rfl) ⟨Nat.le_refl _, Nat.le_refl _⟩ md_FB_round_2 (fun M1 H1 locs1 e1 hw => ?_)
  have ey1 := e1.symm
  subst ey1
  refine W.eq (g2 := F0 m 5 ls [.int (nI (1))]) rfl ?_
  refine xi_if_eq (tgt := 32) Z md_FB_round_5 (by decide) (by omega) (fun h5 => by exfalso; omega) (fun h5 => ?_)
  refine lv_iload_n Z.1 Z.2.1 md_FB_round_8 rfl (lv_at hl 2 rfl) ?_
  refine xw_cS (n := 1) (rest := []) Z hml hl.1 hN hw (k_isSlot0 l D ad cI cZ cS cA (M := M) hy) tb_g mc_FB_isSlot mk_FB_38 mt_FB_isSlot mz_FB ⟨by decide, by decide, by decide +kernel⟩ ⟨Nat.le_of_ble_eq_true rfl, Nat.le_of_ble_eq_true rfl⟩ rfl rfl (Nat.le_of_ble_eq_true rfl) ⟨Nat.le_refl _, Nat.le_refl _⟩ md_FB_round_9 (fun M2 H2 locs2 e2 hw => ?_)
  have ey2 := e2.symm
  subst ey2
  refine W.eq (g2 := F0 m 12 ls [.int (nI (0))]) rfl ?_
  refine xi_if_eq (tgt := 32) Z md_FB_round_12 (by decide) (by omega) (fun h12 => ?_) (fun h12 => by exfalso; omega)
  refine lv_iconst (v := -1) Z.1 Z.2.1 md_FB_round_32 (by decide) ?_
  exact xw_iret Z hr hlk hw md_FB_round_33 rfl rfl
set_option maxHeartbeats 4000000 in
theorem k_vote (l : Launch) (D : va_G) {n : Nat} (ad : Nat × Nat → Nat) (cI cZ cS cA : ClassId) {M : fr_M} {q f : Nat} {S : pz_T} (hn : n ≤ 5) (hI : fr_I n q f S M) {s a : Nat} (hs : s < 3) (ha : a < n) : fb_C l D n ad cI cZ cS cA my_FB_vote mb_FB_vote 3 (some .int) 1 21 M [.ref (ad (0, 0)), .int (nI (a)), .int (nI (s))] (some (.int (nI (S.2 s 1 a 0)))) (fun M' => M' = M) := by
  have h := hI.2
  have I := hI.1
  have h60 := I.1
  refine xw_start [.ref (ad (0, 0)), .int (nI (a)), .int (nI (s))] (by decide) (Nat.le_of_ble_eq_true rfl) ?_
  intro p e st m below meth cd0 ls Z hml hr hlk hN hl hw
  have hl : lv_has ls 3 [(0, .ref (ad (0, 0))), (1, .int (nI (a))), (2, .int (nI (s)))] := hl
  refine lv_aload_n Z.1 Z.2.1 md_FB_vote_0 rfl (lv_at hl 0 rfl) ?_
  refine lv_iload_n Z.1 Z.2.1 md_FB_vote_1 rfl (lv_at hl 1 rfl) ?_
  refine xw_cV (n := 1) (rest := []) Z hml hl.1 hN hw (k_isAcceptor1 l D ad cI cZ cS cA (M := M) hn h.1 ha) tb_g mc_FB_isAcceptor mk_FB_128 mi_FB_isAcceptor ms_FB_isAcceptor mz_FB ⟨by decide, by decide, by decide +kernel⟩ ⟨Nat.le_of_ble_eq_true rfl, Nat.le_of_ble_eq_true rfl⟩ (fb_in0 n) (fb_e0 n ad cI cZ cS cA _) rfl rfl rfl rfl (Nat.le_of_ble_eq_true rfl) ⟨Nat.le_refl _, Nat.le_refl _⟩ md_FB_vote_2 (fun M1 H1 locs1 e1 hw => ?_)
  have ey1 := e1.symm
  subst ey1
  refine W.eq (g2 := F0 m 5 ls [.int (nI (1))]) rfl ?_
  refine xi_if_eq (tgt := 32) Z md_FB_vote_5 (by decide) (by omega) (fun h5 => by exfalso; omega) (fun h5 => ?_)
  refine lv_iload_n Z.1 Z.2.1 md_FB_vote_8 rfl (lv_at hl 2 rfl) ?_
  refine xw_cS (n := 1) (rest := []) Z hml hl.1 hN hw (k_isSlot1 l D ad cI cZ cS cA (M := M) hs) tb_g mc_FB_isSlot mk_FB_38 mt_FB_isSlot mz_FB ⟨by decide, by decide, by decide +kernel⟩ ⟨Nat.le_of_ble_eq_true rfl, Nat.le_of_ble_eq_true rfl⟩ rfl rfl (Nat.le_of_ble_eq_true rfl) ⟨Nat.le_refl _, Nat.le_refl _⟩ md_FB_vote_9 (fun M2 H2 locs2 e2 hw => ?_)
  have ey2 := e2.symm
  subst ey2
  refine W.eq (g2 := F0 m 12 ls [.int (nI (1))]) rfl ?_
  refine xi_if_eq (tgt := 32) Z md_FB_vote_12 (by decide) (by omega) (fun h12 => by exfalso; omega) (fun h12 => ?_)
  refine lv_aload_n Z.1 Z.2.1 md_FB_vote_15 rfl (lv_at hl 0 rfl) ?_
  refine xb_get (v := .ref (ad (3, 0))) Z hw (fb_in0 n) (fb_e0 n ad cI cZ cS cA) rfl tb_iFB 2 (by decide) mk_FB_31 rfl rfl md_FB_vote_16 ?_
  refine lv_iload_n Z.1 Z.2.1 md_FB_vote_19 rfl (lv_at hl 2 rfl) ?_
  refine xw_aald (a := ad (7, s)) Z hw (fb_in3 n) (fb_e3 n ad cI cZ cS cA (M (3, 0))) 2 rfl (s) rfl hs (by omega) rfl md_FB_vote_20 ?_
  refine xb_get (v := .ref (ad (8, s))) Z hw (fb_in7 n hs) (fb_e7 n ad cI cZ cS cA (s)) rfl tb_iSlt 0 (by decide) mk_FB_119 rfl rfl md_FB_vote_21 ?_
  refine lv_iload_n Z.1 Z.2.1 md_FB_vote_24 rfl (lv_at hl 1 rfl) ?_
  refine xw_aald (a := ad (15, 5 * s + a)) Z hw (fb_in8 n hs) (fb_e8 n ad cI cZ cS cA (s) (M (8, s))) 3 rfl (a) rfl ha (by omega) rfl md_FB_vote_25 ?_
  refine xb_get (v := .int (M (15, 5 * s + a) 5)) Z hw (fb_in15 hn hs ha) (fb_e15 n ad cI cZ cS cA (5 * s + a)) rfl tb_iAcc 5 (by decide) mk_FB_143 rfl rfl md_FB_vote_26 ?_
  refine xi_re (show M (15, 5 * s + a) 5 = nI (S.2 s 1 a 0) from (fr_a h hs ha).2.2.2.1) ?_
  refine lv_goto (tgt := 33) Z.1 Z.2.1 md_FB_vote_29 (by decide) ?_
  exact xw_iret Z hr hlk hw md_FB_vote_33 rfl rfl
set_option maxHeartbeats 4000000 in
theorem k_vote_b1 (l : Launch) (D : va_G) {n : Nat} (ad : Nat × Nat → Nat) (cI cZ cS cA : ClassId) {M : fr_M} {q f : Nat} {S : pz_T} (hn : n ≤ 5) (hI : fr_I n q f S M) {x y : Int32} (hx : x < 0 ∨ nI n ≤ x) : fb_C l D n ad cI cZ cS cA my_FB_vote mb_FB_vote 3 (some .int) 1 21 M [.ref (ad (0, 0)), .int (x), .int (y)] (some (.int (-1))) (fun M' => M' = M) := by
  have h := hI.2
  have I := hI.1
  have h60 := I.1
  refine xw_start [.ref (ad (0, 0)), .int (x), .int (y)] (by decide) (Nat.le_of_ble_eq_true rfl) ?_
  intro p e st m below meth cd0 ls Z hml hr hlk hN hl hw
  have hl : lv_has ls 3 [(0, .ref (ad (0, 0))), (1, .int (x)), (2, .int (y))] := hl
  refine lv_aload_n Z.1 Z.2.1 md_FB_vote_0 rfl (lv_at hl 0 rfl) ?_
  refine lv_iload_n Z.1 Z.2.1 md_FB_vote_1 rfl (lv_at hl 1 rfl) ?_
  refine xw_cV (n := 1) (rest := []) Z hml hl.1 hN hw (k_isAcceptor0 l D ad cI cZ cS cA (M := M) h.1 hx) tb_g mc_FB_isAcceptor mk_FB_128 mi_FB_isAcceptor ms_FB_isAcceptor mz_FB ⟨by decide, by decide, by decide +kernel⟩ ⟨Nat.le_of_ble_eq_true rfl, Nat.le_of_ble_eq_true rfl⟩ (fb_in0 n) (fb_e0 n ad cI cZ cS cA _) rfl rfl rfl rfl (Nat.le_of_ble_eq_true rfl) ⟨Nat.le_refl _, Nat.le_refl _⟩ md_FB_vote_2 (fun M1 H1 locs1 e1 hw => ?_)
  have ey1 := e1.symm
  subst ey1
  refine W.eq (g2 := F0 m 5 ls [.int (nI (0))]) rfl ?_
  refine xi_if_eq (tgt := 32) Z md_FB_vote_5 (by decide) (by omega) (fun h5 => ?_) (fun h5 => by exfalso; omega)
  refine lv_iconst (v := -1) Z.1 Z.2.1 md_FB_vote_32 (by decide) ?_
  exact xw_iret Z hr hlk hw md_FB_vote_33 rfl rfl
set_option maxHeartbeats 4000000 in
theorem k_vote_b2 (l : Launch) (D : va_G) {n : Nat} (ad : Nat × Nat → Nat) (cI cZ cS cA : ClassId) {M : fr_M} {q f : Nat} {S : pz_T} (hn : n ≤ 5) (hI : fr_I n q f S M) {a : Nat} (ha : a < n) {y : Int32} (hy : y < 0 ∨ nI 3 ≤ y) : fb_C l D n ad cI cZ cS cA my_FB_vote mb_FB_vote 3 (some .int) 1 21 M [.ref (ad (0, 0)), .int (nI (a)), .int (y)] (some (.int (-1))) (fun M' => M' = M) := by
  have h := hI.2
  have I := hI.1
  have h60 := I.1
  refine xw_start [.ref (ad (0, 0)), .int (nI (a)), .int (y)] (by decide) (Nat.le_of_ble_eq_true rfl) ?_
  intro p e st m below meth cd0 ls Z hml hr hlk hN hl hw
  have hl : lv_has ls 3 [(0, .ref (ad (0, 0))), (1, .int (nI (a))), (2, .int (y))] := hl
  refine lv_aload_n Z.1 Z.2.1 md_FB_vote_0 rfl (lv_at hl 0 rfl) ?_
  refine lv_iload_n Z.1 Z.2.1 md_FB_vote_1 rfl (lv_at hl 1 rfl) ?_
  refine xw_cV (n := 1) (rest := []) Z hml hl.1 hN hw (k_isAcceptor1 l D ad cI cZ cS cA (M := M) hn h.1 ha) tb_g mc_FB_isAcceptor mk_FB_128 mi_FB_isAcceptor ms_FB_isAcceptor mz_FB ⟨by decide, by decide, by decide +kernel⟩ ⟨Nat.le_of_ble_eq_true rfl, Nat.le_of_ble_eq_true rfl⟩ (fb_in0 n) (fb_e0 n ad cI cZ cS cA _) rfl rfl rfl rfl (Nat.le_of_ble_eq_true rfl) ⟨Nat.le_refl _, Nat.le_refl _⟩ md_FB_vote_2 (fun M1 H1 locs1 e1 hw => ?_)
  have ey1 := e1.symm
  subst ey1
  refine W.eq (g2 := F0 m 5 ls [.int (nI (1))]) rfl ?_
  refine xi_if_eq (tgt := 32) Z md_FB_vote_5 (by decide) (by omega) (fun h5 => by exfalso; omega) (fun h5 => ?_)
  refine lv_iload_n Z.1 Z.2.1 md_FB_vote_8 rfl (lv_at hl 2 rfl) ?_
  refine xw_cS (n := 1) (rest := []) Z hml hl.1 hN hw (k_isSlot0 l D ad cI cZ cS cA (M := M) hy) tb_g mc_FB_isSlot mk_FB_38 mt_FB_isSlot mz_FB ⟨by decide, by decide, by decide +kernel⟩ ⟨Nat.le_of_ble_eq_true rfl, Nat.le_of_ble_eq_true rfl⟩ rfl rfl (Nat.le_of_ble_eq_true rfl) ⟨Nat.le_refl _, Nat.le_refl _⟩ md_FB_vote_9 (fun M2 H2 locs2 e2 hw => ?_)
  have ey2 := e2.symm
  subst ey2
  refine W.eq (g2 := F0 m 12 ls [.int (nI (0))]) rfl ?_
  refine xi_if_eq (tgt := 32) Z md_FB_vote_12 (by decide) (by omega) (fun h12 => ?_) (fun h12 => by exfalso; omega)
  refine lv_iconst (v := -1) Z.1 Z.2.1 md_FB_vote_32 (by decide) ?_
  exact xw_iret Z hr hlk hw md_FB_vote_33 rfl rfl
set_option maxHeartbeats 4000000 in
theorem k_voteRound (l : Launch) (D : va_G) {n : Nat} (ad : Nat × Nat → Nat) (cI cZ cS cA : ClassId) {M : fr_M} {q f : Nat} {S : pz_T} (hn : n ≤ 5) (hI : fr_I n q f S M) {s a : Nat} (hs : s < 3) (ha : a < n) : fb_C l D n ad cI cZ cS cA my_FB_voteRound mb_FB_voteRound 3 (some .int) 1 21 M [.ref (ad (0, 0)), .int (nI (a)), .int (nI (s))] (some (.int (nI (S.2 s 2 a 0)))) (fun M' => M' = M) := by
  have h := hI.2
  have I := hI.1
  have h60 := I.1
  refine xw_start [.ref (ad (0, 0)), .int (nI (a)), .int (nI (s))] (by decide) (Nat.le_of_ble_eq_true rfl) ?_
  intro p e st m below meth cd0 ls Z hml hr hlk hN hl hw
  have hl : lv_has ls 3 [(0, .ref (ad (0, 0))), (1, .int (nI (a))), (2, .int (nI (s)))] := hl
  refine lv_aload_n Z.1 Z.2.1 md_FB_voteRound_0 rfl (lv_at hl 0 rfl) ?_
  refine lv_iload_n Z.1 Z.2.1 md_FB_voteRound_1 rfl (lv_at hl 1 rfl) ?_
  refine xw_cV (n := 1) (rest := []) Z hml hl.1 hN hw (k_isAcceptor1 l D ad cI cZ cS cA (M := M) hn h.1 ha) tb_g mc_FB_isAcceptor mk_FB_128 mi_FB_isAcceptor ms_FB_isAcceptor mz_FB ⟨by decide, by decide, by decide +kernel⟩ ⟨Nat.le_of_ble_eq_true rfl, Nat.le_of_ble_eq_true rfl⟩ (fb_in0 n) (fb_e0 n ad cI cZ cS cA _) rfl rfl rfl rfl (Nat.le_of_ble_eq_true rfl) ⟨Nat.le_refl _, Nat.le_refl _⟩ md_FB_voteRound_2 (fun M1 H1 locs1 e1 hw => ?_)
  have ey1 := e1.symm
  subst ey1
  refine W.eq (g2 := F0 m 5 ls [.int (nI (1))]) rfl ?_
  refine xi_if_eq (tgt := 32) Z md_FB_voteRound_5 (by decide) (by omega) (fun h5 => by exfalso; omega) (fun h5 => ?_)
  refine lv_iload_n Z.1 Z.2.1 md_FB_voteRound_8 rfl (lv_at hl 2 rfl) ?_
  refine xw_cS (n := 1) (rest := []) Z hml hl.1 hN hw (k_isSlot1 l D ad cI cZ cS cA (M := M) hs) tb_g mc_FB_isSlot mk_FB_38 mt_FB_isSlot mz_FB ⟨by decide, by decide, by decide +kernel⟩ ⟨Nat.le_of_ble_eq_true rfl, Nat.le_of_ble_eq_true rfl⟩ rfl rfl (Nat.le_of_ble_eq_true rfl) ⟨Nat.le_refl _, Nat.le_refl _⟩ md_FB_voteRound_9 (fun M2 H2 locs2 e2 hw => ?_)
  have ey2 := e2.symm
  subst ey2
  refine W.eq (g2 := F0 m 12 ls [.int (nI (1))]) rfl ?_
  refine xi_if_eq (tgt := 32) Z md_FB_voteRound_12 (by decide) (by omega) (fun h12 => by exfalso; omega) (fun h12 => ?_)
  refine lv_aload_n Z.1 Z.2.1 md_FB_voteRound_15 rfl (lv_at hl 0 rfl) ?_
  refine xb_get (v := .ref (ad (3, 0))) Z hw (fb_in0 n) (fb_e0 n ad cI cZ cS cA) rfl tb_iFB 2 (by decide) mk_FB_31 rfl rfl md_FB_voteRound_16 ?_
  refine lv_iload_n Z.1 Z.2.1 md_FB_voteRound_19 rfl (lv_at hl 2 rfl) ?_
  refine xw_aald (a := ad (7, s)) Z hw (fb_in3 n) (fb_e3 n ad cI cZ cS cA (M (3, 0))) 2 rfl (s) rfl hs (by omega) rfl md_FB_voteRound_20 ?_
  refine xb_get (v := .ref (ad (8, s))) Z hw (fb_in7 n hs) (fb_e7 n ad cI cZ cS cA (s)) rfl tb_iSlt 0 (by decide) mk_FB_119 rfl rfl md_FB_voteRound_21 ?_
  refine lv_iload_n Z.1 Z.2.1 md_FB_voteRound_24 rfl (lv_at hl 1 rfl) ?_
  refine xw_aald (a := ad (15, 5 * s + a)) Z hw (fb_in8 n hs) (fb_e8 n ad cI cZ cS cA (s) (M (8, s))) 3 rfl (a) rfl ha (by omega) rfl md_FB_voteRound_25 ?_
  refine xb_get (v := .int (M (15, 5 * s + a) 6)) Z hw (fb_in15 hn hs ha) (fb_e15 n ad cI cZ cS cA (5 * s + a)) rfl tb_iAcc 6 (by decide) mk_FB_146 rfl rfl md_FB_voteRound_26 ?_
  refine xi_re (show M (15, 5 * s + a) 6 = nI (S.2 s 2 a 0) from (fr_a h hs ha).2.2.2.2.1) ?_
  refine lv_goto (tgt := 33) Z.1 Z.2.1 md_FB_voteRound_29 (by decide) ?_
  exact xw_iret Z hr hlk hw md_FB_voteRound_33 rfl rfl
set_option maxHeartbeats 4000000 in
theorem k_voteRound_b1 (l : Launch) (D : va_G) {n : Nat} (ad : Nat × Nat → Nat) (cI cZ cS cA : ClassId) {M : fr_M} {q f : Nat} {S : pz_T} (hn : n ≤ 5) (hI : fr_I n q f S M) {x y : Int32} (hx : x < 0 ∨ nI n ≤ x) : fb_C l D n ad cI cZ cS cA my_FB_voteRound mb_FB_voteRound 3 (some .int) 1 21 M [.ref (ad (0, 0)), .int (x), .int (y)] (some (.int (-1))) (fun M' => M' = M) := by
  have h := hI.2
  have I := hI.1
  have h60 := I.1
  refine xw_start [.ref (ad (0, 0)), .int (x), .int (y)] (by decide) (Nat.le_of_ble_eq_true rfl) ?_
  intro p e st m below meth cd0 ls Z hml hr hlk hN hl hw
  have hl : lv_has ls 3 [(0, .ref (ad (0, 0))), (1, .int (x)), (2, .int (y))] := hl
  refine lv_aload_n Z.1 Z.2.1 md_FB_voteRound_0 rfl (lv_at hl 0 rfl) ?_
  refine lv_iload_n Z.1 Z.2.1 md_FB_voteRound_1 rfl (lv_at hl 1 rfl) ?_
  refine xw_cV (n := 1) (rest := []) Z hml hl.1 hN hw (k_isAcceptor0 l D ad cI cZ cS cA (M := M) h.1 hx) tb_g mc_FB_isAcceptor mk_FB_128 mi_FB_isAcceptor ms_FB_isAcceptor mz_FB ⟨by decide, by decide, by decide +kernel⟩ ⟨Nat.le_of_ble_eq_true rfl, Nat.le_of_ble_eq_true rfl⟩ (fb_in0 n) (fb_e0 n ad cI cZ cS cA _) rfl rfl rfl rfl (Nat.le_of_ble_eq_true rfl) ⟨Nat.le_refl _, Nat.le_refl _⟩ md_FB_voteRound_2 (fun M1 H1 locs1 e1 hw => ?_)
  have ey1 := e1.symm
  subst ey1
  refine W.eq (g2 := F0 m 5 ls [.int (nI (0))]) rfl ?_
  refine xi_if_eq (tgt := 32) Z md_FB_voteRound_5 (by decide) (by omega) (fun h5 => ?_) (fun h5 => by exfalso; omega)
  refine lv_iconst (v := -1) Z.1 Z.2.1 md_FB_voteRound_32 (by decide) ?_
  exact xw_iret Z hr hlk hw md_FB_voteRound_33 rfl rfl
set_option maxHeartbeats 4000000 in
theorem k_voteRound_b2 (l : Launch) (D : va_G) {n : Nat} (ad : Nat × Nat → Nat) (cI cZ cS cA : ClassId) {M : fr_M} {q f : Nat} {S : pz_T} (hn : n ≤ 5) (hI : fr_I n q f S M) {a : Nat} (ha : a < n) {y : Int32} (hy : y < 0 ∨ nI 3 ≤ y) : fb_C l D n ad cI cZ cS cA my_FB_voteRound mb_FB_voteRound 3 (some .int) 1 21 M [.ref (ad (0, 0)), .int (nI (a)), .int (y)] (some (.int (-1))) (fun M' => M' = M) := by
  have h := hI.2
  have I := hI.1
  have h60 := I.1
  refine xw_start [.ref (ad (0, 0)), .int (nI (a)), .int (y)] (by decide) (Nat.le_of_ble_eq_true rfl) ?_
  intro p e st m below meth cd0 ls Z hml hr hlk hN hl hw
  have hl : lv_has ls 3 [(0, .ref (ad (0, 0))), (1, .int (nI (a))), (2, .int (y))] := hl
  refine lv_aload_n Z.1 Z.2.1 md_FB_voteRound_0 rfl (lv_at hl 0 rfl) ?_
  refine lv_iload_n Z.1 Z.2.1 md_FB_voteRound_1 rfl (lv_at hl 1 rfl) ?_
  refine xw_cV (n := 1) (rest := []) Z hml hl.1 hN hw (k_isAcceptor1 l D ad cI cZ cS cA (M := M) hn h.1 ha) tb_g mc_FB_isAcceptor mk_FB_128 mi_FB_isAcceptor ms_FB_isAcceptor mz_FB ⟨by decide, by decide, by decide +kernel⟩ ⟨Nat.le_of_ble_eq_true rfl, Nat.le_of_ble_eq_true rfl⟩ (fb_in0 n) (fb_e0 n ad cI cZ cS cA _) rfl rfl rfl rfl (Nat.le_of_ble_eq_true rfl) ⟨Nat.le_refl _, Nat.le_refl _⟩ md_FB_voteRound_2 (fun M1 H1 locs1 e1 hw => ?_)
  have ey1 := e1.symm
  subst ey1
  refine W.eq (g2 := F0 m 5 ls [.int (nI (1))]) rfl ?_
  refine xi_if_eq (tgt := 32) Z md_FB_voteRound_5 (by decide) (by omega) (fun h5 => by exfalso; omega) (fun h5 => ?_)
  refine lv_iload_n Z.1 Z.2.1 md_FB_voteRound_8 rfl (lv_at hl 2 rfl) ?_
  refine xw_cS (n := 1) (rest := []) Z hml hl.1 hN hw (k_isSlot0 l D ad cI cZ cS cA (M := M) hy) tb_g mc_FB_isSlot mk_FB_38 mt_FB_isSlot mz_FB ⟨by decide, by decide, by decide +kernel⟩ ⟨Nat.le_of_ble_eq_true rfl, Nat.le_of_ble_eq_true rfl⟩ rfl rfl (Nat.le_of_ble_eq_true rfl) ⟨Nat.le_refl _, Nat.le_refl _⟩ md_FB_voteRound_9 (fun M2 H2 locs2 e2 hw => ?_)
  have ey2 := e2.symm
  subst ey2
  refine W.eq (g2 := F0 m 12 ls [.int (nI (0))]) rfl ?_
  refine xi_if_eq (tgt := 32) Z md_FB_voteRound_12 (by decide) (by omega) (fun h12 => ?_) (fun h12 => by exfalso; omega)
  refine lv_iconst (v := -1) Z.1 Z.2.1 md_FB_voteRound_32 (by decide) ?_
  exact xw_iret Z hr hlk hw md_FB_voteRound_33 rfl rfl
set_option maxHeartbeats 4000000 in
theorem k_leads (l : Launch) (D : va_G) {n : Nat} (ad : Nat × Nat → Nat) (cI cZ cS cA : ClassId) {M : fr_M} {q f : Nat} {S : pz_T} (hn : n ≤ 5) (hI : fr_I n q f S M) {s c : Nat} (hs : s < 3) (hc : c < 2) : fb_C l D n ad cI cZ cS cA my_FB_leads mb_FB_leads 3 (some .int) 1 21 M [.ref (ad (0, 0)), .int (nI (8 + c)), .int (nI (s))] (some (.int (nI (S.2 s 8 c 0)))) (fun M' => M' = M) := by
  have h := hI.2
  have I := hI.1
  have h60 := I.1
  refine xw_start [.ref (ad (0, 0)), .int (nI (8 + c)), .int (nI (s))] (by decide) (Nat.le_of_ble_eq_true rfl) ?_
  intro p e st m below meth cd0 ls Z hml hr hlk hN hl hw
  have hl : lv_has ls 3 [(0, .ref (ad (0, 0))), (1, .int (nI (8 + c))), (2, .int (nI (s)))] := hl
  refine lv_iload_n Z.1 Z.2.1 md_FB_leads_0 rfl (lv_at hl 1 rfl) ?_
  refine xw_cS (n := 1) (rest := []) Z hml hl.1 hN hw (k_isCoordinator1 l D ad cI cZ cS cA (M := M) (show 8 + c = 8 ∨ 8 + c = 9 by omega)) tb_g mc_FB_isCoordinator mk_FB_112 mt_FB_isCoordinator mz_FB ⟨by decide, by decide, by decide +kernel⟩ ⟨Nat.le_of_ble_eq_true rfl, Nat.le_of_ble_eq_true rfl⟩ rfl rfl (Nat.le_of_ble_eq_true rfl) ⟨Nat.le_refl _, Nat.le_refl _⟩ md_FB_leads_1 (fun M1 H1 locs1 e1 hw => ?_)
  have ey1 := e1.symm
  subst ey1
  refine W.eq (g2 := F0 m 4 ls [.int (nI (1))]) rfl ?_
  refine xi_if_eq (tgt := 30) Z md_FB_leads_4 (by decide) (by omega) (fun h4 => by exfalso; omega) (fun h4 => ?_)
  refine lv_iload_n Z.1 Z.2.1 md_FB_leads_7 rfl (lv_at hl 2 rfl) ?_
  refine xw_cS (n := 1) (rest := []) Z hml hl.1 hN hw (k_isSlot1 l D ad cI cZ cS cA (M := M) hs) tb_g mc_FB_isSlot mk_FB_38 mt_FB_isSlot mz_FB ⟨by decide, by decide, by decide +kernel⟩ ⟨Nat.le_of_ble_eq_true rfl, Nat.le_of_ble_eq_true rfl⟩ rfl rfl (Nat.le_of_ble_eq_true rfl) ⟨Nat.le_refl _, Nat.le_refl _⟩ md_FB_leads_8 (fun M2 H2 locs2 e2 hw => ?_)
  have ey2 := e2.symm
  subst ey2
  refine W.eq (g2 := F0 m 11 ls [.int (nI (1))]) rfl ?_
  refine xi_if_eq (tgt := 30) Z md_FB_leads_11 (by decide) (by omega) (fun h11 => by exfalso; omega) (fun h11 => ?_)
  refine lv_aload_n Z.1 Z.2.1 md_FB_leads_14 rfl (lv_at hl 0 rfl) ?_
  refine xb_get (v := .ref (ad (3, 0))) Z hw (fb_in0 n) (fb_e0 n ad cI cZ cS cA) rfl tb_iFB 2 (by decide) mk_FB_31 rfl rfl md_FB_leads_15 ?_
  refine lv_iload_n Z.1 Z.2.1 md_FB_leads_18 rfl (lv_at hl 2 rfl) ?_
  refine xw_aald (a := ad (7, s)) Z hw (fb_in3 n) (fb_e3 n ad cI cZ cS cA (M (3, 0))) 2 rfl (s) rfl hs (by omega) rfl md_FB_leads_19 ?_
  refine lv_iload_n Z.1 Z.2.1 md_FB_leads_20 rfl (lv_at hl 1 rfl) ?_
  refine xw_cV (n := 1) (rest := []) Z hml hl.1 hN hw (k_coordinator l D ad cI cZ cS cA (M := M) hs hc) tb_g mc_Slt_coordinator mk_FB_63 mi_Slt_coordinator ms_Slt_coordinator mz_Slt ⟨by decide, by decide, by decide +kernel⟩ ⟨Nat.le_of_ble_eq_true rfl, Nat.le_of_ble_eq_true rfl⟩ (fb_in7 n hs) (fb_e7 n ad cI cZ cS cA (s) _) rfl rfl rfl rfl (Nat.le_of_ble_eq_true rfl) ⟨Nat.le_refl _, Nat.le_refl _⟩ md_FB_leads_21 (fun M3 H3 locs3 e3 hw => ?_)
  have ey3 := e3.symm
  subst ey3
  refine W.eq (g2 := F0 m 24 ls [.ref (ad (9, 2 * s + c))]) rfl ?_
  refine xb_get (v := .int (M (9, 2 * s + c) 3)) Z hw (fb_in9 n hs hc) (fb_e9 n ad cI cZ cS cA (2 * s + c)) rfl tb_iCor 3 (by decide) mk_FB_67 rfl rfl md_FB_leads_24 ?_
  refine xi_re (show M (9, 2 * s + c) 3 = nI (S.2 s 8 c 0) from (fr_c h hs hc).2.1) ?_
  refine lv_goto (tgt := 31) Z.1 Z.2.1 md_FB_leads_27 (by decide) ?_
  exact xw_iret Z hr hlk hw md_FB_leads_31 rfl rfl
set_option maxHeartbeats 4000000 in
theorem k_leads_b1 (l : Launch) (D : va_G) {n : Nat} (ad : Nat × Nat → Nat) (cI cZ cS cA : ClassId) {M : fr_M} {q f : Nat} {S : pz_T} (hn : n ≤ 5) (hI : fr_I n q f S M) {x y : Int32} (hx8 : ¬ x = nI 8) (hx9 : ¬ x = nI 9) : fb_C l D n ad cI cZ cS cA my_FB_leads mb_FB_leads 3 (some .int) 1 20 M [.ref (ad (0, 0)), .int (x), .int (y)] (some (.int (-1))) (fun M' => M' = M) := by
  have h := hI.2
  have I := hI.1
  have h60 := I.1
  refine xw_start [.ref (ad (0, 0)), .int (x), .int (y)] (by decide) (Nat.le_of_ble_eq_true rfl) ?_
  intro p e st m below meth cd0 ls Z hml hr hlk hN hl hw
  have hl : lv_has ls 3 [(0, .ref (ad (0, 0))), (1, .int (x)), (2, .int (y))] := hl
  refine lv_iload_n Z.1 Z.2.1 md_FB_leads_0 rfl (lv_at hl 1 rfl) ?_
  refine xw_cS (n := 1) (rest := []) Z hml hl.1 hN hw (k_isCoordinator0 l D ad cI cZ cS cA (M := M) hx8 hx9) tb_g mc_FB_isCoordinator mk_FB_112 mt_FB_isCoordinator mz_FB ⟨by decide, by decide, by decide +kernel⟩ ⟨Nat.le_of_ble_eq_true rfl, Nat.le_of_ble_eq_true rfl⟩ rfl rfl (Nat.le_of_ble_eq_true rfl) ⟨Nat.le_refl _, Nat.le_refl _⟩ md_FB_leads_1 (fun M1 H1 locs1 e1 hw => ?_)
  have ey1 := e1.symm
  subst ey1
  refine W.eq (g2 := F0 m 4 ls [.int (nI (0))]) rfl ?_
  refine xi_if_eq (tgt := 30) Z md_FB_leads_4 (by decide) (by omega) (fun h4 => ?_) (fun h4 => by exfalso; omega)
  refine lv_iconst (v := -1) Z.1 Z.2.1 md_FB_leads_30 (by decide) ?_
  exact xw_iret Z hr hlk hw md_FB_leads_31 rfl rfl
set_option maxHeartbeats 4000000 in
theorem k_leads_b2 (l : Launch) (D : va_G) {n : Nat} (ad : Nat × Nat → Nat) (cI cZ cS cA : ClassId) {M : fr_M} {q f : Nat} {S : pz_T} (hn : n ≤ 5) (hI : fr_I n q f S M) {c : Nat} (hc : c < 2) {y : Int32} (hy : y < 0 ∨ nI 3 ≤ y) : fb_C l D n ad cI cZ cS cA my_FB_leads mb_FB_leads 3 (some .int) 1 20 M [.ref (ad (0, 0)), .int (nI (8 + c)), .int (y)] (some (.int (-1))) (fun M' => M' = M) := by
  have h := hI.2
  have I := hI.1
  have h60 := I.1
  refine xw_start [.ref (ad (0, 0)), .int (nI (8 + c)), .int (y)] (by decide) (Nat.le_of_ble_eq_true rfl) ?_
  intro p e st m below meth cd0 ls Z hml hr hlk hN hl hw
  have hl : lv_has ls 3 [(0, .ref (ad (0, 0))), (1, .int (nI (8 + c))), (2, .int (y))] := hl
  refine lv_iload_n Z.1 Z.2.1 md_FB_leads_0 rfl (lv_at hl 1 rfl) ?_
  refine xw_cS (n := 1) (rest := []) Z hml hl.1 hN hw (k_isCoordinator1 l D ad cI cZ cS cA (M := M) (show 8 + c = 8 ∨ 8 + c = 9 by omega)) tb_g mc_FB_isCoordinator mk_FB_112 mt_FB_isCoordinator mz_FB ⟨by decide, by decide, by decide +kernel⟩ ⟨Nat.le_of_ble_eq_true rfl, Nat.le_of_ble_eq_true rfl⟩ rfl rfl (Nat.le_of_ble_eq_true rfl) ⟨Nat.le_refl _, Nat.le_refl _⟩ md_FB_leads_1 (fun M1 H1 locs1 e1 hw => ?_)
  have ey1 := e1.symm
  subst ey1
  refine W.eq (g2 := F0 m 4 ls [.int (nI (1))]) rfl ?_
  refine xi_if_eq (tgt := 30) Z md_FB_leads_4 (by decide) (by omega) (fun h4 => by exfalso; omega) (fun h4 => ?_)
  refine lv_iload_n Z.1 Z.2.1 md_FB_leads_7 rfl (lv_at hl 2 rfl) ?_
  refine xw_cS (n := 1) (rest := []) Z hml hl.1 hN hw (k_isSlot0 l D ad cI cZ cS cA (M := M) hy) tb_g mc_FB_isSlot mk_FB_38 mt_FB_isSlot mz_FB ⟨by decide, by decide, by decide +kernel⟩ ⟨Nat.le_of_ble_eq_true rfl, Nat.le_of_ble_eq_true rfl⟩ rfl rfl (Nat.le_of_ble_eq_true rfl) ⟨Nat.le_refl _, Nat.le_refl _⟩ md_FB_leads_8 (fun M2 H2 locs2 e2 hw => ?_)
  have ey2 := e2.symm
  subst ey2
  refine W.eq (g2 := F0 m 11 ls [.int (nI (0))]) rfl ?_
  refine xi_if_eq (tgt := 30) Z md_FB_leads_11 (by decide) (by omega) (fun h11 => ?_) (fun h11 => by exfalso; omega)
  refine lv_iconst (v := -1) Z.1 Z.2.1 md_FB_leads_30 (by decide) ?_
  exact xw_iret Z hr hlk hw md_FB_leads_31 rfl rfl
set_option maxHeartbeats 4000000 in
theorem k_phase (l : Launch) (D : va_G) {n : Nat} (ad : Nat × Nat → Nat) (cI cZ cS cA : ClassId) {M : fr_M} {q f : Nat} {S : pz_T} (hn : n ≤ 5) (hI : fr_I n q f S M) {s c : Nat} (hs : s < 3) (hc : c < 2) : fb_C l D n ad cI cZ cS cA my_FB_phase mb_FB_phase 3 (some .int) 1 21 M [.ref (ad (0, 0)), .int (nI (8 + c)), .int (nI (s))] (some (.int (nI (S.2 s 9 c 0)))) (fun M' => M' = M) := by
  have h := hI.2
  have I := hI.1
  have h60 := I.1
  refine xw_start [.ref (ad (0, 0)), .int (nI (8 + c)), .int (nI (s))] (by decide) (Nat.le_of_ble_eq_true rfl) ?_
  intro p e st m below meth cd0 ls Z hml hr hlk hN hl hw
  have hl : lv_has ls 3 [(0, .ref (ad (0, 0))), (1, .int (nI (8 + c))), (2, .int (nI (s)))] := hl
  refine lv_iload_n Z.1 Z.2.1 md_FB_phase_0 rfl (lv_at hl 1 rfl) ?_
  refine xw_cS (n := 1) (rest := []) Z hml hl.1 hN hw (k_isCoordinator1 l D ad cI cZ cS cA (M := M) (show 8 + c = 8 ∨ 8 + c = 9 by omega)) tb_g mc_FB_isCoordinator mk_FB_112 mt_FB_isCoordinator mz_FB ⟨by decide, by decide, by decide +kernel⟩ ⟨Nat.le_of_ble_eq_true rfl, Nat.le_of_ble_eq_true rfl⟩ rfl rfl (Nat.le_of_ble_eq_true rfl) ⟨Nat.le_refl _, Nat.le_refl _⟩ md_FB_phase_1 (fun M1 H1 locs1 e1 hw => ?_)
  have ey1 := e1.symm
  subst ey1
  refine W.eq (g2 := F0 m 4 ls [.int (nI (1))]) rfl ?_
  refine xi_if_eq (tgt := 30) Z md_FB_phase_4 (by decide) (by omega) (fun h4 => by exfalso; omega) (fun h4 => ?_)
  refine lv_iload_n Z.1 Z.2.1 md_FB_phase_7 rfl (lv_at hl 2 rfl) ?_
  refine xw_cS (n := 1) (rest := []) Z hml hl.1 hN hw (k_isSlot1 l D ad cI cZ cS cA (M := M) hs) tb_g mc_FB_isSlot mk_FB_38 mt_FB_isSlot mz_FB ⟨by decide, by decide, by decide +kernel⟩ ⟨Nat.le_of_ble_eq_true rfl, Nat.le_of_ble_eq_true rfl⟩ rfl rfl (Nat.le_of_ble_eq_true rfl) ⟨Nat.le_refl _, Nat.le_refl _⟩ md_FB_phase_8 (fun M2 H2 locs2 e2 hw => ?_)
  have ey2 := e2.symm
  subst ey2
  refine W.eq (g2 := F0 m 11 ls [.int (nI (1))]) rfl ?_
  refine xi_if_eq (tgt := 30) Z md_FB_phase_11 (by decide) (by omega) (fun h11 => by exfalso; omega) (fun h11 => ?_)
  refine lv_aload_n Z.1 Z.2.1 md_FB_phase_14 rfl (lv_at hl 0 rfl) ?_
  refine xb_get (v := .ref (ad (3, 0))) Z hw (fb_in0 n) (fb_e0 n ad cI cZ cS cA) rfl tb_iFB 2 (by decide) mk_FB_31 rfl rfl md_FB_phase_15 ?_
  refine lv_iload_n Z.1 Z.2.1 md_FB_phase_18 rfl (lv_at hl 2 rfl) ?_
  refine xw_aald (a := ad (7, s)) Z hw (fb_in3 n) (fb_e3 n ad cI cZ cS cA (M (3, 0))) 2 rfl (s) rfl hs (by omega) rfl md_FB_phase_19 ?_
  refine lv_iload_n Z.1 Z.2.1 md_FB_phase_20 rfl (lv_at hl 1 rfl) ?_
  refine xw_cV (n := 1) (rest := []) Z hml hl.1 hN hw (k_coordinator l D ad cI cZ cS cA (M := M) hs hc) tb_g mc_Slt_coordinator mk_FB_63 mi_Slt_coordinator ms_Slt_coordinator mz_Slt ⟨by decide, by decide, by decide +kernel⟩ ⟨Nat.le_of_ble_eq_true rfl, Nat.le_of_ble_eq_true rfl⟩ (fb_in7 n hs) (fb_e7 n ad cI cZ cS cA (s) _) rfl rfl rfl rfl (Nat.le_of_ble_eq_true rfl) ⟨Nat.le_refl _, Nat.le_refl _⟩ md_FB_phase_21 (fun M3 H3 locs3 e3 hw => ?_)
  have ey3 := e3.symm
  subst ey3
  refine W.eq (g2 := F0 m 24 ls [.ref (ad (9, 2 * s + c))]) rfl ?_
  refine xb_get (v := .int (M (9, 2 * s + c) 4)) Z hw (fb_in9 n hs hc) (fb_e9 n ad cI cZ cS cA (2 * s + c)) rfl tb_iCor 4 (by decide) mk_FB_149 rfl rfl md_FB_phase_24 ?_
  refine xi_re (show M (9, 2 * s + c) 4 = nI (S.2 s 9 c 0) from (fr_c h hs hc).2.2.1) ?_
  refine lv_goto (tgt := 31) Z.1 Z.2.1 md_FB_phase_27 (by decide) ?_
  exact xw_iret Z hr hlk hw md_FB_phase_31 rfl rfl
set_option maxHeartbeats 4000000 in
theorem k_phase_b1 (l : Launch) (D : va_G) {n : Nat} (ad : Nat × Nat → Nat) (cI cZ cS cA : ClassId) {M : fr_M} {q f : Nat} {S : pz_T} (hn : n ≤ 5) (hI : fr_I n q f S M) {x y : Int32} (hx8 : ¬ x = nI 8) (hx9 : ¬ x = nI 9) : fb_C l D n ad cI cZ cS cA my_FB_phase mb_FB_phase 3 (some .int) 1 20 M [.ref (ad (0, 0)), .int (x), .int (y)] (some (.int (-1))) (fun M' => M' = M) := by
  have h := hI.2
  have I := hI.1
  have h60 := I.1
  refine xw_start [.ref (ad (0, 0)), .int (x), .int (y)] (by decide) (Nat.le_of_ble_eq_true rfl) ?_
  intro p e st m below meth cd0 ls Z hml hr hlk hN hl hw
  have hl : lv_has ls 3 [(0, .ref (ad (0, 0))), (1, .int (x)), (2, .int (y))] := hl
  refine lv_iload_n Z.1 Z.2.1 md_FB_phase_0 rfl (lv_at hl 1 rfl) ?_
  refine xw_cS (n := 1) (rest := []) Z hml hl.1 hN hw (k_isCoordinator0 l D ad cI cZ cS cA (M := M) hx8 hx9) tb_g mc_FB_isCoordinator mk_FB_112 mt_FB_isCoordinator mz_FB ⟨by decide, by decide, by decide +kernel⟩ ⟨Nat.le_of_ble_eq_true rfl, Nat.le_of_ble_eq_true rfl⟩ rfl rfl (Nat.le_of_ble_eq_true rfl) ⟨Nat.le_refl _, Nat.le_refl _⟩ md_FB_phase_1 (fun M1 H1 locs1 e1 hw => ?_)
  have ey1 := e1.symm
  subst ey1
  refine W.eq (g2 := F0 m 4 ls [.int (nI (0))]) rfl ?_
  refine xi_if_eq (tgt := 30) Z md_FB_phase_4 (by decide) (by omega) (fun h4 => ?_) (fun h4 => by exfalso; omega)
  refine lv_iconst (v := -1) Z.1 Z.2.1 md_FB_phase_30 (by decide) ?_
  exact xw_iret Z hr hlk hw md_FB_phase_31 rfl rfl
set_option maxHeartbeats 4000000 in
theorem k_phase_b2 (l : Launch) (D : va_G) {n : Nat} (ad : Nat × Nat → Nat) (cI cZ cS cA : ClassId) {M : fr_M} {q f : Nat} {S : pz_T} (hn : n ≤ 5) (hI : fr_I n q f S M) {c : Nat} (hc : c < 2) {y : Int32} (hy : y < 0 ∨ nI 3 ≤ y) : fb_C l D n ad cI cZ cS cA my_FB_phase mb_FB_phase 3 (some .int) 1 20 M [.ref (ad (0, 0)), .int (nI (8 + c)), .int (y)] (some (.int (-1))) (fun M' => M' = M) := by
  have h := hI.2
  have I := hI.1
  have h60 := I.1
  refine xw_start [.ref (ad (0, 0)), .int (nI (8 + c)), .int (y)] (by decide) (Nat.le_of_ble_eq_true rfl) ?_
  intro p e st m below meth cd0 ls Z hml hr hlk hN hl hw
  have hl : lv_has ls 3 [(0, .ref (ad (0, 0))), (1, .int (nI (8 + c))), (2, .int (y))] := hl
  refine lv_iload_n Z.1 Z.2.1 md_FB_phase_0 rfl (lv_at hl 1 rfl) ?_
  refine xw_cS (n := 1) (rest := []) Z hml hl.1 hN hw (k_isCoordinator1 l D ad cI cZ cS cA (M := M) (show 8 + c = 8 ∨ 8 + c = 9 by omega)) tb_g mc_FB_isCoordinator mk_FB_112 mt_FB_isCoordinator mz_FB ⟨by decide, by decide, by decide +kernel⟩ ⟨Nat.le_of_ble_eq_true rfl, Nat.le_of_ble_eq_true rfl⟩ rfl rfl (Nat.le_of_ble_eq_true rfl) ⟨Nat.le_refl _, Nat.le_refl _⟩ md_FB_phase_1 (fun M1 H1 locs1 e1 hw => ?_)
  have ey1 := e1.symm
  subst ey1
  refine W.eq (g2 := F0 m 4 ls [.int (nI (1))]) rfl ?_
  refine xi_if_eq (tgt := 30) Z md_FB_phase_4 (by decide) (by omega) (fun h4 => by exfalso; omega) (fun h4 => ?_)
  refine lv_iload_n Z.1 Z.2.1 md_FB_phase_7 rfl (lv_at hl 2 rfl) ?_
  refine xw_cS (n := 1) (rest := []) Z hml hl.1 hN hw (k_isSlot0 l D ad cI cZ cS cA (M := M) hy) tb_g mc_FB_isSlot mk_FB_38 mt_FB_isSlot mz_FB ⟨by decide, by decide, by decide +kernel⟩ ⟨Nat.le_of_ble_eq_true rfl, Nat.le_of_ble_eq_true rfl⟩ rfl rfl (Nat.le_of_ble_eq_true rfl) ⟨Nat.le_refl _, Nat.le_refl _⟩ md_FB_phase_8 (fun M2 H2 locs2 e2 hw => ?_)
  have ey2 := e2.symm
  subst ey2
  refine W.eq (g2 := F0 m 11 ls [.int (nI (0))]) rfl ?_
  refine xi_if_eq (tgt := 30) Z md_FB_phase_11 (by decide) (by omega) (fun h11 => ?_) (fun h11 => by exfalso; omega)
  refine lv_iconst (v := -1) Z.1 Z.2.1 md_FB_phase_30 (by decide) ?_
  exact xw_iret Z hr hlk hw md_FB_phase_31 rfl rfl
set_option maxHeartbeats 4000000 in
theorem k_learned (l : Launch) (D : va_G) {n : Nat} (ad : Nat × Nat → Nat) (cI cZ cS cA : ClassId) {M : fr_M} {q f : Nat} {S : pz_T} (hn : n ≤ 5) (hI : fr_I n q f S M) {s : Nat} (hs : s < 3) : fb_C l D n ad cI cZ cS cA my_FB_learned mb_FB_learned 2 (some .int) 1 20 M [.ref (ad (0, 0)), .int (nI (s))] (some (.int (nI (S.2 s 7 0 0)))) (fun M' => M' = M) := by
  have h := hI.2
  have I := hI.1
  have h60 := I.1
  refine xw_start [.ref (ad (0, 0)), .int (nI (s))] (by decide) (Nat.le_of_ble_eq_true rfl) ?_
  intro p e st m below meth cd0 ls Z hml hr hlk hN hl hw
  have hl : lv_has ls 2 [(0, .ref (ad (0, 0))), (1, .int (nI (s)))] := hl
  refine lv_iload_n Z.1 Z.2.1 md_FB_learned_0 rfl (lv_at hl 1 rfl) ?_
  refine xw_cS (n := 1) (rest := []) Z hml hl.1 hN hw (k_isSlot1 l D ad cI cZ cS cA (M := M) hs) tb_g mc_FB_isSlot mk_FB_38 mt_FB_isSlot mz_FB ⟨by decide, by decide, by decide +kernel⟩ ⟨Nat.le_of_ble_eq_true rfl, Nat.le_of_ble_eq_true rfl⟩ rfl rfl (Nat.le_of_ble_eq_true rfl) ⟨Nat.le_refl _, Nat.le_refl _⟩ md_FB_learned_1 (fun M1 H1 locs1 e1 hw => ?_)
  have ey1 := e1.symm
  subst ey1
  refine W.eq (g2 := F0 m 4 ls [.int (nI (1))]) rfl ?_
  refine xi_if_eq (tgt := 22) Z md_FB_learned_4 (by decide) (by omega) (fun h4 => by exfalso; omega) (fun h4 => ?_)
  refine lv_aload_n Z.1 Z.2.1 md_FB_learned_7 rfl (lv_at hl 0 rfl) ?_
  refine xb_get (v := .ref (ad (3, 0))) Z hw (fb_in0 n) (fb_e0 n ad cI cZ cS cA) rfl tb_iFB 2 (by decide) mk_FB_31 rfl rfl md_FB_learned_8 ?_
  refine lv_iload_n Z.1 Z.2.1 md_FB_learned_11 rfl (lv_at hl 1 rfl) ?_
  refine xw_aald (a := ad (7, s)) Z hw (fb_in3 n) (fb_e3 n ad cI cZ cS cA (M (3, 0))) 2 rfl (s) rfl hs (by omega) rfl md_FB_learned_12 ?_
  refine xb_get (v := .ref (ad (13, 2 * s + 1))) Z hw (fb_in7 n hs) (fb_e7 n ad cI cZ cS cA (s)) rfl tb_iSlt 4 (by decide) mk_FB_94 rfl rfl md_FB_learned_13 ?_
  refine xb_get (v := .int (M (13, 2 * s + 1) 2)) Z hw (fb_in13 n hs (by decide)) (fb_e13 n ad cI cZ cS cA (2 * s + 1)) rfl tb_iTal 2 (by decide) mk_FB_152 rfl rfl md_FB_learned_16 ?_
  refine xi_re (show M (13, 2 * s + 1) 2 = nI (S.2 s 7 0 0) from (fr_s h hs).2) ?_
  refine lv_goto (tgt := 23) Z.1 Z.2.1 md_FB_learned_19 (by decide) ?_
  exact xw_iret Z hr hlk hw md_FB_learned_23 rfl rfl
set_option maxHeartbeats 4000000 in
theorem k_learned_b (l : Launch) (D : va_G) {n : Nat} (ad : Nat × Nat → Nat) (cI cZ cS cA : ClassId) {M : fr_M} {q f : Nat} {S : pz_T} (hn : n ≤ 5) (hI : fr_I n q f S M) {x : Int32} (hx : x < 0 ∨ nI 3 ≤ x) : fb_C l D n ad cI cZ cS cA my_FB_learned mb_FB_learned 2 (some .int) 1 20 M [.ref (ad (0, 0)), .int (x)] (some (.int (-1))) (fun M' => M' = M) := by
  have h := hI.2
  have I := hI.1
  have h60 := I.1
  refine xw_start [.ref (ad (0, 0)), .int (x)] (by decide) (Nat.le_of_ble_eq_true rfl) ?_
  intro p e st m below meth cd0 ls Z hml hr hlk hN hl hw
  have hl : lv_has ls 2 [(0, .ref (ad (0, 0))), (1, .int (x))] := hl
  refine lv_iload_n Z.1 Z.2.1 md_FB_learned_0 rfl (lv_at hl 1 rfl) ?_
  refine xw_cS (n := 1) (rest := []) Z hml hl.1 hN hw (k_isSlot0 l D ad cI cZ cS cA (M := M) hx) tb_g mc_FB_isSlot mk_FB_38 mt_FB_isSlot mz_FB ⟨by decide, by decide, by decide +kernel⟩ ⟨Nat.le_of_ble_eq_true rfl, Nat.le_of_ble_eq_true rfl⟩ rfl rfl (Nat.le_of_ble_eq_true rfl) ⟨Nat.le_refl _, Nat.le_refl _⟩ md_FB_learned_1 (fun M1 H1 locs1 e1 hw => ?_)
  have ey1 := e1.symm
  subst ey1
  refine W.eq (g2 := F0 m 4 ls [.int (nI (0))]) rfl ?_
  refine xi_if_eq (tgt := 22) Z md_FB_learned_4 (by decide) (by omega) (fun h4 => ?_) (fun h4 => by exfalso; omega)
  refine lv_iconst (v := -1) Z.1 Z.2.1 md_FB_learned_22 (by decide) ?_
  exact xw_iret Z hr hlk hw md_FB_learned_23 rfl rfl
set_option maxHeartbeats 4000000 in
theorem k_chosen (l : Launch) (D : va_G) {n : Nat} (ad : Nat × Nat → Nat) (cI cZ cS cA : ClassId) {M : fr_M} {q f : Nat} {S : pz_T} (hn : n ≤ 5) (hI : fr_I n q f S M) {s : Nat} (hs : s < 3) : fb_C l D n ad cI cZ cS cA my_FB_chosen mb_FB_chosen 2 (some .int) 1 20 M [.ref (ad (0, 0)), .int (nI (s))] (some (.int (nI (S.2 s 16 0 0)))) (fun M' => M' = M) := by
  have h := hI.2
  have I := hI.1
  have h60 := I.1
  refine xw_start [.ref (ad (0, 0)), .int (nI (s))] (by decide) (Nat.le_of_ble_eq_true rfl) ?_
  intro p e st m below meth cd0 ls Z hml hr hlk hN hl hw
  have hl : lv_has ls 2 [(0, .ref (ad (0, 0))), (1, .int (nI (s)))] := hl
  refine lv_iload_n Z.1 Z.2.1 md_FB_chosen_0 rfl (lv_at hl 1 rfl) ?_
  refine xw_cS (n := 1) (rest := []) Z hml hl.1 hN hw (k_isSlot1 l D ad cI cZ cS cA (M := M) hs) tb_g mc_FB_isSlot mk_FB_38 mt_FB_isSlot mz_FB ⟨by decide, by decide, by decide +kernel⟩ ⟨Nat.le_of_ble_eq_true rfl, Nat.le_of_ble_eq_true rfl⟩ rfl rfl (Nat.le_of_ble_eq_true rfl) ⟨Nat.le_refl _, Nat.le_refl _⟩ md_FB_chosen_1 (fun M1 H1 locs1 e1 hw => ?_)
  have ey1 := e1.symm
  subst ey1
  refine W.eq (g2 := F0 m 4 ls [.int (nI (1))]) rfl ?_
  refine xi_if_eq (tgt := 22) Z md_FB_chosen_4 (by decide) (by omega) (fun h4 => by exfalso; omega) (fun h4 => ?_)
  refine lv_aload_n Z.1 Z.2.1 md_FB_chosen_7 rfl (lv_at hl 0 rfl) ?_
  refine xb_get (v := .ref (ad (3, 0))) Z hw (fb_in0 n) (fb_e0 n ad cI cZ cS cA) rfl tb_iFB 2 (by decide) mk_FB_31 rfl rfl md_FB_chosen_8 ?_
  refine lv_iload_n Z.1 Z.2.1 md_FB_chosen_11 rfl (lv_at hl 1 rfl) ?_
  refine xw_aald (a := ad (7, s)) Z hw (fb_in3 n) (fb_e3 n ad cI cZ cS cA (M (3, 0))) 2 rfl (s) rfl hs (by omega) rfl md_FB_chosen_12 ?_
  refine xb_get (v := .ref (ad (13, 2 * s + 0))) Z hw (fb_in7 n hs) (fb_e7 n ad cI cZ cS cA (s)) rfl tb_iSlt 3 (by decide) mk_FB_155 rfl rfl md_FB_chosen_13 ?_
  refine xb_get (v := .int (M (13, 2 * s + 0) 2)) Z hw (fb_in13 n hs (by decide)) (fb_e13 n ad cI cZ cS cA (2 * s + 0)) rfl tb_iTal 2 (by decide) mk_FB_152 rfl rfl md_FB_chosen_16 ?_
  refine xi_re (show M (13, 2 * s + 0) 2 = nI (S.2 s 16 0 0) from (fr_s h hs).1) ?_
  refine lv_goto (tgt := 23) Z.1 Z.2.1 md_FB_chosen_19 (by decide) ?_
  exact xw_iret Z hr hlk hw md_FB_chosen_23 rfl rfl
set_option maxHeartbeats 4000000 in
theorem k_chosen_b (l : Launch) (D : va_G) {n : Nat} (ad : Nat × Nat → Nat) (cI cZ cS cA : ClassId) {M : fr_M} {q f : Nat} {S : pz_T} (hn : n ≤ 5) (hI : fr_I n q f S M) {x : Int32} (hx : x < 0 ∨ nI 3 ≤ x) : fb_C l D n ad cI cZ cS cA my_FB_chosen mb_FB_chosen 2 (some .int) 1 20 M [.ref (ad (0, 0)), .int (x)] (some (.int (-1))) (fun M' => M' = M) := by
  have h := hI.2
  have I := hI.1
  have h60 := I.1
  refine xw_start [.ref (ad (0, 0)), .int (x)] (by decide) (Nat.le_of_ble_eq_true rfl) ?_
  intro p e st m below meth cd0 ls Z hml hr hlk hN hl hw
  have hl : lv_has ls 2 [(0, .ref (ad (0, 0))), (1, .int (x))] := hl
  refine lv_iload_n Z.1 Z.2.1 md_FB_chosen_0 rfl (lv_at hl 1 rfl) ?_
  refine xw_cS (n := 1) (rest := []) Z hml hl.1 hN hw (k_isSlot0 l D ad cI cZ cS cA (M := M) hx) tb_g mc_FB_isSlot mk_FB_38 mt_FB_isSlot mz_FB ⟨by decide, by decide, by decide +kernel⟩ ⟨Nat.le_of_ble_eq_true rfl, Nat.le_of_ble_eq_true rfl⟩ rfl rfl (Nat.le_of_ble_eq_true rfl) ⟨Nat.le_refl _, Nat.le_refl _⟩ md_FB_chosen_1 (fun M1 H1 locs1 e1 hw => ?_)
  have ey1 := e1.symm
  subst ey1
  refine W.eq (g2 := F0 m 4 ls [.int (nI (0))]) rfl ?_
  refine xi_if_eq (tgt := 22) Z md_FB_chosen_4 (by decide) (by omega) (fun h4 => ?_) (fun h4 => by exfalso; omega)
  refine lv_iconst (v := -1) Z.1 Z.2.1 md_FB_chosen_22 (by decide) ?_
  exact xw_iret Z hr hlk hw md_FB_chosen_23 rfl rfl
set_option maxHeartbeats 4000000 in
theorem k_votes (l : Launch) (D : va_G) {n : Nat} (ad : Nat × Nat → Nat) (cI cZ cS cA : ClassId) {M : fr_M} {q f : Nat} {S : pz_T} (hn : n ≤ 5) (hI : fr_I n q f S M) {s r v : Nat} (hs : s < 3) (hr1 : 1 ≤ r) (hr12 : r ≤ 12) (hv1 : 1 ≤ v) (hv2 : v ≤ 1000) (iV : ∀ a, a < n → S.2 s 5 r a < 2 ^ 31) : fb_C l D n ad cI cZ cS cA my_FB_votes mb_FB_votes 4 (some .int) 1 25 M [.ref (ad (0, 0)), .int (nI (s)), .int (nI (r)), .int (nI (v))] (some (.int (nI (pz_cv (S.2 s) n r v)))) (fun M' => M' = M) := by
  have h := hI.2
  have I := hI.1
  have h60 := I.1
  refine xw_start [.ref (ad (0, 0)), .int (nI (s)), .int (nI (r)), .int (nI (v))] (by decide) (Nat.le_of_ble_eq_true rfl) ?_
  intro p e st m below meth cd0 ls Z hml hr hlk hN hl hw
  have hl : lv_has ls 4 [(0, .ref (ad (0, 0))), (1, .int (nI (s))), (2, .int (nI (r))), (3, .int (nI (v)))] := hl
  refine lv_iload_n Z.1 Z.2.1 md_FB_votes_0 rfl (lv_at hl 1 rfl) ?_
  refine xw_cS (n := 1) (rest := []) Z hml hl.1 hN hw (k_isSlot1 l D ad cI cZ cS cA (M := M) hs) tb_g mc_FB_isSlot mk_FB_38 mt_FB_isSlot mz_FB ⟨by decide, by decide, by decide +kernel⟩ ⟨Nat.le_of_ble_eq_true rfl, Nat.le_of_ble_eq_true rfl⟩ rfl rfl (Nat.le_of_ble_eq_true rfl) ⟨Nat.le_refl _, Nat.le_refl _⟩ md_FB_votes_1 (fun M1 H1 locs1 e1 hw => ?_)
  have ey1 := e1.symm
  subst ey1
  refine W.eq (g2 := F0 m 4 ls [.int (nI (1))]) rfl ?_
  refine xi_if_eq (tgt := 21) Z md_FB_votes_4 (by decide) (by omega) (fun h4 => by exfalso; omega) (fun h4 => ?_)
  refine lv_iload_n Z.1 Z.2.1 md_FB_votes_7 rfl (lv_at hl 2 rfl) ?_
  refine xw_cS (n := 1) (rest := []) Z hml hl.1 hN hw (k_isRound1 l D ad cI cZ cS cA (M := M) hr1 hr12) tb_g mc_FB_isRound mk_FB_56 mt_FB_isRound mz_FB ⟨by decide, by decide, by decide +kernel⟩ ⟨Nat.le_of_ble_eq_true rfl, Nat.le_of_ble_eq_true rfl⟩ rfl rfl (Nat.le_of_ble_eq_true rfl) ⟨Nat.le_refl _, Nat.le_refl _⟩ md_FB_votes_8 (fun M2 H2 locs2 e2 hw => ?_)
  have ey2 := e2.symm
  subst ey2
  refine W.eq (g2 := F0 m 11 ls [.int (nI (1))]) rfl ?_
  refine xi_if_eq (tgt := 21) Z md_FB_votes_11 (by decide) (by omega) (fun h11 => by exfalso; omega) (fun h11 => ?_)
  refine lv_iload_n Z.1 Z.2.1 md_FB_votes_14 rfl (lv_at hl 3 rfl) ?_
  refine xw_cS (n := 1) (rest := []) Z hml hl.1 hN hw (k_isValue1 l D ad cI cZ cS cA (M := M) hv1 hv2) tb_g mc_FB_isValue mk_FB_42 mt_FB_isValue mz_FB ⟨by decide, by decide, by decide +kernel⟩ ⟨Nat.le_of_ble_eq_true rfl, Nat.le_of_ble_eq_true rfl⟩ rfl rfl (Nat.le_of_ble_eq_true rfl) ⟨Nat.le_refl _, Nat.le_refl _⟩ md_FB_votes_15 (fun M3 H3 locs3 e3 hw => ?_)
  have ey3 := e3.symm
  subst ey3
  refine W.eq (g2 := F0 m 18 ls [.int (nI (1))]) rfl ?_
  refine xi_if_ne (tgt := 23) Z md_FB_votes_18 (by decide) (by omega) (fun h18 => ?_) (fun h18 => by exfalso; omega)
  refine lv_aload_n Z.1 Z.2.1 md_FB_votes_23 rfl (lv_at hl 0 rfl) ?_
  refine xb_get (v := .ref (ad (3, 0))) Z hw (fb_in0 n) (fb_e0 n ad cI cZ cS cA) rfl tb_iFB 2 (by decide) mk_FB_31 rfl rfl md_FB_votes_24 ?_
  refine lv_iload_n Z.1 Z.2.1 md_FB_votes_27 rfl (lv_at hl 1 rfl) ?_
  refine xw_aald (a := ad (7, s)) Z hw (fb_in3 n) (fb_e3 n ad cI cZ cS cA (M (3, 0))) 2 rfl (s) rfl hs (by omega) rfl md_FB_votes_28 ?_
  refine xb_get (v := .ref (ad (13, 2 * s + 0))) Z hw (fb_in7 n hs) (fb_e7 n ad cI cZ cS cA (s)) rfl tb_iSlt 3 (by decide) mk_FB_155 rfl rfl md_FB_votes_29 ?_
  refine lv_iload_n Z.1 Z.2.1 md_FB_votes_32 rfl (lv_at hl 2 rfl) ?_
  refine lv_iload_n Z.1 Z.2.1 md_FB_votes_33 rfl (lv_at hl 3 rfl) ?_
  refine xw_cV (n := 2) (rest := []) Z hml hl.1 hN hw (k_tally0 l D ad cI cZ cS cA hn h hs hr12 (by omega) iV) tb_g mc_Tal_tally mk_FB_158 mi_Tal_tally ms_Tal_tally mz_Tal ⟨by decide, by decide, by decide +kernel⟩ ⟨Nat.le_of_ble_eq_true rfl, Nat.le_of_ble_eq_true rfl⟩ (fb_in13 n hs (by decide)) (fb_e13 n ad cI cZ cS cA (2 * s + 0) _) rfl rfl rfl rfl (Nat.le_of_ble_eq_true rfl) ⟨Nat.le_refl _, Nat.le_refl _⟩ md_FB_votes_34 (fun M4 H4 locs4 e4 hw => ?_)
  have ey4 := e4.symm
  subst ey4
  refine W.eq (g2 := F0 m 37 ls [.int (nI (pz_cv (S.2 s) n r v))]) rfl ?_
  exact xw_iret Z hr hlk hw md_FB_votes_37 rfl rfl
set_option maxHeartbeats 4000000 in
theorem k_votes_b1 (l : Launch) (D : va_G) {n : Nat} (ad : Nat × Nat → Nat) (cI cZ cS cA : ClassId) {M : fr_M} {q f : Nat} {S : pz_T} (hn : n ≤ 5) (hI : fr_I n q f S M) {x : Int32} (hx : x < 0 ∨ nI 3 ≤ x) {y z : Int32} : fb_C l D n ad cI cZ cS cA my_FB_votes mb_FB_votes 4 (some .int) 1 20 M [.ref (ad (0, 0)), .int (x), .int (y), .int (z)] (some (.int (-1))) (fun M' => M' = M) := by
  have h := hI.2
  have I := hI.1
  have h60 := I.1
  refine xw_start [.ref (ad (0, 0)), .int (x), .int (y), .int (z)] (by decide) (Nat.le_of_ble_eq_true rfl) ?_
  intro p e st m below meth cd0 ls Z hml hr hlk hN hl hw
  have hl : lv_has ls 4 [(0, .ref (ad (0, 0))), (1, .int (x)), (2, .int (y)), (3, .int (z))] := hl
  refine lv_iload_n Z.1 Z.2.1 md_FB_votes_0 rfl (lv_at hl 1 rfl) ?_
  refine xw_cS (n := 1) (rest := []) Z hml hl.1 hN hw (k_isSlot0 l D ad cI cZ cS cA (M := M) hx) tb_g mc_FB_isSlot mk_FB_38 mt_FB_isSlot mz_FB ⟨by decide, by decide, by decide +kernel⟩ ⟨Nat.le_of_ble_eq_true rfl, Nat.le_of_ble_eq_true rfl⟩ rfl rfl (Nat.le_of_ble_eq_true rfl) ⟨Nat.le_refl _, Nat.le_refl _⟩ md_FB_votes_1 (fun M1 H1 locs1 e1 hw => ?_)
  have ey1 := e1.symm
  subst ey1
  refine W.eq (g2 := F0 m 4 ls [.int (nI (0))]) rfl ?_
  refine xi_if_eq (tgt := 21) Z md_FB_votes_4 (by decide) (by omega) (fun h4 => ?_) (fun h4 => by exfalso; omega)
  refine lv_iconst (v := -1) Z.1 Z.2.1 md_FB_votes_21 (by decide) ?_
  exact xw_iret Z hr hlk hw md_FB_votes_22 rfl rfl
set_option maxHeartbeats 4000000 in
theorem k_votes_b2 (l : Launch) (D : va_G) {n : Nat} (ad : Nat × Nat → Nat) (cI cZ cS cA : ClassId) {M : fr_M} {q f : Nat} {S : pz_T} (hn : n ≤ 5) (hI : fr_I n q f S M) {s : Nat} (hs : s < 3) {y z : Int32} (hy : y < nI 1 ∨ nI 12 < y) : fb_C l D n ad cI cZ cS cA my_FB_votes mb_FB_votes 4 (some .int) 1 20 M [.ref (ad (0, 0)), .int (nI (s)), .int (y), .int (z)] (some (.int (-1))) (fun M' => M' = M) := by
  have h := hI.2
  have I := hI.1
  have h60 := I.1
  refine xw_start [.ref (ad (0, 0)), .int (nI (s)), .int (y), .int (z)] (by decide) (Nat.le_of_ble_eq_true rfl) ?_
  intro p e st m below meth cd0 ls Z hml hr hlk hN hl hw
  have hl : lv_has ls 4 [(0, .ref (ad (0, 0))), (1, .int (nI (s))), (2, .int (y)), (3, .int (z))] := hl
  refine lv_iload_n Z.1 Z.2.1 md_FB_votes_0 rfl (lv_at hl 1 rfl) ?_
  refine xw_cS (n := 1) (rest := []) Z hml hl.1 hN hw (k_isSlot1 l D ad cI cZ cS cA (M := M) hs) tb_g mc_FB_isSlot mk_FB_38 mt_FB_isSlot mz_FB ⟨by decide, by decide, by decide +kernel⟩ ⟨Nat.le_of_ble_eq_true rfl, Nat.le_of_ble_eq_true rfl⟩ rfl rfl (Nat.le_of_ble_eq_true rfl) ⟨Nat.le_refl _, Nat.le_refl _⟩ md_FB_votes_1 (fun M1 H1 locs1 e1 hw => ?_)
  have ey1 := e1.symm
  subst ey1
  refine W.eq (g2 := F0 m 4 ls [.int (nI (1))]) rfl ?_
  refine xi_if_eq (tgt := 21) Z md_FB_votes_4 (by decide) (by omega) (fun h4 => by exfalso; omega) (fun h4 => ?_)
  refine lv_iload_n Z.1 Z.2.1 md_FB_votes_7 rfl (lv_at hl 2 rfl) ?_
  refine xw_cS (n := 1) (rest := []) Z hml hl.1 hN hw (k_isRound0 l D ad cI cZ cS cA (M := M) hy) tb_g mc_FB_isRound mk_FB_56 mt_FB_isRound mz_FB ⟨by decide, by decide, by decide +kernel⟩ ⟨Nat.le_of_ble_eq_true rfl, Nat.le_of_ble_eq_true rfl⟩ rfl rfl (Nat.le_of_ble_eq_true rfl) ⟨Nat.le_refl _, Nat.le_refl _⟩ md_FB_votes_8 (fun M2 H2 locs2 e2 hw => ?_)
  have ey2 := e2.symm
  subst ey2
  refine W.eq (g2 := F0 m 11 ls [.int (nI (0))]) rfl ?_
  refine xi_if_eq (tgt := 21) Z md_FB_votes_11 (by decide) (by omega) (fun h11 => ?_) (fun h11 => by exfalso; omega)
  refine lv_iconst (v := -1) Z.1 Z.2.1 md_FB_votes_21 (by decide) ?_
  exact xw_iret Z hr hlk hw md_FB_votes_22 rfl rfl
set_option maxHeartbeats 4000000 in
theorem k_votes_b3 (l : Launch) (D : va_G) {n : Nat} (ad : Nat × Nat → Nat) (cI cZ cS cA : ClassId) {M : fr_M} {q f : Nat} {S : pz_T} (hn : n ≤ 5) (hI : fr_I n q f S M) {s r : Nat} (hs : s < 3) (hr1 : 1 ≤ r) (hr12 : r ≤ 12) {z : Int32} (hz : z < nI 1 ∨ nI 1000 < z) : fb_C l D n ad cI cZ cS cA my_FB_votes mb_FB_votes 4 (some .int) 1 20 M [.ref (ad (0, 0)), .int (nI (s)), .int (nI (r)), .int (z)] (some (.int (-1))) (fun M' => M' = M) := by
  have h := hI.2
  have I := hI.1
  have h60 := I.1
  refine xw_start [.ref (ad (0, 0)), .int (nI (s)), .int (nI (r)), .int (z)] (by decide) (Nat.le_of_ble_eq_true rfl) ?_
  intro p e st m below meth cd0 ls Z hml hr hlk hN hl hw
  have hl : lv_has ls 4 [(0, .ref (ad (0, 0))), (1, .int (nI (s))), (2, .int (nI (r))), (3, .int (z))] := hl
  refine lv_iload_n Z.1 Z.2.1 md_FB_votes_0 rfl (lv_at hl 1 rfl) ?_
  refine xw_cS (n := 1) (rest := []) Z hml hl.1 hN hw (k_isSlot1 l D ad cI cZ cS cA (M := M) hs) tb_g mc_FB_isSlot mk_FB_38 mt_FB_isSlot mz_FB ⟨by decide, by decide, by decide +kernel⟩ ⟨Nat.le_of_ble_eq_true rfl, Nat.le_of_ble_eq_true rfl⟩ rfl rfl (Nat.le_of_ble_eq_true rfl) ⟨Nat.le_refl _, Nat.le_refl _⟩ md_FB_votes_1 (fun M1 H1 locs1 e1 hw => ?_)
  have ey1 := e1.symm
  subst ey1
  refine W.eq (g2 := F0 m 4 ls [.int (nI (1))]) rfl ?_
  refine xi_if_eq (tgt := 21) Z md_FB_votes_4 (by decide) (by omega) (fun h4 => by exfalso; omega) (fun h4 => ?_)
  refine lv_iload_n Z.1 Z.2.1 md_FB_votes_7 rfl (lv_at hl 2 rfl) ?_
  refine xw_cS (n := 1) (rest := []) Z hml hl.1 hN hw (k_isRound1 l D ad cI cZ cS cA (M := M) hr1 hr12) tb_g mc_FB_isRound mk_FB_56 mt_FB_isRound mz_FB ⟨by decide, by decide, by decide +kernel⟩ ⟨Nat.le_of_ble_eq_true rfl, Nat.le_of_ble_eq_true rfl⟩ rfl rfl (Nat.le_of_ble_eq_true rfl) ⟨Nat.le_refl _, Nat.le_refl _⟩ md_FB_votes_8 (fun M2 H2 locs2 e2 hw => ?_)
  have ey2 := e2.symm
  subst ey2
  refine W.eq (g2 := F0 m 11 ls [.int (nI (1))]) rfl ?_
  refine xi_if_eq (tgt := 21) Z md_FB_votes_11 (by decide) (by omega) (fun h11 => by exfalso; omega) (fun h11 => ?_)
  refine lv_iload_n Z.1 Z.2.1 md_FB_votes_14 rfl (lv_at hl 3 rfl) ?_
  refine xw_cS (n := 1) (rest := []) Z hml hl.1 hN hw (k_isValue0 l D ad cI cZ cS cA (M := M) hz) tb_g mc_FB_isValue mk_FB_42 mt_FB_isValue mz_FB ⟨by decide, by decide, by decide +kernel⟩ ⟨Nat.le_of_ble_eq_true rfl, Nat.le_of_ble_eq_true rfl⟩ rfl rfl (Nat.le_of_ble_eq_true rfl) ⟨Nat.le_refl _, Nat.le_refl _⟩ md_FB_votes_15 (fun M3 H3 locs3 e3 hw => ?_)
  have ey3 := e3.symm
  subst ey3
  refine W.eq (g2 := F0 m 18 ls [.int (nI (0))]) rfl ?_
  refine xi_if_ne (tgt := 23) Z md_FB_votes_18 (by decide) (by omega) (fun h18 => by exfalso; omega) (fun h18 => ?_)
  refine lv_iconst (v := -1) Z.1 Z.2.1 md_FB_votes_21 (by decide) ?_
  exact xw_iret Z hr hlk hw md_FB_votes_22 rfl rfl
set_option maxHeartbeats 4000000 in
theorem k_size0 (l : Launch) (D : va_G) {n : Nat} (ad : Nat × Nat → Nat) (cI cZ cS cA : ClassId) {M : fr_M} {q f : Nat} {S : pz_T} (hn : n ≤ 5) (hI : fr_I n q f S M) : fb_C l D n ad cI cZ cS cA my_FB_size mb_FB_size 2 (some .int) 0 0 M [.ref (ad (0, 0)), .int (nI (0))] (some (.int (nI n))) (fun M' => M' = M) := by
  have h := hI.2
  have I := hI.1
  have h60 := I.1
  refine xw_start [.ref (ad (0, 0)), .int (nI (0))] (by decide) (Nat.le_of_ble_eq_true rfl) ?_
  intro p e st m below meth cd0 ls Z hml hr hlk hN hl hw
  have hl : lv_has ls 2 [(0, .ref (ad (0, 0))), (1, .int (nI (0)))] := hl
  refine lv_iload_n Z.1 Z.2.1 md_FB_size_0 rfl (lv_at hl 1 rfl) ?_
  refine lv_tableIn (tgt := 28) Z.1 Z.2.1 md_FB_size_1 (by decide) (by decide) rfl (by decide) ?_
  refine lv_aload_n Z.1 Z.2.1 md_FB_size_28 rfl (lv_at hl 0 rfl) ?_
  refine xb_get (v := .ref (ad (1, 0))) Z hw (fb_in0 n) (fb_e0 n ad cI cZ cS cA) rfl tb_iFB 0 (by decide) mk_FB_12 rfl rfl md_FB_size_29 ?_
  refine xb_get (v := .int (M (1, 0) 0)) Z hw (fb_in1 n) (fb_e1 n ad cI cZ cS cA) rfl tb_iSiz 0 (by decide) mk_FB_45 rfl rfl md_FB_size_32 ?_
  refine xi_re (show M (1, 0) 0 = nI (n) from h.1.1) ?_
  exact xw_iret Z hr hlk hw md_FB_size_35 rfl rfl
set_option maxHeartbeats 4000000 in
theorem k_size1 (l : Launch) (D : va_G) {n : Nat} (ad : Nat × Nat → Nat) (cI cZ cS cA : ClassId) {M : fr_M} {q f : Nat} {S : pz_T} (hn : n ≤ 5) (hI : fr_I n q f S M) : fb_C l D n ad cI cZ cS cA my_FB_size mb_FB_size 2 (some .int) 0 0 M [.ref (ad (0, 0)), .int (nI (1))] (some (.int (nI q))) (fun M' => M' = M) := by
  have h := hI.2
  have I := hI.1
  have h60 := I.1
  refine xw_start [.ref (ad (0, 0)), .int (nI (1))] (by decide) (Nat.le_of_ble_eq_true rfl) ?_
  intro p e st m below meth cd0 ls Z hml hr hlk hN hl hw
  have hl : lv_has ls 2 [(0, .ref (ad (0, 0))), (1, .int (nI (1)))] := hl
  refine lv_iload_n Z.1 Z.2.1 md_FB_size_0 rfl (lv_at hl 1 rfl) ?_
  refine lv_tableIn (tgt := 36) Z.1 Z.2.1 md_FB_size_1 (by decide) (by decide) rfl (by decide) ?_
  refine lv_aload_n Z.1 Z.2.1 md_FB_size_36 rfl (lv_at hl 0 rfl) ?_
  refine xb_get (v := .ref (ad (1, 0))) Z hw (fb_in0 n) (fb_e0 n ad cI cZ cS cA) rfl tb_iFB 0 (by decide) mk_FB_12 rfl rfl md_FB_size_37 ?_
  refine xb_get (v := .int (M (1, 0) 1)) Z hw (fb_in1 n) (fb_e1 n ad cI cZ cS cA) rfl tb_iSiz 1 (by decide) mk_FB_162 rfl rfl md_FB_size_40 ?_
  refine xi_re (show M (1, 0) 1 = nI (q) from h.1.2.1) ?_
  exact xw_iret Z hr hlk hw md_FB_size_43 rfl rfl
set_option maxHeartbeats 4000000 in
theorem k_size2 (l : Launch) (D : va_G) {n : Nat} (ad : Nat × Nat → Nat) (cI cZ cS cA : ClassId) {M : fr_M} {q f : Nat} {S : pz_T} (hn : n ≤ 5) (hI : fr_I n q f S M) : fb_C l D n ad cI cZ cS cA my_FB_size mb_FB_size 2 (some .int) 0 0 M [.ref (ad (0, 0)), .int (nI (2))] (some (.int (nI f))) (fun M' => M' = M) := by
  have h := hI.2
  have I := hI.1
  have h60 := I.1
  refine xw_start [.ref (ad (0, 0)), .int (nI (2))] (by decide) (Nat.le_of_ble_eq_true rfl) ?_
  intro p e st m below meth cd0 ls Z hml hr hlk hN hl hw
  have hl : lv_has ls 2 [(0, .ref (ad (0, 0))), (1, .int (nI (2)))] := hl
  refine lv_iload_n Z.1 Z.2.1 md_FB_size_0 rfl (lv_at hl 1 rfl) ?_
  refine lv_tableIn (tgt := 44) Z.1 Z.2.1 md_FB_size_1 (by decide) (by decide) rfl (by decide) ?_
  refine lv_aload_n Z.1 Z.2.1 md_FB_size_44 rfl (lv_at hl 0 rfl) ?_
  refine xb_get (v := .ref (ad (1, 0))) Z hw (fb_in0 n) (fb_e0 n ad cI cZ cS cA) rfl tb_iFB 0 (by decide) mk_FB_12 rfl rfl md_FB_size_45 ?_
  refine xb_get (v := .int (M (1, 0) 2)) Z hw (fb_in1 n) (fb_e1 n ad cI cZ cS cA) rfl tb_iSiz 2 (by decide) mk_FB_165 rfl rfl md_FB_size_48 ?_
  refine xi_re (show M (1, 0) 2 = nI (f) from h.1.2.2) ?_
  exact xw_iret Z hr hlk hw md_FB_size_51 rfl rfl
set_option maxHeartbeats 4000000 in
theorem k_size_b (l : Launch) (D : va_G) {n : Nat} (ad : Nat × Nat → Nat) (cI cZ cS cA : ClassId) {M : fr_M} {q f : Nat} {S : pz_T} (hn : n ≤ 5) (hI : fr_I n q f S M) {x : Int32} (hx : x.toInt < 0 ∨ 2 < x.toInt) : fb_C l D n ad cI cZ cS cA my_FB_size mb_FB_size 2 (some .int) 0 0 M [.ref (ad (0, 0)), .int (x)] (some (.int (-1))) (fun M' => M' = M) := by
  have h := hI.2
  have I := hI.1
  have h60 := I.1
  refine xw_start [.ref (ad (0, 0)), .int (x)] (by decide) (Nat.le_of_ble_eq_true rfl) ?_
  intro p e st m below meth cd0 ls Z hml hr hlk hN hl hw
  have hl : lv_has ls 2 [(0, .ref (ad (0, 0))), (1, .int (x))] := hl
  refine lv_iload_n Z.1 Z.2.1 md_FB_size_0 rfl (lv_at hl 1 rfl) ?_
  refine lv_tableOut (tgt := 52) Z.1 Z.2.1 md_FB_size_1 hx (by decide) ?_
  refine lv_iconst (v := -1) Z.1 Z.2.1 md_FB_size_52 (by decide) ?_
  exact xw_iret Z hr hlk hw md_FB_size_53 rfl rfl
set_option maxHeartbeats 4000000 in
theorem k_drop (l : Launch) (D : va_G) {n : Nat} (ad : Nat × Nat → Nat) (cI cZ cS cA : ClassId) {M : fr_M} {q f : Nat} {S : pz_T} (hn : n ≤ 5) (hI : fr_I n q f S M) {j : Nat} (hj : j < S.1.length) : fb_C l D n ad cI cZ cS cA my_FB_drop mb_FB_drop 2 (some .boolean) 2 40 M [.ref (ad (0, 0)), .int (nI (j))] (some (.int (nI 1))) (fr_I n q f (pz_rm S j)) := by
  have h := hI.2
  have I := hI.1
  have h60 := I.1
  refine xw_start [.ref (ad (0, 0)), .int (nI (j))] (by decide) (Nat.le_of_ble_eq_true rfl) ?_
  intro p e st m below meth cd0 ls Z hml hr hlk hN hl hw
  have hl : lv_has ls 2 [(0, .ref (ad (0, 0))), (1, .int (nI (j)))] := hl
  refine lv_aload_n Z.1 Z.2.1 md_FB_drop_0 rfl (lv_at hl 0 rfl) ?_
  refine xb_get (v := .ref (ad (2, 0))) Z hw (fb_in0 n) (fb_e0 n ad cI cZ cS cA) rfl tb_iFB 1 (by decide) mk_FB_21 rfl rfl md_FB_drop_1 ?_
  refine lv_iload_n Z.1 Z.2.1 md_FB_drop_4 rfl (lv_at hl 1 rfl) ?_
  refine xw_cV (n := 1) (rest := []) Z hml hl.1 hN hw (k_has1 l D ad cI cZ cS cA (M := M) h.2.1 h60 hj) tb_g mc_Mail_has mk_FB_76 mi_Mail_has ms_Mail_has mz_Mail ⟨by decide, by decide, by decide +kernel⟩ ⟨Nat.le_of_ble_eq_true rfl, Nat.le_of_ble_eq_true rfl⟩ (fb_in2 n) (fb_e2 n ad cI cZ cS cA _) rfl rfl rfl rfl (Nat.le_of_ble_eq_true rfl) ⟨Nat.le_refl _, Nat.le_refl _⟩ md_FB_drop_5 (fun M1 H1 locs1 e1 hw => ?_)
  have ey1 := e1.symm
  subst ey1
  refine W.eq (g2 := F0 m 8 ls [.int (nI (1))]) rfl ?_
  refine xi_if_ne (tgt := 13) Z md_FB_drop_8 (by decide) (by omega) (fun h8 => ?_) (fun h8 => by exfalso; omega)
  refine lv_aload_n Z.1 Z.2.1 md_FB_drop_13 rfl (lv_at hl 0 rfl) ?_
  refine xb_get (v := .ref (ad (2, 0))) Z hw (fb_in0 n) (fb_e0 n ad cI cZ cS cA) rfl tb_iFB 1 (by decide) mk_FB_21 rfl rfl md_FB_drop_14 ?_
  refine lv_iload_n Z.1 Z.2.1 md_FB_drop_17 rfl (lv_at hl 1 rfl) ?_
  refine xw_cV (n := 1) (rest := []) Z hml hl.1 hN hw (k_remove l D ad cI cZ cS cA h h60 hj) tb_g mc_Mail_remove mk_FB_125 mi_Mail_remove ms_Mail_remove mz_Mail ⟨by decide, by decide, by decide +kernel⟩ ⟨Nat.le_of_ble_eq_true rfl, Nat.le_of_ble_eq_true rfl⟩ (fb_in2 n) (fb_e2 n ad cI cZ cS cA _) rfl rfl rfl rfl (Nat.le_of_ble_eq_true rfl) ⟨Nat.le_refl _, Nat.le_refl _⟩ md_FB_drop_18 (fun M2 H2 locs2 hp hw => ?_)
  refine W.eq (g2 := F0 m 21 ls []) rfl ?_
  refine lv_iconst (v := nI 1) Z.1 Z.2.1 md_FB_drop_21 (by decide) ?_
  exact xw_zret Z hr hlk hw md_FB_drop_22 rfl rfl ⟨pz_rm_Inv I, hp.1⟩
set_option maxHeartbeats 4000000 in
theorem k_drop_b (l : Launch) (D : va_G) {n : Nat} (ad : Nat × Nat → Nat) (cI cZ cS cA : ClassId) {M : fr_M} {q f : Nat} {S : pz_T} (hn : n ≤ 5) (hI : fr_I n q f S M) {x : Int32} (hx : x < 0 ∨ nI S.1.length ≤ x) : fb_C l D n ad cI cZ cS cA my_FB_drop mb_FB_drop 2 (some .boolean) 1 21 M [.ref (ad (0, 0)), .int (x)] (some (.int (nI 0))) (fun M' => M' = M) := by
  have h := hI.2
  have I := hI.1
  have h60 := I.1
  refine xw_start [.ref (ad (0, 0)), .int (x)] (by decide) (Nat.le_of_ble_eq_true rfl) ?_
  intro p e st m below meth cd0 ls Z hml hr hlk hN hl hw
  have hl : lv_has ls 2 [(0, .ref (ad (0, 0))), (1, .int (x))] := hl
  refine lv_aload_n Z.1 Z.2.1 md_FB_drop_0 rfl (lv_at hl 0 rfl) ?_
  refine xb_get (v := .ref (ad (2, 0))) Z hw (fb_in0 n) (fb_e0 n ad cI cZ cS cA) rfl tb_iFB 1 (by decide) mk_FB_21 rfl rfl md_FB_drop_1 ?_
  refine lv_iload_n Z.1 Z.2.1 md_FB_drop_4 rfl (lv_at hl 1 rfl) ?_
  refine xw_cV (n := 1) (rest := []) Z hml hl.1 hN hw (k_has0 l D ad cI cZ cS cA (M := M) h.2.1 hx) tb_g mc_Mail_has mk_FB_76 mi_Mail_has ms_Mail_has mz_Mail ⟨by decide, by decide, by decide +kernel⟩ ⟨Nat.le_of_ble_eq_true rfl, Nat.le_of_ble_eq_true rfl⟩ (fb_in2 n) (fb_e2 n ad cI cZ cS cA _) rfl rfl rfl rfl (Nat.le_of_ble_eq_true rfl) ⟨Nat.le_refl _, Nat.le_refl _⟩ md_FB_drop_5 (fun M1 H1 locs1 e1 hw => ?_)
  have ey1 := e1.symm
  subst ey1
  refine W.eq (g2 := F0 m 8 ls [.int (nI (0))]) rfl ?_
  refine xi_if_ne (tgt := 13) Z md_FB_drop_8 (by decide) (by omega) (fun h8 => by exfalso; omega) (fun h8 => ?_)
  refine lv_iconst (v := nI 0) Z.1 Z.2.1 md_FB_drop_11 (by decide) ?_
  exact xw_zret Z hr hlk hw md_FB_drop_12 rfl rfl rfl
set_option maxHeartbeats 4000000 in
theorem k_haltA1 (l : Launch) (D : va_G) {n : Nat} (ad : Nat × Nat → Nat) (cI cZ cS cA : ClassId) {M : fr_M} {q f : Nat} {S : pz_T} (hn : n ≤ 5) (hI : fr_I n q f S M) {w b : Nat} (hb : b ≤ 1) (hne : S.2 3 14 w 0 ≠ b) (hw_ : w < n) : fb_C l D n ad cI cZ cS cA my_FB_halt mb_FB_halt 3 (some .boolean) 1 21 M [.ref (ad (0, 0)), .int (nI (w)), .int (nI (b))] (some (.int (nI 1))) (fr_I n q f (pz_halt S w b)) := by
  have h := hI.2
  have I := hI.1
  have h60 := I.1
  refine xw_start [.ref (ad (0, 0)), .int (nI (w)), .int (nI (b))] (by decide) (Nat.le_of_ble_eq_true rfl) ?_
  intro p e st m below meth cd0 ls Z hml hr hlk hN hl hw
  have hl : lv_has ls 3 [(0, .ref (ad (0, 0))), (1, .int (nI (w))), (2, .int (nI (b)))] := hl
  refine lv_aload_n Z.1 Z.2.1 md_FB_halt_0 rfl (lv_at hl 0 rfl) ?_
  refine lv_iload_n Z.1 Z.2.1 md_FB_halt_1 rfl (lv_at hl 1 rfl) ?_
  refine xw_cV (n := 1) (rest := []) Z hml hl.1 hN hw (k_isAcceptor1 l D ad cI cZ cS cA (M := M) hn h.1 hw_) tb_g mc_FB_isAcceptor mk_FB_128 mi_FB_isAcceptor ms_FB_isAcceptor mz_FB ⟨by decide, by decide, by decide +kernel⟩ ⟨Nat.le_of_ble_eq_true rfl, Nat.le_of_ble_eq_true rfl⟩ (fb_in0 n) (fb_e0 n ad cI cZ cS cA _) rfl rfl rfl rfl (Nat.le_of_ble_eq_true rfl) ⟨Nat.le_refl _, Nat.le_refl _⟩ md_FB_halt_2 (fun M1 H1 locs1 e1 hw => ?_)
  have ey1 := e1.symm
  subst ey1
  refine W.eq (g2 := F0 m 5 ls [.int (nI (1))]) rfl ?_
  refine xi_if_ne (tgt := 23) Z md_FB_halt_5 (by decide) (by omega) (fun h5 => ?_) (fun h5 => by exfalso; omega)
  refine lv_aload_n Z.1 Z.2.1 md_FB_halt_23 rfl (lv_at hl 0 rfl) ?_
  refine xb_get (v := .ref (ad (4, 0))) Z hw (fb_in0 n) (fb_e0 n ad cI cZ cS cA) rfl tb_iFB 3 (by decide) mk_FB_25 rfl rfl md_FB_halt_24 ?_
  refine lv_iload_n Z.1 Z.2.1 md_FB_halt_27 rfl (lv_at hl 1 rfl) ?_
  refine xw_zald Z hw (fb_in4 n) (fb_e4 n ad cI cZ cS cA) 1 rfl (w) rfl (by omega) (by omega) md_FB_halt_28 ?_
  refine xi_re (show M (4, 0) (w) = nI (S.2 3 14 w 0) from h.2.2.1 w (by omega)) ?_
  refine lv_iload_n Z.1 Z.2.1 md_FB_halt_29 rfl (lv_at hl 2 rfl) ?_
  have l14 := I.2.2.2 w
  refine xi_icmp_ne (tgt := 35) Z md_FB_halt_30 (by decide) (by omega) (by omega) (fun h30 => ?_) (fun h30 => by exfalso; omega)
  refine lv_aload_n Z.1 Z.2.1 md_FB_halt_35 rfl (lv_at hl 0 rfl) ?_
  refine xb_get (v := .ref (ad (4, 0))) Z hw (fb_in0 n) (fb_e0 n ad cI cZ cS cA) rfl tb_iFB 3 (by decide) mk_FB_25 rfl rfl md_FB_halt_36 ?_
  refine lv_iload_n Z.1 Z.2.1 md_FB_halt_39 rfl (lv_at hl 1 rfl) ?_
  refine lv_iload_n Z.1 Z.2.1 md_FB_halt_40 rfl (lv_at hl 2 rfl) ?_
  refine xb_zast Z hw (fb_in4 n) (fb_e4 n ad cI cZ cS cA) 1 rfl (xi_zb hb) (w) rfl (by omega) (by omega) md_FB_halt_41 (fun M2 H2 locs2 e2 hw => ?_)
  refine lv_iconst (v := nI 1) Z.1 Z.2.1 md_FB_halt_42 (by decide) ?_
  refine xw_zret Z hr hlk hw md_FB_halt_43 rfl rfl ⟨pz_halt_Inv I hb, fr_fin2 (fr_halt h (fun k hk => by rw [e2, xw_mw_n hk]) (fun x hx => by rw [e2, xw_mw_s]; rfl)) (fun s' c' hs' _ => ?_)⟩
  show pz_w S.2 3 _ s' 9 c' 0 = _
  rw [pz_w_n (by omega)]
set_option maxHeartbeats 4000000 in
theorem k_haltA0 (l : Launch) (D : va_G) {n : Nat} (ad : Nat × Nat → Nat) (cI cZ cS cA : ClassId) {M : fr_M} {q f : Nat} {S : pz_T} (hn : n ≤ 5) (hI : fr_I n q f S M) {w b : Nat} (hb : b ≤ 1) (heq : S.2 3 14 w 0 = b) (hw_ : w < n) : fb_C l D n ad cI cZ cS cA my_FB_halt mb_FB_halt 3 (some .boolean) 1 21 M [.ref (ad (0, 0)), .int (nI (w)), .int (nI (b))] (some (.int (nI 0))) (fun M' => M' = M) := by
  have h := hI.2
  have I := hI.1
  have h60 := I.1
  refine xw_start [.ref (ad (0, 0)), .int (nI (w)), .int (nI (b))] (by decide) (Nat.le_of_ble_eq_true rfl) ?_
  intro p e st m below meth cd0 ls Z hml hr hlk hN hl hw
  have hl : lv_has ls 3 [(0, .ref (ad (0, 0))), (1, .int (nI (w))), (2, .int (nI (b)))] := hl
  refine lv_aload_n Z.1 Z.2.1 md_FB_halt_0 rfl (lv_at hl 0 rfl) ?_
  refine lv_iload_n Z.1 Z.2.1 md_FB_halt_1 rfl (lv_at hl 1 rfl) ?_
  refine xw_cV (n := 1) (rest := []) Z hml hl.1 hN hw (k_isAcceptor1 l D ad cI cZ cS cA (M := M) hn h.1 hw_) tb_g mc_FB_isAcceptor mk_FB_128 mi_FB_isAcceptor ms_FB_isAcceptor mz_FB ⟨by decide, by decide, by decide +kernel⟩ ⟨Nat.le_of_ble_eq_true rfl, Nat.le_of_ble_eq_true rfl⟩ (fb_in0 n) (fb_e0 n ad cI cZ cS cA _) rfl rfl rfl rfl (Nat.le_of_ble_eq_true rfl) ⟨Nat.le_refl _, Nat.le_refl _⟩ md_FB_halt_2 (fun M1 H1 locs1 e1 hw => ?_)
  have ey1 := e1.symm
  subst ey1
  refine W.eq (g2 := F0 m 5 ls [.int (nI (1))]) rfl ?_
  refine xi_if_ne (tgt := 23) Z md_FB_halt_5 (by decide) (by omega) (fun h5 => ?_) (fun h5 => by exfalso; omega)
  refine lv_aload_n Z.1 Z.2.1 md_FB_halt_23 rfl (lv_at hl 0 rfl) ?_
  refine xb_get (v := .ref (ad (4, 0))) Z hw (fb_in0 n) (fb_e0 n ad cI cZ cS cA) rfl tb_iFB 3 (by decide) mk_FB_25 rfl rfl md_FB_halt_24 ?_
  refine lv_iload_n Z.1 Z.2.1 md_FB_halt_27 rfl (lv_at hl 1 rfl) ?_
  refine xw_zald Z hw (fb_in4 n) (fb_e4 n ad cI cZ cS cA) 1 rfl (w) rfl (by omega) (by omega) md_FB_halt_28 ?_
  refine xi_re (show M (4, 0) (w) = nI (S.2 3 14 w 0) from h.2.2.1 w (by omega)) ?_
  refine lv_iload_n Z.1 Z.2.1 md_FB_halt_29 rfl (lv_at hl 2 rfl) ?_
  have l14 := I.2.2.2 w
  refine xi_icmp_ne (tgt := 35) Z md_FB_halt_30 (by decide) (by omega) (by omega) (fun h30 => by exfalso; omega) (fun h30 => ?_)
  refine lv_iconst (v := nI 0) Z.1 Z.2.1 md_FB_halt_33 (by decide) ?_
  exact xw_zret Z hr hlk hw md_FB_halt_34 rfl rfl rfl
set_option maxHeartbeats 4000000 in
theorem k_haltC1 (l : Launch) (D : va_G) {n : Nat} (ad : Nat × Nat → Nat) (cI cZ cS cA : ClassId) {M : fr_M} {q f : Nat} {S : pz_T} (hn : n ≤ 5) (hI : fr_I n q f S M) {w b : Nat} (hb : b ≤ 1) (hne : S.2 3 14 w 0 ≠ b) (hw_ : w = 8 ∨ w = 9) : fb_C l D n ad cI cZ cS cA my_FB_halt mb_FB_halt 3 (some .boolean) 1 21 M [.ref (ad (0, 0)), .int (nI (w)), .int (nI (b))] (some (.int (nI 1))) (fr_I n q f (pz_halt S w b)) := by
  have h := hI.2
  have I := hI.1
  have h60 := I.1
  refine xw_start [.ref (ad (0, 0)), .int (nI (w)), .int (nI (b))] (by decide) (Nat.le_of_ble_eq_true rfl) ?_
  intro p e st m below meth cd0 ls Z hml hr hlk hN hl hw
  have hl : lv_has ls 3 [(0, .ref (ad (0, 0))), (1, .int (nI (w))), (2, .int (nI (b)))] := hl
  refine lv_aload_n Z.1 Z.2.1 md_FB_halt_0 rfl (lv_at hl 0 rfl) ?_
  refine lv_iload_n Z.1 Z.2.1 md_FB_halt_1 rfl (lv_at hl 1 rfl) ?_
  refine xw_cV (n := 1) (rest := []) Z hml hl.1 hN hw (k_isAcceptor0 l D ad cI cZ cS cA (M := M) h.1 (Or.inr (nI_le (by omega) (by omega)))) tb_g mc_FB_isAcceptor mk_FB_128 mi_FB_isAcceptor ms_FB_isAcceptor mz_FB ⟨by decide, by decide, by decide +kernel⟩ ⟨Nat.le_of_ble_eq_true rfl, Nat.le_of_ble_eq_true rfl⟩ (fb_in0 n) (fb_e0 n ad cI cZ cS cA _) rfl rfl rfl rfl (Nat.le_of_ble_eq_true rfl) ⟨Nat.le_refl _, Nat.le_refl _⟩ md_FB_halt_2 (fun M1 H1 locs1 e1 hw => ?_)
  have ey1 := e1.symm
  subst ey1
  refine W.eq (g2 := F0 m 5 ls [.int (nI (0))]) rfl ?_
  refine xi_if_ne (tgt := 23) Z md_FB_halt_5 (by decide) (by omega) (fun h5 => by exfalso; omega) (fun h5 => ?_)
  refine lv_iload_n Z.1 Z.2.1 md_FB_halt_8 rfl (lv_at hl 1 rfl) ?_
  refine xw_cS (n := 1) (rest := []) Z hml hl.1 hN hw (k_isCoordinator1 l D ad cI cZ cS cA (M := M) hw_) tb_g mc_FB_isCoordinator mk_FB_112 mt_FB_isCoordinator mz_FB ⟨by decide, by decide, by decide +kernel⟩ ⟨Nat.le_of_ble_eq_true rfl, Nat.le_of_ble_eq_true rfl⟩ rfl rfl (Nat.le_of_ble_eq_true rfl) ⟨Nat.le_refl _, Nat.le_refl _⟩ md_FB_halt_9 (fun M2 H2 locs2 e2 hw => ?_)
  have ey2 := e2.symm
  subst ey2
  refine W.eq (g2 := F0 m 12 ls [.int (nI (1))]) rfl ?_
  refine xi_if_ne (tgt := 23) Z md_FB_halt_12 (by decide) (by omega) (fun h12 => ?_) (fun h12 => by exfalso; omega)
  refine lv_aload_n Z.1 Z.2.1 md_FB_halt_23 rfl (lv_at hl 0 rfl) ?_
  refine xb_get (v := .ref (ad (4, 0))) Z hw (fb_in0 n) (fb_e0 n ad cI cZ cS cA) rfl tb_iFB 3 (by decide) mk_FB_25 rfl rfl md_FB_halt_24 ?_
  refine lv_iload_n Z.1 Z.2.1 md_FB_halt_27 rfl (lv_at hl 1 rfl) ?_
  refine xw_zald Z hw (fb_in4 n) (fb_e4 n ad cI cZ cS cA) 1 rfl (w) rfl (by omega) (by omega) md_FB_halt_28 ?_
  refine xi_re (show M (4, 0) (w) = nI (S.2 3 14 w 0) from h.2.2.1 w (by omega)) ?_
  refine lv_iload_n Z.1 Z.2.1 md_FB_halt_29 rfl (lv_at hl 2 rfl) ?_
  have l14 := I.2.2.2 w
  refine xi_icmp_ne (tgt := 35) Z md_FB_halt_30 (by decide) (by omega) (by omega) (fun h30 => ?_) (fun h30 => by exfalso; omega)
  refine lv_aload_n Z.1 Z.2.1 md_FB_halt_35 rfl (lv_at hl 0 rfl) ?_
  refine xb_get (v := .ref (ad (4, 0))) Z hw (fb_in0 n) (fb_e0 n ad cI cZ cS cA) rfl tb_iFB 3 (by decide) mk_FB_25 rfl rfl md_FB_halt_36 ?_
  refine lv_iload_n Z.1 Z.2.1 md_FB_halt_39 rfl (lv_at hl 1 rfl) ?_
  refine lv_iload_n Z.1 Z.2.1 md_FB_halt_40 rfl (lv_at hl 2 rfl) ?_
  refine xb_zast Z hw (fb_in4 n) (fb_e4 n ad cI cZ cS cA) 1 rfl (xi_zb hb) (w) rfl (by omega) (by omega) md_FB_halt_41 (fun M3 H3 locs3 e3 hw => ?_)
  refine lv_iconst (v := nI 1) Z.1 Z.2.1 md_FB_halt_42 (by decide) ?_
  refine xw_zret Z hr hlk hw md_FB_halt_43 rfl rfl ⟨pz_halt_Inv I hb, fr_fin2 (fr_halt h (fun k hk => by rw [e3, xw_mw_n hk]) (fun x hx => by rw [e3, xw_mw_s]; rfl)) (fun s' c' hs' _ => ?_)⟩
  show pz_w S.2 3 _ s' 9 c' 0 = _
  rw [pz_w_n (by omega)]
set_option maxHeartbeats 4000000 in
theorem k_haltC0 (l : Launch) (D : va_G) {n : Nat} (ad : Nat × Nat → Nat) (cI cZ cS cA : ClassId) {M : fr_M} {q f : Nat} {S : pz_T} (hn : n ≤ 5) (hI : fr_I n q f S M) {w b : Nat} (hb : b ≤ 1) (heq : S.2 3 14 w 0 = b) (hw_ : w = 8 ∨ w = 9) : fb_C l D n ad cI cZ cS cA my_FB_halt mb_FB_halt 3 (some .boolean) 1 21 M [.ref (ad (0, 0)), .int (nI (w)), .int (nI (b))] (some (.int (nI 0))) (fun M' => M' = M) := by
  have h := hI.2
  have I := hI.1
  have h60 := I.1
  refine xw_start [.ref (ad (0, 0)), .int (nI (w)), .int (nI (b))] (by decide) (Nat.le_of_ble_eq_true rfl) ?_
  intro p e st m below meth cd0 ls Z hml hr hlk hN hl hw
  have hl : lv_has ls 3 [(0, .ref (ad (0, 0))), (1, .int (nI (w))), (2, .int (nI (b)))] := hl
  refine lv_aload_n Z.1 Z.2.1 md_FB_halt_0 rfl (lv_at hl 0 rfl) ?_
  refine lv_iload_n Z.1 Z.2.1 md_FB_halt_1 rfl (lv_at hl 1 rfl) ?_
  refine xw_cV (n := 1) (rest := []) Z hml hl.1 hN hw (k_isAcceptor0 l D ad cI cZ cS cA (M := M) h.1 (Or.inr (nI_le (by omega) (by omega)))) tb_g mc_FB_isAcceptor mk_FB_128 mi_FB_isAcceptor ms_FB_isAcceptor mz_FB ⟨by decide, by decide, by decide +kernel⟩ ⟨Nat.le_of_ble_eq_true rfl, Nat.le_of_ble_eq_true rfl⟩ (fb_in0 n) (fb_e0 n ad cI cZ cS cA _) rfl rfl rfl rfl (Nat.le_of_ble_eq_true rfl) ⟨Nat.le_refl _, Nat.le_refl _⟩ md_FB_halt_2 (fun M1 H1 locs1 e1 hw => ?_)
  have ey1 := e1.symm
  subst ey1
  refine W.eq (g2 := F0 m 5 ls [.int (nI (0))]) rfl ?_
  refine xi_if_ne (tgt := 23) Z md_FB_halt_5 (by decide) (by omega) (fun h5 => by exfalso; omega) (fun h5 => ?_)
  refine lv_iload_n Z.1 Z.2.1 md_FB_halt_8 rfl (lv_at hl 1 rfl) ?_
  refine xw_cS (n := 1) (rest := []) Z hml hl.1 hN hw (k_isCoordinator1 l D ad cI cZ cS cA (M := M) hw_) tb_g mc_FB_isCoordinator mk_FB_112 mt_FB_isCoordinator mz_FB ⟨by decide, by decide, by decide +kernel⟩ ⟨Nat.le_of_ble_eq_true rfl, Nat.le_of_ble_eq_true rfl⟩ rfl rfl (Nat.le_of_ble_eq_true rfl) ⟨Nat.le_refl _, Nat.le_refl _⟩ md_FB_halt_9 (fun M2 H2 locs2 e2 hw => ?_)
  have ey2 := e2.symm
  subst ey2
  refine W.eq (g2 := F0 m 12 ls [.int (nI (1))]) rfl ?_
  refine xi_if_ne (tgt := 23) Z md_FB_halt_12 (by decide) (by omega) (fun h12 => ?_) (fun h12 => by exfalso; omega)
  refine lv_aload_n Z.1 Z.2.1 md_FB_halt_23 rfl (lv_at hl 0 rfl) ?_
  refine xb_get (v := .ref (ad (4, 0))) Z hw (fb_in0 n) (fb_e0 n ad cI cZ cS cA) rfl tb_iFB 3 (by decide) mk_FB_25 rfl rfl md_FB_halt_24 ?_
  refine lv_iload_n Z.1 Z.2.1 md_FB_halt_27 rfl (lv_at hl 1 rfl) ?_
  refine xw_zald Z hw (fb_in4 n) (fb_e4 n ad cI cZ cS cA) 1 rfl (w) rfl (by omega) (by omega) md_FB_halt_28 ?_
  refine xi_re (show M (4, 0) (w) = nI (S.2 3 14 w 0) from h.2.2.1 w (by omega)) ?_
  refine lv_iload_n Z.1 Z.2.1 md_FB_halt_29 rfl (lv_at hl 2 rfl) ?_
  have l14 := I.2.2.2 w
  refine xi_icmp_ne (tgt := 35) Z md_FB_halt_30 (by decide) (by omega) (by omega) (fun h30 => by exfalso; omega) (fun h30 => ?_)
  refine lv_iconst (v := nI 0) Z.1 Z.2.1 md_FB_halt_33 (by decide) ?_
  exact xw_zret Z hr hlk hw md_FB_halt_34 rfl rfl rfl
set_option maxHeartbeats 4000000 in
theorem k_haltL1 (l : Launch) (D : va_G) {n : Nat} (ad : Nat × Nat → Nat) (cI cZ cS cA : ClassId) {M : fr_M} {q f : Nat} {S : pz_T} (hn : n ≤ 5) (hI : fr_I n q f S M) {w b : Nat} (hb : b ≤ 1) (hne : S.2 3 14 w 0 ≠ b) (hw_ : w = 10) : fb_C l D n ad cI cZ cS cA my_FB_halt mb_FB_halt 3 (some .boolean) 1 21 M [.ref (ad (0, 0)), .int (nI (w)), .int (nI (b))] (some (.int (nI 1))) (fr_I n q f (pz_halt S w b)) := by
  have h := hI.2
  have I := hI.1
  have h60 := I.1
  refine xw_start [.ref (ad (0, 0)), .int (nI (w)), .int (nI (b))] (by decide) (Nat.le_of_ble_eq_true rfl) ?_
  intro p e st m below meth cd0 ls Z hml hr hlk hN hl hw
  have hl : lv_has ls 3 [(0, .ref (ad (0, 0))), (1, .int (nI (w))), (2, .int (nI (b)))] := hl
  refine lv_aload_n Z.1 Z.2.1 md_FB_halt_0 rfl (lv_at hl 0 rfl) ?_
  refine lv_iload_n Z.1 Z.2.1 md_FB_halt_1 rfl (lv_at hl 1 rfl) ?_
  refine xw_cV (n := 1) (rest := []) Z hml hl.1 hN hw (k_isAcceptor0 l D ad cI cZ cS cA (M := M) h.1 (Or.inr (nI_le (by omega) (by omega)))) tb_g mc_FB_isAcceptor mk_FB_128 mi_FB_isAcceptor ms_FB_isAcceptor mz_FB ⟨by decide, by decide, by decide +kernel⟩ ⟨Nat.le_of_ble_eq_true rfl, Nat.le_of_ble_eq_true rfl⟩ (fb_in0 n) (fb_e0 n ad cI cZ cS cA _) rfl rfl rfl rfl (Nat.le_of_ble_eq_true rfl) ⟨Nat.le_refl _, Nat.le_refl _⟩ md_FB_halt_2 (fun M1 H1 locs1 e1 hw => ?_)
  have ey1 := e1.symm
  subst ey1
  refine W.eq (g2 := F0 m 5 ls [.int (nI (0))]) rfl ?_
  refine xi_if_ne (tgt := 23) Z md_FB_halt_5 (by decide) (by omega) (fun h5 => by exfalso; omega) (fun h5 => ?_)
  refine lv_iload_n Z.1 Z.2.1 md_FB_halt_8 rfl (lv_at hl 1 rfl) ?_
  refine xw_cS (n := 1) (rest := []) Z hml hl.1 hN hw (k_isCoordinator0 l D ad cI cZ cS cA (M := M) (fun y => by have := (nI_eq (by omega) (by decide)).mp y; omega) (fun y => by have := (nI_eq (by omega) (by decide)).mp y; omega)) tb_g mc_FB_isCoordinator mk_FB_112 mt_FB_isCoordinator mz_FB ⟨by decide, by decide, by decide +kernel⟩ ⟨Nat.le_of_ble_eq_true rfl, Nat.le_of_ble_eq_true rfl⟩ rfl rfl (Nat.le_of_ble_eq_true rfl) ⟨Nat.le_refl _, Nat.le_refl _⟩ md_FB_halt_9 (fun M2 H2 locs2 e2 hw => ?_)
  have ey2 := e2.symm
  subst ey2
  refine W.eq (g2 := F0 m 12 ls [.int (nI (0))]) rfl ?_
  refine xi_if_ne (tgt := 23) Z md_FB_halt_12 (by decide) (by omega) (fun h12 => by exfalso; omega) (fun h12 => ?_)
  refine lv_iload_n Z.1 Z.2.1 md_FB_halt_15 rfl (lv_at hl 1 rfl) ?_
  refine lv_bipush (v := nI 10) Z.1 Z.2.1 md_FB_halt_16 (by decide) ?_
  refine xi_icmp_eq (tgt := 23) Z md_FB_halt_18 (by decide) (by omega) (by omega) (fun h18 => ?_) (fun h18 => by exfalso; omega)
  refine lv_aload_n Z.1 Z.2.1 md_FB_halt_23 rfl (lv_at hl 0 rfl) ?_
  refine xb_get (v := .ref (ad (4, 0))) Z hw (fb_in0 n) (fb_e0 n ad cI cZ cS cA) rfl tb_iFB 3 (by decide) mk_FB_25 rfl rfl md_FB_halt_24 ?_
  refine lv_iload_n Z.1 Z.2.1 md_FB_halt_27 rfl (lv_at hl 1 rfl) ?_
  refine xw_zald Z hw (fb_in4 n) (fb_e4 n ad cI cZ cS cA) 1 rfl (w) rfl (by omega) (by omega) md_FB_halt_28 ?_
  refine xi_re (show M (4, 0) (w) = nI (S.2 3 14 w 0) from h.2.2.1 w (by omega)) ?_
  refine lv_iload_n Z.1 Z.2.1 md_FB_halt_29 rfl (lv_at hl 2 rfl) ?_
  have l14 := I.2.2.2 w
  refine xi_icmp_ne (tgt := 35) Z md_FB_halt_30 (by decide) (by omega) (by omega) (fun h30 => ?_) (fun h30 => by exfalso; omega)
  refine lv_aload_n Z.1 Z.2.1 md_FB_halt_35 rfl (lv_at hl 0 rfl) ?_
  refine xb_get (v := .ref (ad (4, 0))) Z hw (fb_in0 n) (fb_e0 n ad cI cZ cS cA) rfl tb_iFB 3 (by decide) mk_FB_25 rfl rfl md_FB_halt_36 ?_
  refine lv_iload_n Z.1 Z.2.1 md_FB_halt_39 rfl (lv_at hl 1 rfl) ?_
  refine lv_iload_n Z.1 Z.2.1 md_FB_halt_40 rfl (lv_at hl 2 rfl) ?_
  refine xb_zast Z hw (fb_in4 n) (fb_e4 n ad cI cZ cS cA) 1 rfl (xi_zb hb) (w) rfl (by omega) (by omega) md_FB_halt_41 (fun M3 H3 locs3 e3 hw => ?_)
  refine lv_iconst (v := nI 1) Z.1 Z.2.1 md_FB_halt_42 (by decide) ?_
  refine xw_zret Z hr hlk hw md_FB_halt_43 rfl rfl ⟨pz_halt_Inv I hb, fr_fin2 (fr_halt h (fun k hk => by rw [e3, xw_mw_n hk]) (fun x hx => by rw [e3, xw_mw_s]; rfl)) (fun s' c' hs' _ => ?_)⟩
  show pz_w S.2 3 _ s' 9 c' 0 = _
  rw [pz_w_n (by omega)]
set_option maxHeartbeats 4000000 in
theorem k_haltL0 (l : Launch) (D : va_G) {n : Nat} (ad : Nat × Nat → Nat) (cI cZ cS cA : ClassId) {M : fr_M} {q f : Nat} {S : pz_T} (hn : n ≤ 5) (hI : fr_I n q f S M) {w b : Nat} (hb : b ≤ 1) (heq : S.2 3 14 w 0 = b) (hw_ : w = 10) : fb_C l D n ad cI cZ cS cA my_FB_halt mb_FB_halt 3 (some .boolean) 1 21 M [.ref (ad (0, 0)), .int (nI (w)), .int (nI (b))] (some (.int (nI 0))) (fun M' => M' = M) := by
  have h := hI.2
  have I := hI.1
  have h60 := I.1
  refine xw_start [.ref (ad (0, 0)), .int (nI (w)), .int (nI (b))] (by decide) (Nat.le_of_ble_eq_true rfl) ?_
  intro p e st m below meth cd0 ls Z hml hr hlk hN hl hw
  have hl : lv_has ls 3 [(0, .ref (ad (0, 0))), (1, .int (nI (w))), (2, .int (nI (b)))] := hl
  refine lv_aload_n Z.1 Z.2.1 md_FB_halt_0 rfl (lv_at hl 0 rfl) ?_
  refine lv_iload_n Z.1 Z.2.1 md_FB_halt_1 rfl (lv_at hl 1 rfl) ?_
  refine xw_cV (n := 1) (rest := []) Z hml hl.1 hN hw (k_isAcceptor0 l D ad cI cZ cS cA (M := M) h.1 (Or.inr (nI_le (by omega) (by omega)))) tb_g mc_FB_isAcceptor mk_FB_128 mi_FB_isAcceptor ms_FB_isAcceptor mz_FB ⟨by decide, by decide, by decide +kernel⟩ ⟨Nat.le_of_ble_eq_true rfl, Nat.le_of_ble_eq_true rfl⟩ (fb_in0 n) (fb_e0 n ad cI cZ cS cA _) rfl rfl rfl rfl (Nat.le_of_ble_eq_true rfl) ⟨Nat.le_refl _, Nat.le_refl _⟩ md_FB_halt_2 (fun M1 H1 locs1 e1 hw => ?_)
  have ey1 := e1.symm
  subst ey1
  refine W.eq (g2 := F0 m 5 ls [.int (nI (0))]) rfl ?_
  refine xi_if_ne (tgt := 23) Z md_FB_halt_5 (by decide) (by omega) (fun h5 => by exfalso; omega) (fun h5 => ?_)
  refine lv_iload_n Z.1 Z.2.1 md_FB_halt_8 rfl (lv_at hl 1 rfl) ?_
  refine xw_cS (n := 1) (rest := []) Z hml hl.1 hN hw (k_isCoordinator0 l D ad cI cZ cS cA (M := M) (fun y => by have := (nI_eq (by omega) (by decide)).mp y; omega) (fun y => by have := (nI_eq (by omega) (by decide)).mp y; omega)) tb_g mc_FB_isCoordinator mk_FB_112 mt_FB_isCoordinator mz_FB ⟨by decide, by decide, by decide +kernel⟩ ⟨Nat.le_of_ble_eq_true rfl, Nat.le_of_ble_eq_true rfl⟩ rfl rfl (Nat.le_of_ble_eq_true rfl) ⟨Nat.le_refl _, Nat.le_refl _⟩ md_FB_halt_9 (fun M2 H2 locs2 e2 hw => ?_)
  have ey2 := e2.symm
  subst ey2
  refine W.eq (g2 := F0 m 12 ls [.int (nI (0))]) rfl ?_
  refine xi_if_ne (tgt := 23) Z md_FB_halt_12 (by decide) (by omega) (fun h12 => by exfalso; omega) (fun h12 => ?_)
  refine lv_iload_n Z.1 Z.2.1 md_FB_halt_15 rfl (lv_at hl 1 rfl) ?_
  refine lv_bipush (v := nI 10) Z.1 Z.2.1 md_FB_halt_16 (by decide) ?_
  refine xi_icmp_eq (tgt := 23) Z md_FB_halt_18 (by decide) (by omega) (by omega) (fun h18 => ?_) (fun h18 => by exfalso; omega)
  refine lv_aload_n Z.1 Z.2.1 md_FB_halt_23 rfl (lv_at hl 0 rfl) ?_
  refine xb_get (v := .ref (ad (4, 0))) Z hw (fb_in0 n) (fb_e0 n ad cI cZ cS cA) rfl tb_iFB 3 (by decide) mk_FB_25 rfl rfl md_FB_halt_24 ?_
  refine lv_iload_n Z.1 Z.2.1 md_FB_halt_27 rfl (lv_at hl 1 rfl) ?_
  refine xw_zald Z hw (fb_in4 n) (fb_e4 n ad cI cZ cS cA) 1 rfl (w) rfl (by omega) (by omega) md_FB_halt_28 ?_
  refine xi_re (show M (4, 0) (w) = nI (S.2 3 14 w 0) from h.2.2.1 w (by omega)) ?_
  refine lv_iload_n Z.1 Z.2.1 md_FB_halt_29 rfl (lv_at hl 2 rfl) ?_
  have l14 := I.2.2.2 w
  refine xi_icmp_ne (tgt := 35) Z md_FB_halt_30 (by decide) (by omega) (by omega) (fun h30 => by exfalso; omega) (fun h30 => ?_)
  refine lv_iconst (v := nI 0) Z.1 Z.2.1 md_FB_halt_33 (by decide) ?_
  exact xw_zret Z hr hlk hw md_FB_halt_34 rfl rfl rfl
set_option maxHeartbeats 4000000 in
theorem k_halt_b (l : Launch) (D : va_G) {n : Nat} (ad : Nat × Nat → Nat) (cI cZ cS cA : ClassId) {M : fr_M} {q f : Nat} {S : pz_T} (hn : n ≤ 5) (hI : fr_I n q f S M) {x y : Int32} (hx : x < 0 ∨ nI n ≤ x) (hx8 : ¬ x = nI 8) (hx9 : ¬ x = nI 9) (hx10 : ¬ x = nI 10) : fb_C l D n ad cI cZ cS cA my_FB_halt mb_FB_halt 3 (some .boolean) 1 21 M [.ref (ad (0, 0)), .int (x), .int (y)] (some (.int (nI 0))) (fun M' => M' = M) := by
  have h := hI.2
  have I := hI.1
  have h60 := I.1
  refine xw_start [.ref (ad (0, 0)), .int (x), .int (y)] (by decide) (Nat.le_of_ble_eq_true rfl) ?_
  intro p e st m below meth cd0 ls Z hml hr hlk hN hl hw
  have hl : lv_has ls 3 [(0, .ref (ad (0, 0))), (1, .int (x)), (2, .int (y))] := hl
  refine lv_aload_n Z.1 Z.2.1 md_FB_halt_0 rfl (lv_at hl 0 rfl) ?_
  refine lv_iload_n Z.1 Z.2.1 md_FB_halt_1 rfl (lv_at hl 1 rfl) ?_
  refine xw_cV (n := 1) (rest := []) Z hml hl.1 hN hw (k_isAcceptor0 l D ad cI cZ cS cA (M := M) h.1 hx) tb_g mc_FB_isAcceptor mk_FB_128 mi_FB_isAcceptor ms_FB_isAcceptor mz_FB ⟨by decide, by decide, by decide +kernel⟩ ⟨Nat.le_of_ble_eq_true rfl, Nat.le_of_ble_eq_true rfl⟩ (fb_in0 n) (fb_e0 n ad cI cZ cS cA _) rfl rfl rfl rfl (Nat.le_of_ble_eq_true rfl) ⟨Nat.le_refl _, Nat.le_refl _⟩ md_FB_halt_2 (fun M1 H1 locs1 e1 hw => ?_)
  have ey1 := e1.symm
  subst ey1
  refine W.eq (g2 := F0 m 5 ls [.int (nI (0))]) rfl ?_
  refine xi_if_ne (tgt := 23) Z md_FB_halt_5 (by decide) (by omega) (fun h5 => by exfalso; omega) (fun h5 => ?_)
  refine lv_iload_n Z.1 Z.2.1 md_FB_halt_8 rfl (lv_at hl 1 rfl) ?_
  refine xw_cS (n := 1) (rest := []) Z hml hl.1 hN hw (k_isCoordinator0 l D ad cI cZ cS cA (M := M) hx8 hx9) tb_g mc_FB_isCoordinator mk_FB_112 mt_FB_isCoordinator mz_FB ⟨by decide, by decide, by decide +kernel⟩ ⟨Nat.le_of_ble_eq_true rfl, Nat.le_of_ble_eq_true rfl⟩ rfl rfl (Nat.le_of_ble_eq_true rfl) ⟨Nat.le_refl _, Nat.le_refl _⟩ md_FB_halt_9 (fun M2 H2 locs2 e2 hw => ?_)
  have ey2 := e2.symm
  subst ey2
  refine W.eq (g2 := F0 m 12 ls [.int (nI (0))]) rfl ?_
  refine xi_if_ne (tgt := 23) Z md_FB_halt_12 (by decide) (by omega) (fun h12 => by exfalso; omega) (fun h12 => ?_)
  refine lv_iload_n Z.1 Z.2.1 md_FB_halt_15 rfl (lv_at hl 1 rfl) ?_
  refine lv_bipush (v := nI 10) Z.1 Z.2.1 md_FB_halt_16 (by decide) ?_
  refine lv_icmp_eq (tgt := 23) Z.1 Z.2.1 md_FB_halt_18 (by decide) (fun h18 => by exfalso; exact hx10 h18) (fun h18 => ?_)
  refine lv_iconst (v := nI 0) Z.1 Z.2.1 md_FB_halt_21 (by decide) ?_
  exact xw_zret Z hr hlk hw md_FB_halt_22 rfl rfl rfl
set_option maxHeartbeats 4000000 in
theorem k_deliver_h (l : Launch) (D : va_G) {n : Nat} (ad : Nat × Nat → Nat) (cI cZ cS cA : ClassId) {M : fr_M} {q f : Nat} {S : pz_T} (hn : n ≤ 5) (hq5 : q ≤ 5) (hf5 : f ≤ 5) (Q : pz_Q n q f) (hI : fr_I n q f S M) {j s : Nat} {g : pz_M} (hg : S.1[j]? = some g) (hs1 : g 1 = s) {t : Nat} (h4 : g 4 = t) (ht10 : t ≤ 10) (hh : S.2 3 14 t 0 ≠ 0) : fb_C l D n ad cI cZ cS cA my_FB_deliver mb_FB_deliver 4 (some .int) 6 135 M [.ref (ad (0, 0)), .int (nI (j))] (some (.int (nI (g 0)))) (fr_I n q f (pz_hear n q f (pz_rm S j) g)) := by
  have h := hI.2
  have I := hI.1
  have h60 := I.1
  have hj : j < S.1.length := (List.getElem?_eq_some_iff.mp hg).1
  obtain ⟨hs0, hms⟩ := I.2.2.1 g (List.mem_of_getElem? hg)
  have hs : s < 3 := by omega
  rw [hs1] at hms
  have IV := I.2.1 s hs
  have cl := pz_ci_lt (g 2)
  refine xw_start [.ref (ad (0, 0)), .int (nI (j))] (by decide) (Nat.le_of_ble_eq_true rfl) ?_
  intro p e st m below meth cd0 ls Z hml hr hlk hN hl hw
  have hl : lv_has ls 4 [(0, .ref (ad (0, 0))), (1, .int (nI (j)))] := hl
  refine lv_aload_n Z.1 Z.2.1 md_FB_deliver_0 rfl (lv_at hl 0 rfl) ?_
  refine xb_get (v := .ref (ad (2, 0))) Z hw (fb_in0 n) (fb_e0 n ad cI cZ cS cA) rfl tb_iFB 1 (by decide) mk_FB_21 rfl rfl md_FB_deliver_1 ?_
  refine lv_iload_n Z.1 Z.2.1 md_FB_deliver_4 rfl (lv_at hl 1 rfl) ?_
  refine xw_cV (n := 1) (rest := []) Z hml hl.1 hN hw (k_has1 l D ad cI cZ cS cA (M := M) h.2.1 h60 hj) tb_g mc_Mail_has mk_FB_76 mi_Mail_has ms_Mail_has mz_Mail ⟨by decide, by decide, by decide +kernel⟩ ⟨Nat.le_of_ble_eq_true rfl, Nat.le_of_ble_eq_true rfl⟩ (fb_in2 n) (fb_e2 n ad cI cZ cS cA _) rfl rfl rfl rfl (Nat.le_of_ble_eq_true rfl) ⟨Nat.le_refl _, Nat.le_refl _⟩ md_FB_deliver_5 (fun M1 H1 locs1 e1 hw => ?_)
  have ey1 := e1.symm
  subst ey1
  refine W.eq (g2 := F0 m 8 ls [.int (nI (1))]) rfl ?_
  refine xi_if_ne (tgt := 13) Z md_FB_deliver_8 (by decide) (by omega) (fun h8 => ?_) (fun h8 => by exfalso; omega)
  refine lv_aload_n Z.1 Z.2.1 md_FB_deliver_13 rfl (lv_at hl 0 rfl) ?_
  refine xb_get (v := .ref (ad (2, 0))) Z hw (fb_in0 n) (fb_e0 n ad cI cZ cS cA) rfl tb_iFB 1 (by decide) mk_FB_21 rfl rfl md_FB_deliver_14 ?_
  refine lv_iload_n Z.1 Z.2.1 md_FB_deliver_17 rfl (lv_at hl 1 rfl) ?_
  refine xw_cV (n := 1) (rest := []) Z hml hl.1 hN hw (k_take l D ad cI cZ cS cA h h60 hg) tb_g mc_Mail_take mk_FB_79 mi_Mail_take ms_Mail_take mz_Mail ⟨by decide, by decide, by decide +kernel⟩ ⟨Nat.le_of_ble_eq_true rfl, Nat.le_of_ble_eq_true rfl⟩ (fb_in2 n) (fb_e2 n ad cI cZ cS cA _) rfl rfl rfl rfl (Nat.le_of_ble_eq_true rfl) ⟨Nat.le_refl _, Nat.le_refl _⟩ md_FB_deliver_18 (fun M2 H2 locs2 ht hw => ?_)
  refine W.eq (g2 := F0 m 21 ls [.ref (ad (6, 0))]) rfl ?_
  refine lv_astore_n Z.1 Z.2.1 md_FB_deliver_21 rfl hl (by decide) rfl (fun ls hl => ?_)
  have hl : lv_has ls 4 [(2, .ref (ad (6, 0))), (0, .ref (ad (0, 0))), (1, .int (nI (j)))] := hl
  refine lv_aload_n Z.1 Z.2.1 md_FB_deliver_22 rfl (lv_at hl 1 rfl) ?_
  refine xb_get (v := .ref (ad (3, 0))) Z hw (fb_in0 n) (fb_e0 n ad cI cZ cS cA) rfl tb_iFB 2 (by decide) mk_FB_31 rfl rfl md_FB_deliver_23 ?_
  refine lv_aload_n Z.1 Z.2.1 md_FB_deliver_26 rfl (lv_at hl 0 rfl) ?_
  refine xb_get (v := .int (M2 (6, 0) 1)) Z hw (fb_in6 n) (fb_e6 n ad cI cZ cS cA) rfl tb_iMsg 1 (by decide) mk_FB_83 rfl rfl md_FB_deliver_27 ?_
  refine xi_re (show M2 (6, 0) 1 = nI (s) from (by rw [ht.2.2.1]; exact congrArg nI hs1)) ?_
  refine xw_aald (a := ad (7, s)) Z hw (fb_in3 n) (fb_e3 n ad cI cZ cS cA (M2 (3, 0))) 2 rfl (s) rfl hs (by omega) rfl md_FB_deliver_30 ?_
  refine lv_astore_n Z.1 Z.2.1 md_FB_deliver_31 rfl hl (by decide) rfl (fun ls hl => ?_)
  have hl : lv_has ls 4 [(3, .ref (ad (7, s))), (2, .ref (ad (6, 0))), (0, .ref (ad (0, 0))), (1, .int (nI (j)))] := hl
  refine lv_aload_n Z.1 Z.2.1 md_FB_deliver_32 rfl (lv_at hl 2 rfl) ?_
  refine xb_get (v := .ref (ad (4, 0))) Z hw (fb_in0 n) (fb_e0 n ad cI cZ cS cA) rfl tb_iFB 3 (by decide) mk_FB_25 rfl rfl md_FB_deliver_33 ?_
  refine lv_aload_n Z.1 Z.2.1 md_FB_deliver_36 rfl (lv_at hl 1 rfl) ?_
  refine xb_get (v := .int (M2 (6, 0) 4)) Z hw (fb_in6 n) (fb_e6 n ad cI cZ cS cA) rfl tb_iMsg 4 (by decide) mk_FB_88 rfl rfl md_FB_deliver_37 ?_
  refine xi_re (show M2 (6, 0) 4 = nI (t) from (by rw [ht.2.2.2.2.2.1]; exact congrArg nI h4)) ?_
  refine xw_zald Z hw (fb_in4 n) (fb_e4 n ad cI cZ cS cA) 1 rfl (t) rfl (by omega) (by omega) md_FB_deliver_40 ?_
  refine xi_re (show M2 (4, 0) (t) = nI (S.2 3 14 (t) 0) from ht.1.2.2.1 (t) (by omega)) ?_
  have l14 := I.2.2.2 t
  refine xi_if_eq (tgt := 49) Z md_FB_deliver_41 (by decide) (by omega) (fun h41 => by exfalso; omega) (fun h41 => ?_)
  refine lv_aload_n Z.1 Z.2.1 md_FB_deliver_44 rfl (lv_at hl 1 rfl) ?_
  refine xb_get (v := .int (M2 (6, 0) 0)) Z hw (fb_in6 n) (fb_e6 n ad cI cZ cS cA) rfl tb_iMsg 0 (by decide) mk_FB_91 rfl rfl md_FB_deliver_45 ?_
  refine xi_re (show M2 (6, 0) 0 = nI (g 0) from ht.2.1) ?_
  refine xw_iret Z hr hlk hw md_FB_deliver_48 rfl ⟨pz_deliver_Inv Q I hg, ?_⟩
  unfold pz_hear
  rw [h4, if_pos (show (pz_rm S j).2 3 14 t 0 ≠ 0 from hh)]
  exact ht.1
set_option maxHeartbeats 4000000 in
theorem k_deliver_L (l : Launch) (D : va_G) {n : Nat} (ad : Nat × Nat → Nat) (cI cZ cS cA : ClassId) {M : fr_M} {q f : Nat} {S : pz_T} (hn : n ≤ 5) (hq5 : q ≤ 5) (hf5 : f ≤ 5) (Q : pz_Q n q f) (hI : fr_I n q f S M) {j s : Nat} {g : pz_M} (hg : S.1[j]? = some g) (hs1 : g 1 = s) (h4 : g 4 = 10) (hh : S.2 3 14 10 0 = 0) (hk : g 0 = 5) : fb_C l D n ad cI cZ cS cA my_FB_deliver mb_FB_deliver 4 (some .int) 6 135 M [.ref (ad (0, 0)), .int (nI (j))] (some (.int (nI (g 0)))) (fr_I n q f (pz_hear n q f (pz_rm S j) g)) := by
  have h := hI.2
  have I := hI.1
  have h60 := I.1
  have hj : j < S.1.length := (List.getElem?_eq_some_iff.mp hg).1
  obtain ⟨hs0, hms⟩ := I.2.2.1 g (List.mem_of_getElem? hg)
  have hs : s < 3 := by omega
  rw [hs1] at hms
  have IV := I.2.1 s hs
  have cl := pz_ci_lt (g 2)
  refine xw_start [.ref (ad (0, 0)), .int (nI (j))] (by decide) (Nat.le_of_ble_eq_true rfl) ?_
  intro p e st m below meth cd0 ls Z hml hr hlk hN hl hw
  have hl : lv_has ls 4 [(0, .ref (ad (0, 0))), (1, .int (nI (j)))] := hl
  refine lv_aload_n Z.1 Z.2.1 md_FB_deliver_0 rfl (lv_at hl 0 rfl) ?_
  refine xb_get (v := .ref (ad (2, 0))) Z hw (fb_in0 n) (fb_e0 n ad cI cZ cS cA) rfl tb_iFB 1 (by decide) mk_FB_21 rfl rfl md_FB_deliver_1 ?_
  refine lv_iload_n Z.1 Z.2.1 md_FB_deliver_4 rfl (lv_at hl 1 rfl) ?_
  refine xw_cV (n := 1) (rest := []) Z hml hl.1 hN hw (k_has1 l D ad cI cZ cS cA (M := M) h.2.1 h60 hj) tb_g mc_Mail_has mk_FB_76 mi_Mail_has ms_Mail_has mz_Mail ⟨by decide, by decide, by decide +kernel⟩ ⟨Nat.le_of_ble_eq_true rfl, Nat.le_of_ble_eq_true rfl⟩ (fb_in2 n) (fb_e2 n ad cI cZ cS cA _) rfl rfl rfl rfl (Nat.le_of_ble_eq_true rfl) ⟨Nat.le_refl _, Nat.le_refl _⟩ md_FB_deliver_5 (fun M1 H1 locs1 e1 hw => ?_)
  have ey1 := e1.symm
  subst ey1
  refine W.eq (g2 := F0 m 8 ls [.int (nI (1))]) rfl ?_
  refine xi_if_ne (tgt := 13) Z md_FB_deliver_8 (by decide) (by omega) (fun h8 => ?_) (fun h8 => by exfalso; omega)
  refine lv_aload_n Z.1 Z.2.1 md_FB_deliver_13 rfl (lv_at hl 0 rfl) ?_
  refine xb_get (v := .ref (ad (2, 0))) Z hw (fb_in0 n) (fb_e0 n ad cI cZ cS cA) rfl tb_iFB 1 (by decide) mk_FB_21 rfl rfl md_FB_deliver_14 ?_
  refine lv_iload_n Z.1 Z.2.1 md_FB_deliver_17 rfl (lv_at hl 1 rfl) ?_
  refine xw_cV (n := 1) (rest := []) Z hml hl.1 hN hw (k_take l D ad cI cZ cS cA h h60 hg) tb_g mc_Mail_take mk_FB_79 mi_Mail_take ms_Mail_take mz_Mail ⟨by decide, by decide, by decide +kernel⟩ ⟨Nat.le_of_ble_eq_true rfl, Nat.le_of_ble_eq_true rfl⟩ (fb_in2 n) (fb_e2 n ad cI cZ cS cA _) rfl rfl rfl rfl (Nat.le_of_ble_eq_true rfl) ⟨Nat.le_refl _, Nat.le_refl _⟩ md_FB_deliver_18 (fun M2 H2 locs2 ht hw => ?_)
  refine W.eq (g2 := F0 m 21 ls [.ref (ad (6, 0))]) rfl ?_
  refine lv_astore_n Z.1 Z.2.1 md_FB_deliver_21 rfl hl (by decide) rfl (fun ls hl => ?_)
  have hl : lv_has ls 4 [(2, .ref (ad (6, 0))), (0, .ref (ad (0, 0))), (1, .int (nI (j)))] := hl
  refine lv_aload_n Z.1 Z.2.1 md_FB_deliver_22 rfl (lv_at hl 1 rfl) ?_
  refine xb_get (v := .ref (ad (3, 0))) Z hw (fb_in0 n) (fb_e0 n ad cI cZ cS cA) rfl tb_iFB 2 (by decide) mk_FB_31 rfl rfl md_FB_deliver_23 ?_
  refine lv_aload_n Z.1 Z.2.1 md_FB_deliver_26 rfl (lv_at hl 0 rfl) ?_
  refine xb_get (v := .int (M2 (6, 0) 1)) Z hw (fb_in6 n) (fb_e6 n ad cI cZ cS cA) rfl tb_iMsg 1 (by decide) mk_FB_83 rfl rfl md_FB_deliver_27 ?_
  refine xi_re (show M2 (6, 0) 1 = nI (s) from (by rw [ht.2.2.1]; exact congrArg nI hs1)) ?_
  refine xw_aald (a := ad (7, s)) Z hw (fb_in3 n) (fb_e3 n ad cI cZ cS cA (M2 (3, 0))) 2 rfl (s) rfl hs (by omega) rfl md_FB_deliver_30 ?_
  refine lv_astore_n Z.1 Z.2.1 md_FB_deliver_31 rfl hl (by decide) rfl (fun ls hl => ?_)
  have hl : lv_has ls 4 [(3, .ref (ad (7, s))), (2, .ref (ad (6, 0))), (0, .ref (ad (0, 0))), (1, .int (nI (j)))] := hl
  refine lv_aload_n Z.1 Z.2.1 md_FB_deliver_32 rfl (lv_at hl 2 rfl) ?_
  refine xb_get (v := .ref (ad (4, 0))) Z hw (fb_in0 n) (fb_e0 n ad cI cZ cS cA) rfl tb_iFB 3 (by decide) mk_FB_25 rfl rfl md_FB_deliver_33 ?_
  refine lv_aload_n Z.1 Z.2.1 md_FB_deliver_36 rfl (lv_at hl 1 rfl) ?_
  refine xb_get (v := .int (M2 (6, 0) 4)) Z hw (fb_in6 n) (fb_e6 n ad cI cZ cS cA) rfl tb_iMsg 4 (by decide) mk_FB_88 rfl rfl md_FB_deliver_37 ?_
  refine xi_re (show M2 (6, 0) 4 = nI (10) from (by rw [ht.2.2.2.2.2.1]; exact congrArg nI h4)) ?_
  refine xw_zald Z hw (fb_in4 n) (fb_e4 n ad cI cZ cS cA) 1 rfl (10) rfl (by omega) (by omega) md_FB_deliver_40 ?_
  refine xi_re (show M2 (4, 0) (10) = nI (S.2 3 14 (10) 0) from ht.1.2.2.1 (10) (by omega)) ?_
  have l14 := I.2.2.2 (10)
  refine xi_if_eq (tgt := 49) Z md_FB_deliver_41 (by decide) (by omega) (fun h41 => ?_) (fun h41 => by exfalso; omega)
  refine lv_aload_n Z.1 Z.2.1 md_FB_deliver_49 rfl (lv_at hl 1 rfl) ?_
  refine xb_get (v := .int (M2 (6, 0) 4)) Z hw (fb_in6 n) (fb_e6 n ad cI cZ cS cA) rfl tb_iMsg 4 (by decide) mk_FB_88 rfl rfl md_FB_deliver_50 ?_
  refine xi_re (show M2 (6, 0) 4 = nI (10) from (by rw [ht.2.2.2.2.2.1]; exact congrArg nI h4)) ?_
  refine lv_bipush (v := nI 10) Z.1 Z.2.1 md_FB_deliver_53 (by decide) ?_
  refine xi_icmp_ne (tgt := 80) Z md_FB_deliver_55 (by decide) (by omega) (by omega) (fun h55 => by exfalso; exact h55 rfl) (fun h55 => ?_)
  refine lv_aload_n Z.1 Z.2.1 md_FB_deliver_58 rfl (lv_at hl 0 rfl) ?_
  refine xb_get (v := .ref (ad (13, 2 * s + 1))) Z hw (fb_in7 n hs) (fb_e7 n ad cI cZ cS cA (s)) rfl tb_iSlt 4 (by decide) mk_FB_94 rfl rfl md_FB_deliver_59 ?_
  refine lv_aload_n Z.1 Z.2.1 md_FB_deliver_62 rfl (lv_at hl 1 rfl) ?_
  refine xb_get (v := .int (M2 (6, 0) 2)) Z hw (fb_in6 n) (fb_e6 n ad cI cZ cS cA) rfl tb_iMsg 2 (by decide) mk_FB_98 rfl rfl md_FB_deliver_63 ?_
  refine xi_re (show M2 (6, 0) 2 = nI (g 2) from ht.2.2.2.1) ?_
  refine lv_aload_n Z.1 Z.2.1 md_FB_deliver_66 rfl (lv_at hl 1 rfl) ?_
  refine xb_get (v := .int (M2 (6, 0) 3)) Z hw (fb_in6 n) (fb_e6 n ad cI cZ cS cA) rfl tb_iMsg 3 (by decide) mk_FB_101 rfl rfl md_FB_deliver_67 ?_
  refine xi_re (show M2 (6, 0) 3 = nI (g 3) from ht.2.2.2.2.1 (by omega)) ?_
  refine lv_aload_n Z.1 Z.2.1 md_FB_deliver_70 rfl (lv_at hl 1 rfl) ?_
  refine xb_get (v := .int (M2 (6, 0) 5)) Z hw (fb_in6 n) (fb_e6 n ad cI cZ cS cA) rfl tb_iMsg 5 (by decide) mk_FB_104 rfl rfl md_FB_deliver_71 ?_
  refine xi_re (show M2 (6, 0) 5 = nI (g 5) from ht.2.2.2.2.2.2.1) ?_
  obtain ⟨m1, m2, m3, m4⟩ : 1 ≤ g 2 ∧ g 2 ≤ 12 ∧ g 3 < n ∧ g 5 ≤ 1000 := by
    rcases hms with ⟨a, _⟩ | ⟨a, _⟩ | ⟨a, _⟩ | ⟨a, _⟩ | ⟨_, a, b, d, _, z, _, _⟩
    · omega
    · omega
    · omega
    · omega
    · exact ⟨a, b, d, z⟩
  have iZ := IV.2.2.2.2.2.2.1
  refine xw_cV (n := 3) (rest := []) Z hml hl.1 hN hw (k_record1 (S := pz_rm S j) (r := g 2) (a := g 3) (v := g 5) l D ad cI cZ cS cA hn hq5 hf5 ht.1 hs m2 m3 (by omega) (fun b _ => by have z := iZ.2.1 (g 2) b; show S.2 s 6 (g 2) b < 2 ^ 31; omega) (by have z := iZ.2.2.1; show S.2 s 7 0 0 < 2 ^ 31; omega)) tb_g mc_Tal_record mk_FB_107 mi_Tal_record ms_Tal_record mz_Tal ⟨by decide, by decide, by decide +kernel⟩ ⟨Nat.le_of_ble_eq_true rfl, Nat.le_of_ble_eq_true rfl⟩ (fb_in13 n hs (by decide)) (fb_e13 n ad cI cZ cS cA (2 * s + 1) _) rfl rfl rfl rfl (Nat.le_of_ble_eq_true rfl) ⟨Nat.le_refl _, Nat.le_refl _⟩ md_FB_deliver_74 (fun M3 H3 locs3 h9 hw => ?_)
  refine W.eq (g2 := F0 m 77 ls []) rfl ?_
  refine lv_goto (tgt := 118) Z.1 Z.2.1 md_FB_deliver_77 (by decide) ?_
  refine lv_aload_n Z.1 Z.2.1 md_FB_deliver_118 rfl (lv_at hl 1 rfl) ?_
  refine xb_get (v := .int (M3 (6, 0) 0)) Z hw (fb_in6 n) (fb_e6 n ad cI cZ cS cA) rfl tb_iMsg 0 (by decide) mk_FB_91 rfl rfl md_FB_deliver_119 ?_
  refine xi_re (show M3 (6, 0) 0 = nI (g 0) from (by rw [h9.2]; exact ht.2.1)) ?_
  refine xw_iret Z hr hlk hw md_FB_deliver_122 rfl ⟨pz_deliver_Inv Q I hg, ?_⟩
  unfold pz_hear
  rw [h4, if_neg (fun y => y hh), if_neg (by decide), if_neg (by decide), hs1]
  exact fr_fin2 h9.1 (fun s' c' hs' _ => pz_pw_9 (fun d => by unfold pz_l2; rw [pz_u_k (by decide), pz_u_k (by decide)]))
set_option maxHeartbeats 4000000 in
theorem k_deliver_C1 (l : Launch) (D : va_G) {n : Nat} (ad : Nat × Nat → Nat) (cI cZ cS cA : ClassId) {M : fr_M} {q f : Nat} {S : pz_T} (hn : n ≤ 5) (hq5 : q ≤ 5) (hf5 : f ≤ 5) (Q : pz_Q n q f) (hI : fr_I n q f S M) {j s : Nat} {g : pz_M} (hg : S.1[j]? = some g) (hs1 : g 1 = s) {c : Nat} (hc : c < 2) (h4 : g 4 = 8 + c) (hh : S.2 3 14 (8 + c) 0 = 0) (hk : g 0 = 1) : fb_C l D n ad cI cZ cS cA my_FB_deliver mb_FB_deliver 4 (some .int) 6 135 M [.ref (ad (0, 0)), .int (nI (j))] (some (.int (nI (g 0)))) (fr_I n q f (pz_hear n q f (pz_rm S j) g)) := by
  have h := hI.2
  have I := hI.1
  have h60 := I.1
  have hj : j < S.1.length := (List.getElem?_eq_some_iff.mp hg).1
  obtain ⟨hs0, hms⟩ := I.2.2.1 g (List.mem_of_getElem? hg)
  have hs : s < 3 := by omega
  rw [hs1] at hms
  have IV := I.2.1 s hs
  have cl := pz_ci_lt (g 2)
  refine xw_start [.ref (ad (0, 0)), .int (nI (j))] (by decide) (Nat.le_of_ble_eq_true rfl) ?_
  intro p e st m below meth cd0 ls Z hml hr hlk hN hl hw
  have hl : lv_has ls 4 [(0, .ref (ad (0, 0))), (1, .int (nI (j)))] := hl
  refine lv_aload_n Z.1 Z.2.1 md_FB_deliver_0 rfl (lv_at hl 0 rfl) ?_
  refine xb_get (v := .ref (ad (2, 0))) Z hw (fb_in0 n) (fb_e0 n ad cI cZ cS cA) rfl tb_iFB 1 (by decide) mk_FB_21 rfl rfl md_FB_deliver_1 ?_
  refine lv_iload_n Z.1 Z.2.1 md_FB_deliver_4 rfl (lv_at hl 1 rfl) ?_
  refine xw_cV (n := 1) (rest := []) Z hml hl.1 hN hw (k_has1 l D ad cI cZ cS cA (M := M) h.2.1 h60 hj) tb_g mc_Mail_has mk_FB_76 mi_Mail_has ms_Mail_has mz_Mail ⟨by decide, by decide, by decide +kernel⟩ ⟨Nat.le_of_ble_eq_true rfl, Nat.le_of_ble_eq_true rfl⟩ (fb_in2 n) (fb_e2 n ad cI cZ cS cA _) rfl rfl rfl rfl (Nat.le_of_ble_eq_true rfl) ⟨Nat.le_refl _, Nat.le_refl _⟩ md_FB_deliver_5 (fun M1 H1 locs1 e1 hw => ?_)
  have ey1 := e1.symm
  subst ey1
  refine W.eq (g2 := F0 m 8 ls [.int (nI (1))]) rfl ?_
  refine xi_if_ne (tgt := 13) Z md_FB_deliver_8 (by decide) (by omega) (fun h8 => ?_) (fun h8 => by exfalso; omega)
  refine lv_aload_n Z.1 Z.2.1 md_FB_deliver_13 rfl (lv_at hl 0 rfl) ?_
  refine xb_get (v := .ref (ad (2, 0))) Z hw (fb_in0 n) (fb_e0 n ad cI cZ cS cA) rfl tb_iFB 1 (by decide) mk_FB_21 rfl rfl md_FB_deliver_14 ?_
  refine lv_iload_n Z.1 Z.2.1 md_FB_deliver_17 rfl (lv_at hl 1 rfl) ?_
  refine xw_cV (n := 1) (rest := []) Z hml hl.1 hN hw (k_take l D ad cI cZ cS cA h h60 hg) tb_g mc_Mail_take mk_FB_79 mi_Mail_take ms_Mail_take mz_Mail ⟨by decide, by decide, by decide +kernel⟩ ⟨Nat.le_of_ble_eq_true rfl, Nat.le_of_ble_eq_true rfl⟩ (fb_in2 n) (fb_e2 n ad cI cZ cS cA _) rfl rfl rfl rfl (Nat.le_of_ble_eq_true rfl) ⟨Nat.le_refl _, Nat.le_refl _⟩ md_FB_deliver_18 (fun M2 H2 locs2 ht hw => ?_)
  refine W.eq (g2 := F0 m 21 ls [.ref (ad (6, 0))]) rfl ?_
  refine lv_astore_n Z.1 Z.2.1 md_FB_deliver_21 rfl hl (by decide) rfl (fun ls hl => ?_)
  have hl : lv_has ls 4 [(2, .ref (ad (6, 0))), (0, .ref (ad (0, 0))), (1, .int (nI (j)))] := hl
  refine lv_aload_n Z.1 Z.2.1 md_FB_deliver_22 rfl (lv_at hl 1 rfl) ?_
  refine xb_get (v := .ref (ad (3, 0))) Z hw (fb_in0 n) (fb_e0 n ad cI cZ cS cA) rfl tb_iFB 2 (by decide) mk_FB_31 rfl rfl md_FB_deliver_23 ?_
  refine lv_aload_n Z.1 Z.2.1 md_FB_deliver_26 rfl (lv_at hl 0 rfl) ?_
  refine xb_get (v := .int (M2 (6, 0) 1)) Z hw (fb_in6 n) (fb_e6 n ad cI cZ cS cA) rfl tb_iMsg 1 (by decide) mk_FB_83 rfl rfl md_FB_deliver_27 ?_
  refine xi_re (show M2 (6, 0) 1 = nI (s) from (by rw [ht.2.2.1]; exact congrArg nI hs1)) ?_
  refine xw_aald (a := ad (7, s)) Z hw (fb_in3 n) (fb_e3 n ad cI cZ cS cA (M2 (3, 0))) 2 rfl (s) rfl hs (by omega) rfl md_FB_deliver_30 ?_
  refine lv_astore_n Z.1 Z.2.1 md_FB_deliver_31 rfl hl (by decide) rfl (fun ls hl => ?_)
  have hl : lv_has ls 4 [(3, .ref (ad (7, s))), (2, .ref (ad (6, 0))), (0, .ref (ad (0, 0))), (1, .int (nI (j)))] := hl
  refine lv_aload_n Z.1 Z.2.1 md_FB_deliver_32 rfl (lv_at hl 2 rfl) ?_
  refine xb_get (v := .ref (ad (4, 0))) Z hw (fb_in0 n) (fb_e0 n ad cI cZ cS cA) rfl tb_iFB 3 (by decide) mk_FB_25 rfl rfl md_FB_deliver_33 ?_
  refine lv_aload_n Z.1 Z.2.1 md_FB_deliver_36 rfl (lv_at hl 1 rfl) ?_
  refine xb_get (v := .int (M2 (6, 0) 4)) Z hw (fb_in6 n) (fb_e6 n ad cI cZ cS cA) rfl tb_iMsg 4 (by decide) mk_FB_88 rfl rfl md_FB_deliver_37 ?_
  refine xi_re (show M2 (6, 0) 4 = nI (8 + c) from (by rw [ht.2.2.2.2.2.1]; exact congrArg nI h4)) ?_
  refine xw_zald Z hw (fb_in4 n) (fb_e4 n ad cI cZ cS cA) 1 rfl (8 + c) rfl (by omega) (by omega) md_FB_deliver_40 ?_
  refine xi_re (show M2 (4, 0) (8 + c) = nI (S.2 3 14 (8 + c) 0) from ht.1.2.2.1 (8 + c) (by omega)) ?_
  have l14 := I.2.2.2 (8 + c)
  refine xi_if_eq (tgt := 49) Z md_FB_deliver_41 (by decide) (by omega) (fun h41 => ?_) (fun h41 => by exfalso; omega)
  refine lv_aload_n Z.1 Z.2.1 md_FB_deliver_49 rfl (lv_at hl 1 rfl) ?_
  refine xb_get (v := .int (M2 (6, 0) 4)) Z hw (fb_in6 n) (fb_e6 n ad cI cZ cS cA) rfl tb_iMsg 4 (by decide) mk_FB_88 rfl rfl md_FB_deliver_50 ?_
  refine xi_re (show M2 (6, 0) 4 = nI (8 + c) from (by rw [ht.2.2.2.2.2.1]; exact congrArg nI h4)) ?_
  refine lv_bipush (v := nI 10) Z.1 Z.2.1 md_FB_deliver_53 (by decide) ?_
  refine xi_icmp_ne (tgt := 80) Z md_FB_deliver_55 (by decide) (by omega) (by omega) (fun h55 => ?_) (fun h55 => by exfalso; omega)
  refine lv_aload_n Z.1 Z.2.1 md_FB_deliver_80 rfl (lv_at hl 1 rfl) ?_
  refine xb_get (v := .int (M2 (6, 0) 4)) Z hw (fb_in6 n) (fb_e6 n ad cI cZ cS cA) rfl tb_iMsg 4 (by decide) mk_FB_88 rfl rfl md_FB_deliver_81 ?_
  refine xi_re (show M2 (6, 0) 4 = nI (8 + c) from (by rw [ht.2.2.2.2.2.1]; exact congrArg nI h4)) ?_
  refine xw_cS (n := 1) (rest := []) Z hml hl.1 hN hw (k_isCoordinator1 l D ad cI cZ cS cA (M := M2) (show 8 + c = 8 ∨ 8 + c = 9 by omega)) tb_g mc_FB_isCoordinator mk_FB_112 mt_FB_isCoordinator mz_FB ⟨by decide, by decide, by decide +kernel⟩ ⟨Nat.le_of_ble_eq_true rfl, Nat.le_of_ble_eq_true rfl⟩ rfl rfl (Nat.le_of_ble_eq_true rfl) ⟨Nat.le_refl _, Nat.le_refl _⟩ md_FB_deliver_84 (fun M3 H3 locs3 e3 hw => ?_)
  have ey3 := e3.symm
  subst ey3
  refine W.eq (g2 := F0 m 87 ls [.int (nI (1))]) rfl ?_
  refine xi_if_eq (tgt := 105) Z md_FB_deliver_87 (by decide) (by omega) (fun h87 => by exfalso; omega) (fun h87 => ?_)
  refine lv_aload_n Z.1 Z.2.1 md_FB_deliver_90 rfl (lv_at hl 0 rfl) ?_
  refine lv_aload_n Z.1 Z.2.1 md_FB_deliver_91 rfl (lv_at hl 1 rfl) ?_
  refine xb_get (v := .int (M2 (6, 0) 4)) Z hw (fb_in6 n) (fb_e6 n ad cI cZ cS cA) rfl tb_iMsg 4 (by decide) mk_FB_88 rfl rfl md_FB_deliver_92 ?_
  refine xi_re (show M2 (6, 0) 4 = nI (8 + c) from (by rw [ht.2.2.2.2.2.1]; exact congrArg nI h4)) ?_
  refine xw_cV (n := 1) (rest := []) Z hml hl.1 hN hw (k_coordinator l D ad cI cZ cS cA (M := M2) hs hc) tb_g mc_Slt_coordinator mk_FB_63 mi_Slt_coordinator ms_Slt_coordinator mz_Slt ⟨by decide, by decide, by decide +kernel⟩ ⟨Nat.le_of_ble_eq_true rfl, Nat.le_of_ble_eq_true rfl⟩ (fb_in7 n hs) (fb_e7 n ad cI cZ cS cA (s) _) rfl rfl rfl rfl (Nat.le_of_ble_eq_true rfl) ⟨Nat.le_refl _, Nat.le_refl _⟩ md_FB_deliver_95 (fun M4 H4 locs4 e4 hw => ?_)
  have ey4 := e4.symm
  subst ey4
  refine W.eq (g2 := F0 m 98 ls [.ref (ad (9, 2 * s + c))]) rfl ?_
  refine lv_aload_n Z.1 Z.2.1 md_FB_deliver_98 rfl (lv_at hl 1 rfl) ?_
  refine xw_cV (n := 1) (rest := []) Z hml hl.1 hN hw (k_Chear1 (S := pz_rm S j) l D ad cI cZ cS cA hn hq5 hf5 ht.1 (show (pz_rm S j).1.length ≤ 60 from (pz_rm_Inv I).1) Q IV hs hc ht.2 hms hk (by rcases hms with ⟨_, _, _, _, z⟩ | ⟨a, _⟩ | ⟨a, _⟩ | ⟨a, _⟩ | ⟨a, _⟩ <;> omega)) tb_g mc_Cor_hear mk_FB_115 mi_Cor_hear ms_Cor_hear mz_Cor ⟨by decide, by decide, by decide +kernel⟩ ⟨Nat.le_of_ble_eq_true rfl, Nat.le_of_ble_eq_true rfl⟩ (fb_in9 n hs hc) (fb_e9 n ad cI cZ cS cA (2 * s + c) _) rfl rfl rfl rfl (Nat.le_of_ble_eq_true rfl) ⟨Nat.le_refl _, Nat.le_refl _⟩ md_FB_deliver_99 (fun M5 H5 locs5 h9 hw => ?_)
  refine W.eq (g2 := F0 m 102 ls []) rfl ?_
  refine lv_goto (tgt := 118) Z.1 Z.2.1 md_FB_deliver_102 (by decide) ?_
  refine lv_aload_n Z.1 Z.2.1 md_FB_deliver_118 rfl (lv_at hl 1 rfl) ?_
  refine xb_get (v := .int (M5 (6, 0) 0)) Z hw (fb_in6 n) (fb_e6 n ad cI cZ cS cA) rfl tb_iMsg 0 (by decide) mk_FB_91 rfl rfl md_FB_deliver_119 ?_
  refine xi_re (show M5 (6, 0) 0 = nI (g 0) from (by rw [h9.2]; exact ht.2.1)) ?_
  refine xw_iret Z hr hlk hw md_FB_deliver_122 rfl ⟨pz_deliver_Inv Q I hg, ?_⟩
  unfold pz_hear
  rw [h4, if_neg (fun y => y hh), if_neg (by omega), if_pos (by omega), hs1, Nat.add_sub_cancel_left]
  exact h9.1
set_option maxHeartbeats 4000000 in
theorem k_deliver_C3 (l : Launch) (D : va_G) {n : Nat} (ad : Nat × Nat → Nat) (cI cZ cS cA : ClassId) {M : fr_M} {q f : Nat} {S : pz_T} (hn : n ≤ 5) (hq5 : q ≤ 5) (hf5 : f ≤ 5) (Q : pz_Q n q f) (hI : fr_I n q f S M) {j s : Nat} {g : pz_M} (hg : S.1[j]? = some g) (hs1 : g 1 = s) {c : Nat} (hc : c < 2) (h4 : g 4 = 8 + c) (hh : S.2 3 14 (8 + c) 0 = 0) (hk : g 0 = 3) : fb_C l D n ad cI cZ cS cA my_FB_deliver mb_FB_deliver 4 (some .int) 6 135 M [.ref (ad (0, 0)), .int (nI (j))] (some (.int (nI (g 0)))) (fr_I n q f (pz_hear n q f (pz_rm S j) g)) := by
  have h := hI.2
  have I := hI.1
  have h60 := I.1
  have hj : j < S.1.length := (List.getElem?_eq_some_iff.mp hg).1
  obtain ⟨hs0, hms⟩ := I.2.2.1 g (List.mem_of_getElem? hg)
  have hs : s < 3 := by omega
  rw [hs1] at hms
  have IV := I.2.1 s hs
  have cl := pz_ci_lt (g 2)
  refine xw_start [.ref (ad (0, 0)), .int (nI (j))] (by decide) (Nat.le_of_ble_eq_true rfl) ?_
  intro p e st m below meth cd0 ls Z hml hr hlk hN hl hw
  have hl : lv_has ls 4 [(0, .ref (ad (0, 0))), (1, .int (nI (j)))] := hl
  refine lv_aload_n Z.1 Z.2.1 md_FB_deliver_0 rfl (lv_at hl 0 rfl) ?_
  refine xb_get (v := .ref (ad (2, 0))) Z hw (fb_in0 n) (fb_e0 n ad cI cZ cS cA) rfl tb_iFB 1 (by decide) mk_FB_21 rfl rfl md_FB_deliver_1 ?_
  refine lv_iload_n Z.1 Z.2.1 md_FB_deliver_4 rfl (lv_at hl 1 rfl) ?_
  refine xw_cV (n := 1) (rest := []) Z hml hl.1 hN hw (k_has1 l D ad cI cZ cS cA (M := M) h.2.1 h60 hj) tb_g mc_Mail_has mk_FB_76 mi_Mail_has ms_Mail_has mz_Mail ⟨by decide, by decide, by decide +kernel⟩ ⟨Nat.le_of_ble_eq_true rfl, Nat.le_of_ble_eq_true rfl⟩ (fb_in2 n) (fb_e2 n ad cI cZ cS cA _) rfl rfl rfl rfl (Nat.le_of_ble_eq_true rfl) ⟨Nat.le_refl _, Nat.le_refl _⟩ md_FB_deliver_5 (fun M1 H1 locs1 e1 hw => ?_)
  have ey1 := e1.symm
  subst ey1
  refine W.eq (g2 := F0 m 8 ls [.int (nI (1))]) rfl ?_
  refine xi_if_ne (tgt := 13) Z md_FB_deliver_8 (by decide) (by omega) (fun h8 => ?_) (fun h8 => by exfalso; omega)
  refine lv_aload_n Z.1 Z.2.1 md_FB_deliver_13 rfl (lv_at hl 0 rfl) ?_
  refine xb_get (v := .ref (ad (2, 0))) Z hw (fb_in0 n) (fb_e0 n ad cI cZ cS cA) rfl tb_iFB 1 (by decide) mk_FB_21 rfl rfl md_FB_deliver_14 ?_
  refine lv_iload_n Z.1 Z.2.1 md_FB_deliver_17 rfl (lv_at hl 1 rfl) ?_
  refine xw_cV (n := 1) (rest := []) Z hml hl.1 hN hw (k_take l D ad cI cZ cS cA h h60 hg) tb_g mc_Mail_take mk_FB_79 mi_Mail_take ms_Mail_take mz_Mail ⟨by decide, by decide, by decide +kernel⟩ ⟨Nat.le_of_ble_eq_true rfl, Nat.le_of_ble_eq_true rfl⟩ (fb_in2 n) (fb_e2 n ad cI cZ cS cA _) rfl rfl rfl rfl (Nat.le_of_ble_eq_true rfl) ⟨Nat.le_refl _, Nat.le_refl _⟩ md_FB_deliver_18 (fun M2 H2 locs2 ht hw => ?_)
  refine W.eq (g2 := F0 m 21 ls [.ref (ad (6, 0))]) rfl ?_
  refine lv_astore_n Z.1 Z.2.1 md_FB_deliver_21 rfl hl (by decide) rfl (fun ls hl => ?_)
  have hl : lv_has ls 4 [(2, .ref (ad (6, 0))), (0, .ref (ad (0, 0))), (1, .int (nI (j)))] := hl
  refine lv_aload_n Z.1 Z.2.1 md_FB_deliver_22 rfl (lv_at hl 1 rfl) ?_
  refine xb_get (v := .ref (ad (3, 0))) Z hw (fb_in0 n) (fb_e0 n ad cI cZ cS cA) rfl tb_iFB 2 (by decide) mk_FB_31 rfl rfl md_FB_deliver_23 ?_
  refine lv_aload_n Z.1 Z.2.1 md_FB_deliver_26 rfl (lv_at hl 0 rfl) ?_
  refine xb_get (v := .int (M2 (6, 0) 1)) Z hw (fb_in6 n) (fb_e6 n ad cI cZ cS cA) rfl tb_iMsg 1 (by decide) mk_FB_83 rfl rfl md_FB_deliver_27 ?_
  refine xi_re (show M2 (6, 0) 1 = nI (s) from (by rw [ht.2.2.1]; exact congrArg nI hs1)) ?_
  refine xw_aald (a := ad (7, s)) Z hw (fb_in3 n) (fb_e3 n ad cI cZ cS cA (M2 (3, 0))) 2 rfl (s) rfl hs (by omega) rfl md_FB_deliver_30 ?_
  refine lv_astore_n Z.1 Z.2.1 md_FB_deliver_31 rfl hl (by decide) rfl (fun ls hl => ?_)
  have hl : lv_has ls 4 [(3, .ref (ad (7, s))), (2, .ref (ad (6, 0))), (0, .ref (ad (0, 0))), (1, .int (nI (j)))] := hl
  refine lv_aload_n Z.1 Z.2.1 md_FB_deliver_32 rfl (lv_at hl 2 rfl) ?_
  refine xb_get (v := .ref (ad (4, 0))) Z hw (fb_in0 n) (fb_e0 n ad cI cZ cS cA) rfl tb_iFB 3 (by decide) mk_FB_25 rfl rfl md_FB_deliver_33 ?_
  refine lv_aload_n Z.1 Z.2.1 md_FB_deliver_36 rfl (lv_at hl 1 rfl) ?_
  refine xb_get (v := .int (M2 (6, 0) 4)) Z hw (fb_in6 n) (fb_e6 n ad cI cZ cS cA) rfl tb_iMsg 4 (by decide) mk_FB_88 rfl rfl md_FB_deliver_37 ?_
  refine xi_re (show M2 (6, 0) 4 = nI (8 + c) from (by rw [ht.2.2.2.2.2.1]; exact congrArg nI h4)) ?_
  refine xw_zald Z hw (fb_in4 n) (fb_e4 n ad cI cZ cS cA) 1 rfl (8 + c) rfl (by omega) (by omega) md_FB_deliver_40 ?_
  refine xi_re (show M2 (4, 0) (8 + c) = nI (S.2 3 14 (8 + c) 0) from ht.1.2.2.1 (8 + c) (by omega)) ?_
  have l14 := I.2.2.2 (8 + c)
  refine xi_if_eq (tgt := 49) Z md_FB_deliver_41 (by decide) (by omega) (fun h41 => ?_) (fun h41 => by exfalso; omega)
  refine lv_aload_n Z.1 Z.2.1 md_FB_deliver_49 rfl (lv_at hl 1 rfl) ?_
  refine xb_get (v := .int (M2 (6, 0) 4)) Z hw (fb_in6 n) (fb_e6 n ad cI cZ cS cA) rfl tb_iMsg 4 (by decide) mk_FB_88 rfl rfl md_FB_deliver_50 ?_
  refine xi_re (show M2 (6, 0) 4 = nI (8 + c) from (by rw [ht.2.2.2.2.2.1]; exact congrArg nI h4)) ?_
  refine lv_bipush (v := nI 10) Z.1 Z.2.1 md_FB_deliver_53 (by decide) ?_
  refine xi_icmp_ne (tgt := 80) Z md_FB_deliver_55 (by decide) (by omega) (by omega) (fun h55 => ?_) (fun h55 => by exfalso; omega)
  refine lv_aload_n Z.1 Z.2.1 md_FB_deliver_80 rfl (lv_at hl 1 rfl) ?_
  refine xb_get (v := .int (M2 (6, 0) 4)) Z hw (fb_in6 n) (fb_e6 n ad cI cZ cS cA) rfl tb_iMsg 4 (by decide) mk_FB_88 rfl rfl md_FB_deliver_81 ?_
  refine xi_re (show M2 (6, 0) 4 = nI (8 + c) from (by rw [ht.2.2.2.2.2.1]; exact congrArg nI h4)) ?_
  refine xw_cS (n := 1) (rest := []) Z hml hl.1 hN hw (k_isCoordinator1 l D ad cI cZ cS cA (M := M2) (show 8 + c = 8 ∨ 8 + c = 9 by omega)) tb_g mc_FB_isCoordinator mk_FB_112 mt_FB_isCoordinator mz_FB ⟨by decide, by decide, by decide +kernel⟩ ⟨Nat.le_of_ble_eq_true rfl, Nat.le_of_ble_eq_true rfl⟩ rfl rfl (Nat.le_of_ble_eq_true rfl) ⟨Nat.le_refl _, Nat.le_refl _⟩ md_FB_deliver_84 (fun M3 H3 locs3 e3 hw => ?_)
  have ey3 := e3.symm
  subst ey3
  refine W.eq (g2 := F0 m 87 ls [.int (nI (1))]) rfl ?_
  refine xi_if_eq (tgt := 105) Z md_FB_deliver_87 (by decide) (by omega) (fun h87 => by exfalso; omega) (fun h87 => ?_)
  refine lv_aload_n Z.1 Z.2.1 md_FB_deliver_90 rfl (lv_at hl 0 rfl) ?_
  refine lv_aload_n Z.1 Z.2.1 md_FB_deliver_91 rfl (lv_at hl 1 rfl) ?_
  refine xb_get (v := .int (M2 (6, 0) 4)) Z hw (fb_in6 n) (fb_e6 n ad cI cZ cS cA) rfl tb_iMsg 4 (by decide) mk_FB_88 rfl rfl md_FB_deliver_92 ?_
  refine xi_re (show M2 (6, 0) 4 = nI (8 + c) from (by rw [ht.2.2.2.2.2.1]; exact congrArg nI h4)) ?_
  refine xw_cV (n := 1) (rest := []) Z hml hl.1 hN hw (k_coordinator l D ad cI cZ cS cA (M := M2) hs hc) tb_g mc_Slt_coordinator mk_FB_63 mi_Slt_coordinator ms_Slt_coordinator mz_Slt ⟨by decide, by decide, by decide +kernel⟩ ⟨Nat.le_of_ble_eq_true rfl, Nat.le_of_ble_eq_true rfl⟩ (fb_in7 n hs) (fb_e7 n ad cI cZ cS cA (s) _) rfl rfl rfl rfl (Nat.le_of_ble_eq_true rfl) ⟨Nat.le_refl _, Nat.le_refl _⟩ md_FB_deliver_95 (fun M4 H4 locs4 e4 hw => ?_)
  have ey4 := e4.symm
  subst ey4
  refine W.eq (g2 := F0 m 98 ls [.ref (ad (9, 2 * s + c))]) rfl ?_
  refine lv_aload_n Z.1 Z.2.1 md_FB_deliver_98 rfl (lv_at hl 1 rfl) ?_
  refine xw_cV (n := 1) (rest := []) Z hml hl.1 hN hw (k_Chear3 (S := pz_rm S j) l D ad cI cZ cS cA hn hq5 hf5 ht.1 (show (pz_rm S j).1.length ≤ 60 from (pz_rm_Inv I).1) Q IV hs hc ht.2 hms hk) tb_g mc_Cor_hear mk_FB_115 mi_Cor_hear ms_Cor_hear mz_Cor ⟨by decide, by decide, by decide +kernel⟩ ⟨Nat.le_of_ble_eq_true rfl, Nat.le_of_ble_eq_true rfl⟩ (fb_in9 n hs hc) (fb_e9 n ad cI cZ cS cA (2 * s + c) _) rfl rfl rfl rfl (Nat.le_of_ble_eq_true rfl) ⟨Nat.le_refl _, Nat.le_refl _⟩ md_FB_deliver_99 (fun M5 H5 locs5 h9 hw => ?_)
  refine W.eq (g2 := F0 m 102 ls []) rfl ?_
  refine lv_goto (tgt := 118) Z.1 Z.2.1 md_FB_deliver_102 (by decide) ?_
  refine lv_aload_n Z.1 Z.2.1 md_FB_deliver_118 rfl (lv_at hl 1 rfl) ?_
  refine xb_get (v := .int (M5 (6, 0) 0)) Z hw (fb_in6 n) (fb_e6 n ad cI cZ cS cA) rfl tb_iMsg 0 (by decide) mk_FB_91 rfl rfl md_FB_deliver_119 ?_
  refine xi_re (show M5 (6, 0) 0 = nI (g 0) from (by rw [h9.2]; exact ht.2.1)) ?_
  refine xw_iret Z hr hlk hw md_FB_deliver_122 rfl ⟨pz_deliver_Inv Q I hg, ?_⟩
  unfold pz_hear
  rw [h4, if_neg (fun y => y hh), if_neg (by omega), if_pos (by omega), hs1, Nat.add_sub_cancel_left]
  exact h9.1
set_option maxHeartbeats 4000000 in
theorem k_deliver_C5 (l : Launch) (D : va_G) {n : Nat} (ad : Nat × Nat → Nat) (cI cZ cS cA : ClassId) {M : fr_M} {q f : Nat} {S : pz_T} (hn : n ≤ 5) (hq5 : q ≤ 5) (hf5 : f ≤ 5) (Q : pz_Q n q f) (hI : fr_I n q f S M) {j s : Nat} {g : pz_M} (hg : S.1[j]? = some g) (hs1 : g 1 = s) {c : Nat} (hc : c < 2) (h4 : g 4 = 8 + c) (hh : S.2 3 14 (8 + c) 0 = 0) (hk : g 0 = 5) : fb_C l D n ad cI cZ cS cA my_FB_deliver mb_FB_deliver 4 (some .int) 6 135 M [.ref (ad (0, 0)), .int (nI (j))] (some (.int (nI (g 0)))) (fr_I n q f (pz_hear n q f (pz_rm S j) g)) := by
  have h := hI.2
  have I := hI.1
  have h60 := I.1
  have hj : j < S.1.length := (List.getElem?_eq_some_iff.mp hg).1
  obtain ⟨hs0, hms⟩ := I.2.2.1 g (List.mem_of_getElem? hg)
  have hs : s < 3 := by omega
  rw [hs1] at hms
  have IV := I.2.1 s hs
  have cl := pz_ci_lt (g 2)
  refine xw_start [.ref (ad (0, 0)), .int (nI (j))] (by decide) (Nat.le_of_ble_eq_true rfl) ?_
  intro p e st m below meth cd0 ls Z hml hr hlk hN hl hw
  have hl : lv_has ls 4 [(0, .ref (ad (0, 0))), (1, .int (nI (j)))] := hl
  refine lv_aload_n Z.1 Z.2.1 md_FB_deliver_0 rfl (lv_at hl 0 rfl) ?_
  refine xb_get (v := .ref (ad (2, 0))) Z hw (fb_in0 n) (fb_e0 n ad cI cZ cS cA) rfl tb_iFB 1 (by decide) mk_FB_21 rfl rfl md_FB_deliver_1 ?_
  refine lv_iload_n Z.1 Z.2.1 md_FB_deliver_4 rfl (lv_at hl 1 rfl) ?_
  refine xw_cV (n := 1) (rest := []) Z hml hl.1 hN hw (k_has1 l D ad cI cZ cS cA (M := M) h.2.1 h60 hj) tb_g mc_Mail_has mk_FB_76 mi_Mail_has ms_Mail_has mz_Mail ⟨by decide, by decide, by decide +kernel⟩ ⟨Nat.le_of_ble_eq_true rfl, Nat.le_of_ble_eq_true rfl⟩ (fb_in2 n) (fb_e2 n ad cI cZ cS cA _) rfl rfl rfl rfl (Nat.le_of_ble_eq_true rfl) ⟨Nat.le_refl _, Nat.le_refl _⟩ md_FB_deliver_5 (fun M1 H1 locs1 e1 hw => ?_)
  have ey1 := e1.symm
  subst ey1
  refine W.eq (g2 := F0 m 8 ls [.int (nI (1))]) rfl ?_
  refine xi_if_ne (tgt := 13) Z md_FB_deliver_8 (by decide) (by omega) (fun h8 => ?_) (fun h8 => by exfalso; omega)
  refine lv_aload_n Z.1 Z.2.1 md_FB_deliver_13 rfl (lv_at hl 0 rfl) ?_
  refine xb_get (v := .ref (ad (2, 0))) Z hw (fb_in0 n) (fb_e0 n ad cI cZ cS cA) rfl tb_iFB 1 (by decide) mk_FB_21 rfl rfl md_FB_deliver_14 ?_
  refine lv_iload_n Z.1 Z.2.1 md_FB_deliver_17 rfl (lv_at hl 1 rfl) ?_
  refine xw_cV (n := 1) (rest := []) Z hml hl.1 hN hw (k_take l D ad cI cZ cS cA h h60 hg) tb_g mc_Mail_take mk_FB_79 mi_Mail_take ms_Mail_take mz_Mail ⟨by decide, by decide, by decide +kernel⟩ ⟨Nat.le_of_ble_eq_true rfl, Nat.le_of_ble_eq_true rfl⟩ (fb_in2 n) (fb_e2 n ad cI cZ cS cA _) rfl rfl rfl rfl (Nat.le_of_ble_eq_true rfl) ⟨Nat.le_refl _, Nat.le_refl _⟩ md_FB_deliver_18 (fun M2 H2 locs2 ht hw => ?_)
  refine W.eq (g2 := F0 m 21 ls [.ref (ad (6, 0))]) rfl ?_
  refine lv_astore_n Z.1 Z.2.1 md_FB_deliver_21 rfl hl (by decide) rfl (fun ls hl => ?_)
  have hl : lv_has ls 4 [(2, .ref (ad (6, 0))), (0, .ref (ad (0, 0))), (1, .int (nI (j)))] := hl
  refine lv_aload_n Z.1 Z.2.1 md_FB_deliver_22 rfl (lv_at hl 1 rfl) ?_
  refine xb_get (v := .ref (ad (3, 0))) Z hw (fb_in0 n) (fb_e0 n ad cI cZ cS cA) rfl tb_iFB 2 (by decide) mk_FB_31 rfl rfl md_FB_deliver_23 ?_
  refine lv_aload_n Z.1 Z.2.1 md_FB_deliver_26 rfl (lv_at hl 0 rfl) ?_
  refine xb_get (v := .int (M2 (6, 0) 1)) Z hw (fb_in6 n) (fb_e6 n ad cI cZ cS cA) rfl tb_iMsg 1 (by decide) mk_FB_83 rfl rfl md_FB_deliver_27 ?_
  refine xi_re (show M2 (6, 0) 1 = nI (s) from (by rw [ht.2.2.1]; exact congrArg nI hs1)) ?_
  refine xw_aald (a := ad (7, s)) Z hw (fb_in3 n) (fb_e3 n ad cI cZ cS cA (M2 (3, 0))) 2 rfl (s) rfl hs (by omega) rfl md_FB_deliver_30 ?_
  refine lv_astore_n Z.1 Z.2.1 md_FB_deliver_31 rfl hl (by decide) rfl (fun ls hl => ?_)
  have hl : lv_has ls 4 [(3, .ref (ad (7, s))), (2, .ref (ad (6, 0))), (0, .ref (ad (0, 0))), (1, .int (nI (j)))] := hl
  refine lv_aload_n Z.1 Z.2.1 md_FB_deliver_32 rfl (lv_at hl 2 rfl) ?_
  refine xb_get (v := .ref (ad (4, 0))) Z hw (fb_in0 n) (fb_e0 n ad cI cZ cS cA) rfl tb_iFB 3 (by decide) mk_FB_25 rfl rfl md_FB_deliver_33 ?_
  refine lv_aload_n Z.1 Z.2.1 md_FB_deliver_36 rfl (lv_at hl 1 rfl) ?_
  refine xb_get (v := .int (M2 (6, 0) 4)) Z hw (fb_in6 n) (fb_e6 n ad cI cZ cS cA) rfl tb_iMsg 4 (by decide) mk_FB_88 rfl rfl md_FB_deliver_37 ?_
  refine xi_re (show M2 (6, 0) 4 = nI (8 + c) from (by rw [ht.2.2.2.2.2.1]; exact congrArg nI h4)) ?_
  refine xw_zald Z hw (fb_in4 n) (fb_e4 n ad cI cZ cS cA) 1 rfl (8 + c) rfl (by omega) (by omega) md_FB_deliver_40 ?_
  refine xi_re (show M2 (4, 0) (8 + c) = nI (S.2 3 14 (8 + c) 0) from ht.1.2.2.1 (8 + c) (by omega)) ?_
  have l14 := I.2.2.2 (8 + c)
  refine xi_if_eq (tgt := 49) Z md_FB_deliver_41 (by decide) (by omega) (fun h41 => ?_) (fun h41 => by exfalso; omega)
  refine lv_aload_n Z.1 Z.2.1 md_FB_deliver_49 rfl (lv_at hl 1 rfl) ?_
  refine xb_get (v := .int (M2 (6, 0) 4)) Z hw (fb_in6 n) (fb_e6 n ad cI cZ cS cA) rfl tb_iMsg 4 (by decide) mk_FB_88 rfl rfl md_FB_deliver_50 ?_
  refine xi_re (show M2 (6, 0) 4 = nI (8 + c) from (by rw [ht.2.2.2.2.2.1]; exact congrArg nI h4)) ?_
  refine lv_bipush (v := nI 10) Z.1 Z.2.1 md_FB_deliver_53 (by decide) ?_
  refine xi_icmp_ne (tgt := 80) Z md_FB_deliver_55 (by decide) (by omega) (by omega) (fun h55 => ?_) (fun h55 => by exfalso; omega)
  refine lv_aload_n Z.1 Z.2.1 md_FB_deliver_80 rfl (lv_at hl 1 rfl) ?_
  refine xb_get (v := .int (M2 (6, 0) 4)) Z hw (fb_in6 n) (fb_e6 n ad cI cZ cS cA) rfl tb_iMsg 4 (by decide) mk_FB_88 rfl rfl md_FB_deliver_81 ?_
  refine xi_re (show M2 (6, 0) 4 = nI (8 + c) from (by rw [ht.2.2.2.2.2.1]; exact congrArg nI h4)) ?_
  refine xw_cS (n := 1) (rest := []) Z hml hl.1 hN hw (k_isCoordinator1 l D ad cI cZ cS cA (M := M2) (show 8 + c = 8 ∨ 8 + c = 9 by omega)) tb_g mc_FB_isCoordinator mk_FB_112 mt_FB_isCoordinator mz_FB ⟨by decide, by decide, by decide +kernel⟩ ⟨Nat.le_of_ble_eq_true rfl, Nat.le_of_ble_eq_true rfl⟩ rfl rfl (Nat.le_of_ble_eq_true rfl) ⟨Nat.le_refl _, Nat.le_refl _⟩ md_FB_deliver_84 (fun M3 H3 locs3 e3 hw => ?_)
  have ey3 := e3.symm
  subst ey3
  refine W.eq (g2 := F0 m 87 ls [.int (nI (1))]) rfl ?_
  refine xi_if_eq (tgt := 105) Z md_FB_deliver_87 (by decide) (by omega) (fun h87 => by exfalso; omega) (fun h87 => ?_)
  refine lv_aload_n Z.1 Z.2.1 md_FB_deliver_90 rfl (lv_at hl 0 rfl) ?_
  refine lv_aload_n Z.1 Z.2.1 md_FB_deliver_91 rfl (lv_at hl 1 rfl) ?_
  refine xb_get (v := .int (M2 (6, 0) 4)) Z hw (fb_in6 n) (fb_e6 n ad cI cZ cS cA) rfl tb_iMsg 4 (by decide) mk_FB_88 rfl rfl md_FB_deliver_92 ?_
  refine xi_re (show M2 (6, 0) 4 = nI (8 + c) from (by rw [ht.2.2.2.2.2.1]; exact congrArg nI h4)) ?_
  refine xw_cV (n := 1) (rest := []) Z hml hl.1 hN hw (k_coordinator l D ad cI cZ cS cA (M := M2) hs hc) tb_g mc_Slt_coordinator mk_FB_63 mi_Slt_coordinator ms_Slt_coordinator mz_Slt ⟨by decide, by decide, by decide +kernel⟩ ⟨Nat.le_of_ble_eq_true rfl, Nat.le_of_ble_eq_true rfl⟩ (fb_in7 n hs) (fb_e7 n ad cI cZ cS cA (s) _) rfl rfl rfl rfl (Nat.le_of_ble_eq_true rfl) ⟨Nat.le_refl _, Nat.le_refl _⟩ md_FB_deliver_95 (fun M4 H4 locs4 e4 hw => ?_)
  have ey4 := e4.symm
  subst ey4
  refine W.eq (g2 := F0 m 98 ls [.ref (ad (9, 2 * s + c))]) rfl ?_
  refine lv_aload_n Z.1 Z.2.1 md_FB_deliver_98 rfl (lv_at hl 1 rfl) ?_
  refine xw_cV (n := 1) (rest := []) Z hml hl.1 hN hw (k_Chear5 (S := pz_rm S j) l D ad cI cZ cS cA hn hq5 hf5 ht.1 (show (pz_rm S j).1.length ≤ 60 from (pz_rm_Inv I).1) Q IV hs hc ht.2 hms hk) tb_g mc_Cor_hear mk_FB_115 mi_Cor_hear ms_Cor_hear mz_Cor ⟨by decide, by decide, by decide +kernel⟩ ⟨Nat.le_of_ble_eq_true rfl, Nat.le_of_ble_eq_true rfl⟩ (fb_in9 n hs hc) (fb_e9 n ad cI cZ cS cA (2 * s + c) _) rfl rfl rfl rfl (Nat.le_of_ble_eq_true rfl) ⟨Nat.le_refl _, Nat.le_refl _⟩ md_FB_deliver_99 (fun M5 H5 locs5 h9 hw => ?_)
  refine W.eq (g2 := F0 m 102 ls []) rfl ?_
  refine lv_goto (tgt := 118) Z.1 Z.2.1 md_FB_deliver_102 (by decide) ?_
  refine lv_aload_n Z.1 Z.2.1 md_FB_deliver_118 rfl (lv_at hl 1 rfl) ?_
  refine xb_get (v := .int (M5 (6, 0) 0)) Z hw (fb_in6 n) (fb_e6 n ad cI cZ cS cA) rfl tb_iMsg 0 (by decide) mk_FB_91 rfl rfl md_FB_deliver_119 ?_
  refine xi_re (show M5 (6, 0) 0 = nI (g 0) from (by rw [h9.2]; exact ht.2.1)) ?_
  refine xw_iret Z hr hlk hw md_FB_deliver_122 rfl ⟨pz_deliver_Inv Q I hg, ?_⟩
  unfold pz_hear
  rw [h4, if_neg (fun y => y hh), if_neg (by omega), if_pos (by omega), hs1, Nat.add_sub_cancel_left]
  exact h9.1
set_option maxHeartbeats 4000000 in
theorem k_deliver_A1 (l : Launch) (D : va_G) {n : Nat} (ad : Nat × Nat → Nat) (cI cZ cS cA : ClassId) {M : fr_M} {q f : Nat} {S : pz_T} (hn : n ≤ 5) (hq5 : q ≤ 5) (hf5 : f ≤ 5) (Q : pz_Q n q f) (hI : fr_I n q f S M) {j s : Nat} {g : pz_M} (hg : S.1[j]? = some g) (hs1 : g 1 = s) {a : Nat} (ha : a < n) (h4 : g 4 = a) (hh : S.2 3 14 a 0 = 0) (hk : g 0 = 1) : fb_C l D n ad cI cZ cS cA my_FB_deliver mb_FB_deliver 4 (some .int) 6 135 M [.ref (ad (0, 0)), .int (nI (j))] (some (.int (nI (g 0)))) (fr_I n q f (pz_hear n q f (pz_rm S j) g)) := by
  have h := hI.2
  have I := hI.1
  have h60 := I.1
  have hj : j < S.1.length := (List.getElem?_eq_some_iff.mp hg).1
  obtain ⟨hs0, hms⟩ := I.2.2.1 g (List.mem_of_getElem? hg)
  have hs : s < 3 := by omega
  rw [hs1] at hms
  have IV := I.2.1 s hs
  have cl := pz_ci_lt (g 2)
  refine xw_start [.ref (ad (0, 0)), .int (nI (j))] (by decide) (Nat.le_of_ble_eq_true rfl) ?_
  intro p e st m below meth cd0 ls Z hml hr hlk hN hl hw
  have hl : lv_has ls 4 [(0, .ref (ad (0, 0))), (1, .int (nI (j)))] := hl
  refine lv_aload_n Z.1 Z.2.1 md_FB_deliver_0 rfl (lv_at hl 0 rfl) ?_
  refine xb_get (v := .ref (ad (2, 0))) Z hw (fb_in0 n) (fb_e0 n ad cI cZ cS cA) rfl tb_iFB 1 (by decide) mk_FB_21 rfl rfl md_FB_deliver_1 ?_
  refine lv_iload_n Z.1 Z.2.1 md_FB_deliver_4 rfl (lv_at hl 1 rfl) ?_
  refine xw_cV (n := 1) (rest := []) Z hml hl.1 hN hw (k_has1 l D ad cI cZ cS cA (M := M) h.2.1 h60 hj) tb_g mc_Mail_has mk_FB_76 mi_Mail_has ms_Mail_has mz_Mail ⟨by decide, by decide, by decide +kernel⟩ ⟨Nat.le_of_ble_eq_true rfl, Nat.le_of_ble_eq_true rfl⟩ (fb_in2 n) (fb_e2 n ad cI cZ cS cA _) rfl rfl rfl rfl (Nat.le_of_ble_eq_true rfl) ⟨Nat.le_refl _, Nat.le_refl _⟩ md_FB_deliver_5 (fun M1 H1 locs1 e1 hw => ?_)
  have ey1 := e1.symm
  subst ey1
  refine W.eq (g2 := F0 m 8 ls [.int (nI (1))]) rfl ?_
  refine xi_if_ne (tgt := 13) Z md_FB_deliver_8 (by decide) (by omega) (fun h8 => ?_) (fun h8 => by exfalso; omega)
  refine lv_aload_n Z.1 Z.2.1 md_FB_deliver_13 rfl (lv_at hl 0 rfl) ?_
  refine xb_get (v := .ref (ad (2, 0))) Z hw (fb_in0 n) (fb_e0 n ad cI cZ cS cA) rfl tb_iFB 1 (by decide) mk_FB_21 rfl rfl md_FB_deliver_14 ?_
  refine lv_iload_n Z.1 Z.2.1 md_FB_deliver_17 rfl (lv_at hl 1 rfl) ?_
  refine xw_cV (n := 1) (rest := []) Z hml hl.1 hN hw (k_take l D ad cI cZ cS cA h h60 hg) tb_g mc_Mail_take mk_FB_79 mi_Mail_take ms_Mail_take mz_Mail ⟨by decide, by decide, by decide +kernel⟩ ⟨Nat.le_of_ble_eq_true rfl, Nat.le_of_ble_eq_true rfl⟩ (fb_in2 n) (fb_e2 n ad cI cZ cS cA _) rfl rfl rfl rfl (Nat.le_of_ble_eq_true rfl) ⟨Nat.le_refl _, Nat.le_refl _⟩ md_FB_deliver_18 (fun M2 H2 locs2 ht hw => ?_)
  refine W.eq (g2 := F0 m 21 ls [.ref (ad (6, 0))]) rfl ?_
  refine lv_astore_n Z.1 Z.2.1 md_FB_deliver_21 rfl hl (by decide) rfl (fun ls hl => ?_)
  have hl : lv_has ls 4 [(2, .ref (ad (6, 0))), (0, .ref (ad (0, 0))), (1, .int (nI (j)))] := hl
  refine lv_aload_n Z.1 Z.2.1 md_FB_deliver_22 rfl (lv_at hl 1 rfl) ?_
  refine xb_get (v := .ref (ad (3, 0))) Z hw (fb_in0 n) (fb_e0 n ad cI cZ cS cA) rfl tb_iFB 2 (by decide) mk_FB_31 rfl rfl md_FB_deliver_23 ?_
  refine lv_aload_n Z.1 Z.2.1 md_FB_deliver_26 rfl (lv_at hl 0 rfl) ?_
  refine xb_get (v := .int (M2 (6, 0) 1)) Z hw (fb_in6 n) (fb_e6 n ad cI cZ cS cA) rfl tb_iMsg 1 (by decide) mk_FB_83 rfl rfl md_FB_deliver_27 ?_
  refine xi_re (show M2 (6, 0) 1 = nI (s) from (by rw [ht.2.2.1]; exact congrArg nI hs1)) ?_
  refine xw_aald (a := ad (7, s)) Z hw (fb_in3 n) (fb_e3 n ad cI cZ cS cA (M2 (3, 0))) 2 rfl (s) rfl hs (by omega) rfl md_FB_deliver_30 ?_
  refine lv_astore_n Z.1 Z.2.1 md_FB_deliver_31 rfl hl (by decide) rfl (fun ls hl => ?_)
  have hl : lv_has ls 4 [(3, .ref (ad (7, s))), (2, .ref (ad (6, 0))), (0, .ref (ad (0, 0))), (1, .int (nI (j)))] := hl
  refine lv_aload_n Z.1 Z.2.1 md_FB_deliver_32 rfl (lv_at hl 2 rfl) ?_
  refine xb_get (v := .ref (ad (4, 0))) Z hw (fb_in0 n) (fb_e0 n ad cI cZ cS cA) rfl tb_iFB 3 (by decide) mk_FB_25 rfl rfl md_FB_deliver_33 ?_
  refine lv_aload_n Z.1 Z.2.1 md_FB_deliver_36 rfl (lv_at hl 1 rfl) ?_
  refine xb_get (v := .int (M2 (6, 0) 4)) Z hw (fb_in6 n) (fb_e6 n ad cI cZ cS cA) rfl tb_iMsg 4 (by decide) mk_FB_88 rfl rfl md_FB_deliver_37 ?_
  refine xi_re (show M2 (6, 0) 4 = nI (a) from (by rw [ht.2.2.2.2.2.1]; exact congrArg nI h4)) ?_
  refine xw_zald Z hw (fb_in4 n) (fb_e4 n ad cI cZ cS cA) 1 rfl (a) rfl (by omega) (by omega) md_FB_deliver_40 ?_
  refine xi_re (show M2 (4, 0) (a) = nI (S.2 3 14 (a) 0) from ht.1.2.2.1 (a) (by omega)) ?_
  have l14 := I.2.2.2 (a)
  refine xi_if_eq (tgt := 49) Z md_FB_deliver_41 (by decide) (by omega) (fun h41 => ?_) (fun h41 => by exfalso; omega)
  refine lv_aload_n Z.1 Z.2.1 md_FB_deliver_49 rfl (lv_at hl 1 rfl) ?_
  refine xb_get (v := .int (M2 (6, 0) 4)) Z hw (fb_in6 n) (fb_e6 n ad cI cZ cS cA) rfl tb_iMsg 4 (by decide) mk_FB_88 rfl rfl md_FB_deliver_50 ?_
  refine xi_re (show M2 (6, 0) 4 = nI (a) from (by rw [ht.2.2.2.2.2.1]; exact congrArg nI h4)) ?_
  refine lv_bipush (v := nI 10) Z.1 Z.2.1 md_FB_deliver_53 (by decide) ?_
  refine xi_icmp_ne (tgt := 80) Z md_FB_deliver_55 (by decide) (by omega) (by omega) (fun h55 => ?_) (fun h55 => by exfalso; omega)
  refine lv_aload_n Z.1 Z.2.1 md_FB_deliver_80 rfl (lv_at hl 1 rfl) ?_
  refine xb_get (v := .int (M2 (6, 0) 4)) Z hw (fb_in6 n) (fb_e6 n ad cI cZ cS cA) rfl tb_iMsg 4 (by decide) mk_FB_88 rfl rfl md_FB_deliver_81 ?_
  refine xi_re (show M2 (6, 0) 4 = nI (a) from (by rw [ht.2.2.2.2.2.1]; exact congrArg nI h4)) ?_
  refine xw_cS (n := 1) (rest := []) Z hml hl.1 hN hw (k_isCoordinator0 l D ad cI cZ cS cA (M := M2) (fun y => by have := (nI_eq (by omega) (by decide)).mp y; omega) (fun y => by have := (nI_eq (by omega) (by decide)).mp y; omega)) tb_g mc_FB_isCoordinator mk_FB_112 mt_FB_isCoordinator mz_FB ⟨by decide, by decide, by decide +kernel⟩ ⟨Nat.le_of_ble_eq_true rfl, Nat.le_of_ble_eq_true rfl⟩ rfl rfl (Nat.le_of_ble_eq_true rfl) ⟨Nat.le_refl _, Nat.le_refl _⟩ md_FB_deliver_84 (fun M3 H3 locs3 e3 hw => ?_)
  have ey3 := e3.symm
  subst ey3
  refine W.eq (g2 := F0 m 87 ls [.int (nI (0))]) rfl ?_
  refine xi_if_eq (tgt := 105) Z md_FB_deliver_87 (by decide) (by omega) (fun h87 => ?_) (fun h87 => by exfalso; omega)
  refine lv_aload_n Z.1 Z.2.1 md_FB_deliver_105 rfl (lv_at hl 0 rfl) ?_
  refine xb_get (v := .ref (ad (8, s))) Z hw (fb_in7 n hs) (fb_e7 n ad cI cZ cS cA (s)) rfl tb_iSlt 0 (by decide) mk_FB_119 rfl rfl md_FB_deliver_106 ?_
  refine lv_aload_n Z.1 Z.2.1 md_FB_deliver_109 rfl (lv_at hl 1 rfl) ?_
  refine xb_get (v := .int (M2 (6, 0) 4)) Z hw (fb_in6 n) (fb_e6 n ad cI cZ cS cA) rfl tb_iMsg 4 (by decide) mk_FB_88 rfl rfl md_FB_deliver_110 ?_
  refine xi_re (show M2 (6, 0) 4 = nI (a) from (by rw [ht.2.2.2.2.2.1]; exact congrArg nI h4)) ?_
  refine xw_aald (a := ad (15, 5 * s + a)) Z hw (fb_in8 n hs) (fb_e8 n ad cI cZ cS cA (s) (M2 (8, s))) 3 rfl (a) rfl ha (by omega) rfl md_FB_deliver_113 ?_
  refine lv_aload_n Z.1 Z.2.1 md_FB_deliver_114 rfl (lv_at hl 1 rfl) ?_
  have mv : g 5 ≤ 1000 := by rcases hms with ⟨_, _, _, _, z⟩ | ⟨a, _⟩ | ⟨a, _⟩ | ⟨a, _⟩ | ⟨a, _⟩ <;> omega
  refine xw_cV (n := 1) (rest := []) Z hml hl.1 hN hw (k_Ahear1 (S := pz_rm S j) l D ad cI cZ cS cA hn hq5 hf5 ht.1 (show (pz_rm S j).1.length ≤ 60 from (pz_rm_Inv I).1) IV hs ha ht.2 hk (by omega)) tb_g mc_Acc_hear mk_FB_122 mi_Acc_hear ms_Acc_hear mz_Acc ⟨by decide, by decide, by decide +kernel⟩ ⟨Nat.le_of_ble_eq_true rfl, Nat.le_of_ble_eq_true rfl⟩ (fb_in15 hn hs ha) (fb_e15 n ad cI cZ cS cA (5 * s + a) _) rfl rfl rfl rfl (Nat.le_of_ble_eq_true rfl) ⟨Nat.le_refl _, Nat.le_refl _⟩ md_FB_deliver_115 (fun M4 H4 locs4 h9 hw => ?_)
  refine W.eq (g2 := F0 m 118 ls []) rfl ?_
  refine lv_aload_n Z.1 Z.2.1 md_FB_deliver_118 rfl (lv_at hl 1 rfl) ?_
  refine xb_get (v := .int (M4 (6, 0) 0)) Z hw (fb_in6 n) (fb_e6 n ad cI cZ cS cA) rfl tb_iMsg 0 (by decide) mk_FB_91 rfl rfl md_FB_deliver_119 ?_
  refine xi_re (show M4 (6, 0) 0 = nI (g 0) from (by rw [h9.2]; exact ht.2.1)) ?_
  refine xw_iret Z hr hlk hw md_FB_deliver_122 rfl ⟨pz_deliver_Inv Q I hg, ?_⟩
  unfold pz_hear
  rw [h4, if_neg (fun y => y hh), if_pos (by omega), hs1]
  exact fr_fin2 h9.1 (fun s' c' hs' _ => pz_accept_9 hs')
set_option maxHeartbeats 4000000 in
theorem k_deliver_A2 (l : Launch) (D : va_G) {n : Nat} (ad : Nat × Nat → Nat) (cI cZ cS cA : ClassId) {M : fr_M} {q f : Nat} {S : pz_T} (hn : n ≤ 5) (hq5 : q ≤ 5) (hf5 : f ≤ 5) (Q : pz_Q n q f) (hI : fr_I n q f S M) {j s : Nat} {g : pz_M} (hg : S.1[j]? = some g) (hs1 : g 1 = s) {a : Nat} (ha : a < n) (h4 : g 4 = a) (hh : S.2 3 14 a 0 = 0) (hk : g 0 = 2) : fb_C l D n ad cI cZ cS cA my_FB_deliver mb_FB_deliver 4 (some .int) 6 135 M [.ref (ad (0, 0)), .int (nI (j))] (some (.int (nI (g 0)))) (fr_I n q f (pz_hear n q f (pz_rm S j) g)) := by
  have h := hI.2
  have I := hI.1
  have h60 := I.1
  have hj : j < S.1.length := (List.getElem?_eq_some_iff.mp hg).1
  obtain ⟨hs0, hms⟩ := I.2.2.1 g (List.mem_of_getElem? hg)
  have hs : s < 3 := by omega
  rw [hs1] at hms
  have IV := I.2.1 s hs
  have cl := pz_ci_lt (g 2)
  refine xw_start [.ref (ad (0, 0)), .int (nI (j))] (by decide) (Nat.le_of_ble_eq_true rfl) ?_
  intro p e st m below meth cd0 ls Z hml hr hlk hN hl hw
  have hl : lv_has ls 4 [(0, .ref (ad (0, 0))), (1, .int (nI (j)))] := hl
  refine lv_aload_n Z.1 Z.2.1 md_FB_deliver_0 rfl (lv_at hl 0 rfl) ?_
  refine xb_get (v := .ref (ad (2, 0))) Z hw (fb_in0 n) (fb_e0 n ad cI cZ cS cA) rfl tb_iFB 1 (by decide) mk_FB_21 rfl rfl md_FB_deliver_1 ?_
  refine lv_iload_n Z.1 Z.2.1 md_FB_deliver_4 rfl (lv_at hl 1 rfl) ?_
  refine xw_cV (n := 1) (rest := []) Z hml hl.1 hN hw (k_has1 l D ad cI cZ cS cA (M := M) h.2.1 h60 hj) tb_g mc_Mail_has mk_FB_76 mi_Mail_has ms_Mail_has mz_Mail ⟨by decide, by decide, by decide +kernel⟩ ⟨Nat.le_of_ble_eq_true rfl, Nat.le_of_ble_eq_true rfl⟩ (fb_in2 n) (fb_e2 n ad cI cZ cS cA _) rfl rfl rfl rfl (Nat.le_of_ble_eq_true rfl) ⟨Nat.le_refl _, Nat.le_refl _⟩ md_FB_deliver_5 (fun M1 H1 locs1 e1 hw => ?_)
  have ey1 := e1.symm
  subst ey1
  refine W.eq (g2 := F0 m 8 ls [.int (nI (1))]) rfl ?_
  refine xi_if_ne (tgt := 13) Z md_FB_deliver_8 (by decide) (by omega) (fun h8 => ?_) (fun h8 => by exfalso; omega)
  refine lv_aload_n Z.1 Z.2.1 md_FB_deliver_13 rfl (lv_at hl 0 rfl) ?_
  refine xb_get (v := .ref (ad (2, 0))) Z hw (fb_in0 n) (fb_e0 n ad cI cZ cS cA) rfl tb_iFB 1 (by decide) mk_FB_21 rfl rfl md_FB_deliver_14 ?_
  refine lv_iload_n Z.1 Z.2.1 md_FB_deliver_17 rfl (lv_at hl 1 rfl) ?_
  refine xw_cV (n := 1) (rest := []) Z hml hl.1 hN hw (k_take l D ad cI cZ cS cA h h60 hg) tb_g mc_Mail_take mk_FB_79 mi_Mail_take ms_Mail_take mz_Mail ⟨by decide, by decide, by decide +kernel⟩ ⟨Nat.le_of_ble_eq_true rfl, Nat.le_of_ble_eq_true rfl⟩ (fb_in2 n) (fb_e2 n ad cI cZ cS cA _) rfl rfl rfl rfl (Nat.le_of_ble_eq_true rfl) ⟨Nat.le_refl _, Nat.le_refl _⟩ md_FB_deliver_18 (fun M2 H2 locs2 ht hw => ?_)
  refine W.eq (g2 := F0 m 21 ls [.ref (ad (6, 0))]) rfl ?_
  refine lv_astore_n Z.1 Z.2.1 md_FB_deliver_21 rfl hl (by decide) rfl (fun ls hl => ?_)
  have hl : lv_has ls 4 [(2, .ref (ad (6, 0))), (0, .ref (ad (0, 0))), (1, .int (nI (j)))] := hl
  refine lv_aload_n Z.1 Z.2.1 md_FB_deliver_22 rfl (lv_at hl 1 rfl) ?_
  refine xb_get (v := .ref (ad (3, 0))) Z hw (fb_in0 n) (fb_e0 n ad cI cZ cS cA) rfl tb_iFB 2 (by decide) mk_FB_31 rfl rfl md_FB_deliver_23 ?_
  refine lv_aload_n Z.1 Z.2.1 md_FB_deliver_26 rfl (lv_at hl 0 rfl) ?_
  refine xb_get (v := .int (M2 (6, 0) 1)) Z hw (fb_in6 n) (fb_e6 n ad cI cZ cS cA) rfl tb_iMsg 1 (by decide) mk_FB_83 rfl rfl md_FB_deliver_27 ?_
  refine xi_re (show M2 (6, 0) 1 = nI (s) from (by rw [ht.2.2.1]; exact congrArg nI hs1)) ?_
  refine xw_aald (a := ad (7, s)) Z hw (fb_in3 n) (fb_e3 n ad cI cZ cS cA (M2 (3, 0))) 2 rfl (s) rfl hs (by omega) rfl md_FB_deliver_30 ?_
  refine lv_astore_n Z.1 Z.2.1 md_FB_deliver_31 rfl hl (by decide) rfl (fun ls hl => ?_)
  have hl : lv_has ls 4 [(3, .ref (ad (7, s))), (2, .ref (ad (6, 0))), (0, .ref (ad (0, 0))), (1, .int (nI (j)))] := hl
  refine lv_aload_n Z.1 Z.2.1 md_FB_deliver_32 rfl (lv_at hl 2 rfl) ?_
  refine xb_get (v := .ref (ad (4, 0))) Z hw (fb_in0 n) (fb_e0 n ad cI cZ cS cA) rfl tb_iFB 3 (by decide) mk_FB_25 rfl rfl md_FB_deliver_33 ?_
  refine lv_aload_n Z.1 Z.2.1 md_FB_deliver_36 rfl (lv_at hl 1 rfl) ?_
  refine xb_get (v := .int (M2 (6, 0) 4)) Z hw (fb_in6 n) (fb_e6 n ad cI cZ cS cA) rfl tb_iMsg 4 (by decide) mk_FB_88 rfl rfl md_FB_deliver_37 ?_
  refine xi_re (show M2 (6, 0) 4 = nI (a) from (by rw [ht.2.2.2.2.2.1]; exact congrArg nI h4)) ?_
  refine xw_zald Z hw (fb_in4 n) (fb_e4 n ad cI cZ cS cA) 1 rfl (a) rfl (by omega) (by omega) md_FB_deliver_40 ?_
  refine xi_re (show M2 (4, 0) (a) = nI (S.2 3 14 (a) 0) from ht.1.2.2.1 (a) (by omega)) ?_
  have l14 := I.2.2.2 (a)
  refine xi_if_eq (tgt := 49) Z md_FB_deliver_41 (by decide) (by omega) (fun h41 => ?_) (fun h41 => by exfalso; omega)
  refine lv_aload_n Z.1 Z.2.1 md_FB_deliver_49 rfl (lv_at hl 1 rfl) ?_
  refine xb_get (v := .int (M2 (6, 0) 4)) Z hw (fb_in6 n) (fb_e6 n ad cI cZ cS cA) rfl tb_iMsg 4 (by decide) mk_FB_88 rfl rfl md_FB_deliver_50 ?_
  refine xi_re (show M2 (6, 0) 4 = nI (a) from (by rw [ht.2.2.2.2.2.1]; exact congrArg nI h4)) ?_
  refine lv_bipush (v := nI 10) Z.1 Z.2.1 md_FB_deliver_53 (by decide) ?_
  refine xi_icmp_ne (tgt := 80) Z md_FB_deliver_55 (by decide) (by omega) (by omega) (fun h55 => ?_) (fun h55 => by exfalso; omega)
  refine lv_aload_n Z.1 Z.2.1 md_FB_deliver_80 rfl (lv_at hl 1 rfl) ?_
  refine xb_get (v := .int (M2 (6, 0) 4)) Z hw (fb_in6 n) (fb_e6 n ad cI cZ cS cA) rfl tb_iMsg 4 (by decide) mk_FB_88 rfl rfl md_FB_deliver_81 ?_
  refine xi_re (show M2 (6, 0) 4 = nI (a) from (by rw [ht.2.2.2.2.2.1]; exact congrArg nI h4)) ?_
  refine xw_cS (n := 1) (rest := []) Z hml hl.1 hN hw (k_isCoordinator0 l D ad cI cZ cS cA (M := M2) (fun y => by have := (nI_eq (by omega) (by decide)).mp y; omega) (fun y => by have := (nI_eq (by omega) (by decide)).mp y; omega)) tb_g mc_FB_isCoordinator mk_FB_112 mt_FB_isCoordinator mz_FB ⟨by decide, by decide, by decide +kernel⟩ ⟨Nat.le_of_ble_eq_true rfl, Nat.le_of_ble_eq_true rfl⟩ rfl rfl (Nat.le_of_ble_eq_true rfl) ⟨Nat.le_refl _, Nat.le_refl _⟩ md_FB_deliver_84 (fun M3 H3 locs3 e3 hw => ?_)
  have ey3 := e3.symm
  subst ey3
  refine W.eq (g2 := F0 m 87 ls [.int (nI (0))]) rfl ?_
  refine xi_if_eq (tgt := 105) Z md_FB_deliver_87 (by decide) (by omega) (fun h87 => ?_) (fun h87 => by exfalso; omega)
  refine lv_aload_n Z.1 Z.2.1 md_FB_deliver_105 rfl (lv_at hl 0 rfl) ?_
  refine xb_get (v := .ref (ad (8, s))) Z hw (fb_in7 n hs) (fb_e7 n ad cI cZ cS cA (s)) rfl tb_iSlt 0 (by decide) mk_FB_119 rfl rfl md_FB_deliver_106 ?_
  refine lv_aload_n Z.1 Z.2.1 md_FB_deliver_109 rfl (lv_at hl 1 rfl) ?_
  refine xb_get (v := .int (M2 (6, 0) 4)) Z hw (fb_in6 n) (fb_e6 n ad cI cZ cS cA) rfl tb_iMsg 4 (by decide) mk_FB_88 rfl rfl md_FB_deliver_110 ?_
  refine xi_re (show M2 (6, 0) 4 = nI (a) from (by rw [ht.2.2.2.2.2.1]; exact congrArg nI h4)) ?_
  refine xw_aald (a := ad (15, 5 * s + a)) Z hw (fb_in8 n hs) (fb_e8 n ad cI cZ cS cA (s) (M2 (8, s))) 3 rfl (a) rfl ha (by omega) rfl md_FB_deliver_113 ?_
  refine lv_aload_n Z.1 Z.2.1 md_FB_deliver_114 rfl (lv_at hl 1 rfl) ?_
  obtain ⟨m1, m2⟩ : 1 ≤ g 2 ∧ g 2 ≤ 12 := by rcases hms with ⟨a, _⟩ | ⟨_, x, y, _⟩ | ⟨a, _⟩ | ⟨a, _⟩ | ⟨a, _⟩ <;> omega
  refine xw_cV (n := 1) (rest := []) Z hml hl.1 hN hw (k_Ahear2 (S := pz_rm S j) l D ad cI cZ cS cA hn hq5 hf5 ht.1 (show (pz_rm S j).1.length ≤ 60 from (pz_rm_Inv I).1) IV hs ha ht.2 hk m1 m2) tb_g mc_Acc_hear mk_FB_122 mi_Acc_hear ms_Acc_hear mz_Acc ⟨by decide, by decide, by decide +kernel⟩ ⟨Nat.le_of_ble_eq_true rfl, Nat.le_of_ble_eq_true rfl⟩ (fb_in15 hn hs ha) (fb_e15 n ad cI cZ cS cA (5 * s + a) _) rfl rfl rfl rfl (Nat.le_of_ble_eq_true rfl) ⟨Nat.le_refl _, Nat.le_refl _⟩ md_FB_deliver_115 (fun M4 H4 locs4 h9 hw => ?_)
  refine W.eq (g2 := F0 m 118 ls []) rfl ?_
  refine lv_aload_n Z.1 Z.2.1 md_FB_deliver_118 rfl (lv_at hl 1 rfl) ?_
  refine xb_get (v := .int (M4 (6, 0) 0)) Z hw (fb_in6 n) (fb_e6 n ad cI cZ cS cA) rfl tb_iMsg 0 (by decide) mk_FB_91 rfl rfl md_FB_deliver_119 ?_
  refine xi_re (show M4 (6, 0) 0 = nI (g 0) from (by rw [h9.2]; exact ht.2.1)) ?_
  refine xw_iret Z hr hlk hw md_FB_deliver_122 rfl ⟨pz_deliver_Inv Q I hg, ?_⟩
  unfold pz_hear
  rw [h4, if_neg (fun y => y hh), if_pos (by omega), hs1]
  exact fr_fin2 h9.1 (fun s' c' hs' _ => pz_accept_9 hs')
set_option maxHeartbeats 4000000 in
theorem k_deliver_A4 (l : Launch) (D : va_G) {n : Nat} (ad : Nat × Nat → Nat) (cI cZ cS cA : ClassId) {M : fr_M} {q f : Nat} {S : pz_T} (hn : n ≤ 5) (hq5 : q ≤ 5) (hf5 : f ≤ 5) (Q : pz_Q n q f) (hI : fr_I n q f S M) {j s : Nat} {g : pz_M} (hg : S.1[j]? = some g) (hs1 : g 1 = s) {a : Nat} (ha : a < n) (h4 : g 4 = a) (hh : S.2 3 14 a 0 = 0) (hk : g 0 = 4) : fb_C l D n ad cI cZ cS cA my_FB_deliver mb_FB_deliver 4 (some .int) 6 135 M [.ref (ad (0, 0)), .int (nI (j))] (some (.int (nI (g 0)))) (fr_I n q f (pz_hear n q f (pz_rm S j) g)) := by
  have h := hI.2
  have I := hI.1
  have h60 := I.1
  have hj : j < S.1.length := (List.getElem?_eq_some_iff.mp hg).1
  obtain ⟨hs0, hms⟩ := I.2.2.1 g (List.mem_of_getElem? hg)
  have hs : s < 3 := by omega
  rw [hs1] at hms
  have IV := I.2.1 s hs
  have cl := pz_ci_lt (g 2)
  refine xw_start [.ref (ad (0, 0)), .int (nI (j))] (by decide) (Nat.le_of_ble_eq_true rfl) ?_
  intro p e st m below meth cd0 ls Z hml hr hlk hN hl hw
  have hl : lv_has ls 4 [(0, .ref (ad (0, 0))), (1, .int (nI (j)))] := hl
  refine lv_aload_n Z.1 Z.2.1 md_FB_deliver_0 rfl (lv_at hl 0 rfl) ?_
  refine xb_get (v := .ref (ad (2, 0))) Z hw (fb_in0 n) (fb_e0 n ad cI cZ cS cA) rfl tb_iFB 1 (by decide) mk_FB_21 rfl rfl md_FB_deliver_1 ?_
  refine lv_iload_n Z.1 Z.2.1 md_FB_deliver_4 rfl (lv_at hl 1 rfl) ?_
  refine xw_cV (n := 1) (rest := []) Z hml hl.1 hN hw (k_has1 l D ad cI cZ cS cA (M := M) h.2.1 h60 hj) tb_g mc_Mail_has mk_FB_76 mi_Mail_has ms_Mail_has mz_Mail ⟨by decide, by decide, by decide +kernel⟩ ⟨Nat.le_of_ble_eq_true rfl, Nat.le_of_ble_eq_true rfl⟩ (fb_in2 n) (fb_e2 n ad cI cZ cS cA _) rfl rfl rfl rfl (Nat.le_of_ble_eq_true rfl) ⟨Nat.le_refl _, Nat.le_refl _⟩ md_FB_deliver_5 (fun M1 H1 locs1 e1 hw => ?_)
  have ey1 := e1.symm
  subst ey1
  refine W.eq (g2 := F0 m 8 ls [.int (nI (1))]) rfl ?_
  refine xi_if_ne (tgt := 13) Z md_FB_deliver_8 (by decide) (by omega) (fun h8 => ?_) (fun h8 => by exfalso; omega)
  refine lv_aload_n Z.1 Z.2.1 md_FB_deliver_13 rfl (lv_at hl 0 rfl) ?_
  refine xb_get (v := .ref (ad (2, 0))) Z hw (fb_in0 n) (fb_e0 n ad cI cZ cS cA) rfl tb_iFB 1 (by decide) mk_FB_21 rfl rfl md_FB_deliver_14 ?_
  refine lv_iload_n Z.1 Z.2.1 md_FB_deliver_17 rfl (lv_at hl 1 rfl) ?_
  refine xw_cV (n := 1) (rest := []) Z hml hl.1 hN hw (k_take l D ad cI cZ cS cA h h60 hg) tb_g mc_Mail_take mk_FB_79 mi_Mail_take ms_Mail_take mz_Mail ⟨by decide, by decide, by decide +kernel⟩ ⟨Nat.le_of_ble_eq_true rfl, Nat.le_of_ble_eq_true rfl⟩ (fb_in2 n) (fb_e2 n ad cI cZ cS cA _) rfl rfl rfl rfl (Nat.le_of_ble_eq_true rfl) ⟨Nat.le_refl _, Nat.le_refl _⟩ md_FB_deliver_18 (fun M2 H2 locs2 ht hw => ?_)
  refine W.eq (g2 := F0 m 21 ls [.ref (ad (6, 0))]) rfl ?_
  refine lv_astore_n Z.1 Z.2.1 md_FB_deliver_21 rfl hl (by decide) rfl (fun ls hl => ?_)
  have hl : lv_has ls 4 [(2, .ref (ad (6, 0))), (0, .ref (ad (0, 0))), (1, .int (nI (j)))] := hl
  refine lv_aload_n Z.1 Z.2.1 md_FB_deliver_22 rfl (lv_at hl 1 rfl) ?_
  refine xb_get (v := .ref (ad (3, 0))) Z hw (fb_in0 n) (fb_e0 n ad cI cZ cS cA) rfl tb_iFB 2 (by decide) mk_FB_31 rfl rfl md_FB_deliver_23 ?_
  refine lv_aload_n Z.1 Z.2.1 md_FB_deliver_26 rfl (lv_at hl 0 rfl) ?_
  refine xb_get (v := .int (M2 (6, 0) 1)) Z hw (fb_in6 n) (fb_e6 n ad cI cZ cS cA) rfl tb_iMsg 1 (by decide) mk_FB_83 rfl rfl md_FB_deliver_27 ?_
  refine xi_re (show M2 (6, 0) 1 = nI (s) from (by rw [ht.2.2.1]; exact congrArg nI hs1)) ?_
  refine xw_aald (a := ad (7, s)) Z hw (fb_in3 n) (fb_e3 n ad cI cZ cS cA (M2 (3, 0))) 2 rfl (s) rfl hs (by omega) rfl md_FB_deliver_30 ?_
  refine lv_astore_n Z.1 Z.2.1 md_FB_deliver_31 rfl hl (by decide) rfl (fun ls hl => ?_)
  have hl : lv_has ls 4 [(3, .ref (ad (7, s))), (2, .ref (ad (6, 0))), (0, .ref (ad (0, 0))), (1, .int (nI (j)))] := hl
  refine lv_aload_n Z.1 Z.2.1 md_FB_deliver_32 rfl (lv_at hl 2 rfl) ?_
  refine xb_get (v := .ref (ad (4, 0))) Z hw (fb_in0 n) (fb_e0 n ad cI cZ cS cA) rfl tb_iFB 3 (by decide) mk_FB_25 rfl rfl md_FB_deliver_33 ?_
  refine lv_aload_n Z.1 Z.2.1 md_FB_deliver_36 rfl (lv_at hl 1 rfl) ?_
  refine xb_get (v := .int (M2 (6, 0) 4)) Z hw (fb_in6 n) (fb_e6 n ad cI cZ cS cA) rfl tb_iMsg 4 (by decide) mk_FB_88 rfl rfl md_FB_deliver_37 ?_
  refine xi_re (show M2 (6, 0) 4 = nI (a) from (by rw [ht.2.2.2.2.2.1]; exact congrArg nI h4)) ?_
  refine xw_zald Z hw (fb_in4 n) (fb_e4 n ad cI cZ cS cA) 1 rfl (a) rfl (by omega) (by omega) md_FB_deliver_40 ?_
  refine xi_re (show M2 (4, 0) (a) = nI (S.2 3 14 (a) 0) from ht.1.2.2.1 (a) (by omega)) ?_
  have l14 := I.2.2.2 (a)
  refine xi_if_eq (tgt := 49) Z md_FB_deliver_41 (by decide) (by omega) (fun h41 => ?_) (fun h41 => by exfalso; omega)
  refine lv_aload_n Z.1 Z.2.1 md_FB_deliver_49 rfl (lv_at hl 1 rfl) ?_
  refine xb_get (v := .int (M2 (6, 0) 4)) Z hw (fb_in6 n) (fb_e6 n ad cI cZ cS cA) rfl tb_iMsg 4 (by decide) mk_FB_88 rfl rfl md_FB_deliver_50 ?_
  refine xi_re (show M2 (6, 0) 4 = nI (a) from (by rw [ht.2.2.2.2.2.1]; exact congrArg nI h4)) ?_
  refine lv_bipush (v := nI 10) Z.1 Z.2.1 md_FB_deliver_53 (by decide) ?_
  refine xi_icmp_ne (tgt := 80) Z md_FB_deliver_55 (by decide) (by omega) (by omega) (fun h55 => ?_) (fun h55 => by exfalso; omega)
  refine lv_aload_n Z.1 Z.2.1 md_FB_deliver_80 rfl (lv_at hl 1 rfl) ?_
  refine xb_get (v := .int (M2 (6, 0) 4)) Z hw (fb_in6 n) (fb_e6 n ad cI cZ cS cA) rfl tb_iMsg 4 (by decide) mk_FB_88 rfl rfl md_FB_deliver_81 ?_
  refine xi_re (show M2 (6, 0) 4 = nI (a) from (by rw [ht.2.2.2.2.2.1]; exact congrArg nI h4)) ?_
  refine xw_cS (n := 1) (rest := []) Z hml hl.1 hN hw (k_isCoordinator0 l D ad cI cZ cS cA (M := M2) (fun y => by have := (nI_eq (by omega) (by decide)).mp y; omega) (fun y => by have := (nI_eq (by omega) (by decide)).mp y; omega)) tb_g mc_FB_isCoordinator mk_FB_112 mt_FB_isCoordinator mz_FB ⟨by decide, by decide, by decide +kernel⟩ ⟨Nat.le_of_ble_eq_true rfl, Nat.le_of_ble_eq_true rfl⟩ rfl rfl (Nat.le_of_ble_eq_true rfl) ⟨Nat.le_refl _, Nat.le_refl _⟩ md_FB_deliver_84 (fun M3 H3 locs3 e3 hw => ?_)
  have ey3 := e3.symm
  subst ey3
  refine W.eq (g2 := F0 m 87 ls [.int (nI (0))]) rfl ?_
  refine xi_if_eq (tgt := 105) Z md_FB_deliver_87 (by decide) (by omega) (fun h87 => ?_) (fun h87 => by exfalso; omega)
  refine lv_aload_n Z.1 Z.2.1 md_FB_deliver_105 rfl (lv_at hl 0 rfl) ?_
  refine xb_get (v := .ref (ad (8, s))) Z hw (fb_in7 n hs) (fb_e7 n ad cI cZ cS cA (s)) rfl tb_iSlt 0 (by decide) mk_FB_119 rfl rfl md_FB_deliver_106 ?_
  refine lv_aload_n Z.1 Z.2.1 md_FB_deliver_109 rfl (lv_at hl 1 rfl) ?_
  refine xb_get (v := .int (M2 (6, 0) 4)) Z hw (fb_in6 n) (fb_e6 n ad cI cZ cS cA) rfl tb_iMsg 4 (by decide) mk_FB_88 rfl rfl md_FB_deliver_110 ?_
  refine xi_re (show M2 (6, 0) 4 = nI (a) from (by rw [ht.2.2.2.2.2.1]; exact congrArg nI h4)) ?_
  refine xw_aald (a := ad (15, 5 * s + a)) Z hw (fb_in8 n hs) (fb_e8 n ad cI cZ cS cA (s) (M2 (8, s))) 3 rfl (a) rfl ha (by omega) rfl md_FB_deliver_113 ?_
  refine lv_aload_n Z.1 Z.2.1 md_FB_deliver_114 rfl (lv_at hl 1 rfl) ?_
  obtain ⟨m1, m2, mv⟩ : 1 ≤ g 2 ∧ g 2 ≤ 12 ∧ g 5 ≤ 1000 := by rcases hms with ⟨a, _⟩ | ⟨a, _⟩ | ⟨a, _⟩ | ⟨_, x, y, _, z, _⟩ | ⟨a, _⟩ <;> omega
  refine xw_cV (n := 1) (rest := []) Z hml hl.1 hN hw (k_Ahear4 (S := pz_rm S j) l D ad cI cZ cS cA hn hq5 hf5 ht.1 (show (pz_rm S j).1.length ≤ 60 from (pz_rm_Inv I).1) IV hs ha ht.2 hk m1 m2 (by omega)) tb_g mc_Acc_hear mk_FB_122 mi_Acc_hear ms_Acc_hear mz_Acc ⟨by decide, by decide, by decide +kernel⟩ ⟨Nat.le_of_ble_eq_true rfl, Nat.le_of_ble_eq_true rfl⟩ (fb_in15 hn hs ha) (fb_e15 n ad cI cZ cS cA (5 * s + a) _) rfl rfl rfl rfl (Nat.le_of_ble_eq_true rfl) ⟨Nat.le_refl _, Nat.le_refl _⟩ md_FB_deliver_115 (fun M4 H4 locs4 h9 hw => ?_)
  refine W.eq (g2 := F0 m 118 ls []) rfl ?_
  refine lv_aload_n Z.1 Z.2.1 md_FB_deliver_118 rfl (lv_at hl 1 rfl) ?_
  refine xb_get (v := .int (M4 (6, 0) 0)) Z hw (fb_in6 n) (fb_e6 n ad cI cZ cS cA) rfl tb_iMsg 0 (by decide) mk_FB_91 rfl rfl md_FB_deliver_119 ?_
  refine xi_re (show M4 (6, 0) 0 = nI (g 0) from (by rw [h9.2]; exact ht.2.1)) ?_
  refine xw_iret Z hr hlk hw md_FB_deliver_122 rfl ⟨pz_deliver_Inv Q I hg, ?_⟩
  unfold pz_hear
  rw [h4, if_neg (fun y => y hh), if_pos (by omega), hs1]
  exact fr_fin2 h9.1 (fun s' c' hs' _ => pz_accept_9 hs')
/-- a message is delivered -/
theorem k_deliver (l : Launch) (D : va_G) {n : Nat} (ad : Nat × Nat → Nat) (cI cZ cS cA : ClassId) {M : fr_M} {q f : Nat} {S : pz_T} (hn : n ≤ 5) (hq5 : q ≤ 5) (hf5 : f ≤ 5) (Q : pz_Q n q f) (hI : fr_I n q f S M) {j : Nat} {g : pz_M} (hg : S.1[j]? = some g) : fb_C l D n ad cI cZ cS cA my_FB_deliver mb_FB_deliver 4 (some .int) 6 135 M [.ref (ad (0, 0)), .int (nI j)] (some (.int (nI (g 0)))) (fr_I n q f (pz_hear n q f (pz_rm S j) g)) := by
  obtain ⟨hs0, hms⟩ := hI.1.2.2.1 g (List.mem_of_getElem? hg)
  have cl := pz_ci_lt (g 2)
  have q2 := Q.2.1
  by_cases hh : S.2 3 14 (g 4) 0 = 0
  · rcases hms with ⟨k, _, z | z | z, _⟩ | ⟨k, _, _, z, _⟩ | ⟨k, _, _, _, z, _⟩ | ⟨k, _, _, z, _⟩ | ⟨k, _, _, _, z | z, _⟩
    · exact k_deliver_A1 l D ad cI cZ cS cA hn hq5 hf5 Q hI hg rfl z rfl hh k
    · exact k_deliver_C1 l D ad cI cZ cS cA hn hq5 hf5 Q hI hg rfl (c := 0) (by decide) z (by rw [z] at hh; exact hh) k
    · exact k_deliver_C1 l D ad cI cZ cS cA hn hq5 hf5 Q hI hg rfl (c := 1) (by decide) z (by rw [z] at hh; exact hh) k
    · exact k_deliver_A2 l D ad cI cZ cS cA hn hq5 hf5 Q hI hg rfl z rfl hh k
    · exact k_deliver_C3 l D ad cI cZ cS cA hn hq5 hf5 Q hI hg rfl cl z (by rw [z] at hh; exact hh) k
    · exact k_deliver_A4 l D ad cI cZ cS cA hn hq5 hf5 Q hI hg rfl z rfl hh k
    · exact k_deliver_C5 l D ad cI cZ cS cA hn hq5 hf5 Q hI hg rfl cl z (by rw [z] at hh; exact hh) k
    · exact k_deliver_L l D ad cI cZ cS cA hn hq5 hf5 Q hI hg rfl z (by rw [z] at hh; exact hh) k
  · refine k_deliver_h l D ad cI cZ cS cA hn hq5 hf5 Q hI hg rfl rfl ?_ hh
    rcases hms with ⟨k, _, z | z | z, _⟩ | ⟨k, _, _, z, _⟩ | ⟨k, _, _, _, z, _⟩ | ⟨k, _, _, z, _⟩ | ⟨k, _, _, _, z | z, _⟩ <;> omega
set_option maxHeartbeats 4000000 in
theorem k_deliver_b (l : Launch) (D : va_G) {n : Nat} (ad : Nat × Nat → Nat) (cI cZ cS cA : ClassId) {M : fr_M} {q f : Nat} {S : pz_T} (hn : n ≤ 5) (hI : fr_I n q f S M) {x : Int32} (hx : x < 0 ∨ nI S.1.length ≤ x) : fb_C l D n ad cI cZ cS cA my_FB_deliver mb_FB_deliver 4 (some .int) 1 21 M [.ref (ad (0, 0)), .int (x)] (some (.int (-1))) (fun M' => M' = M) := by
  have h := hI.2
  have I := hI.1
  have h60 := I.1
  refine xw_start [.ref (ad (0, 0)), .int (x)] (by decide) (Nat.le_of_ble_eq_true rfl) ?_
  intro p e st m below meth cd0 ls Z hml hr hlk hN hl hw
  have hl : lv_has ls 4 [(0, .ref (ad (0, 0))), (1, .int (x))] := hl
  refine lv_aload_n Z.1 Z.2.1 md_FB_deliver_0 rfl (lv_at hl 0 rfl) ?_
  refine xb_get (v := .ref (ad (2, 0))) Z hw (fb_in0 n) (fb_e0 n ad cI cZ cS cA) rfl tb_iFB 1 (by decide) mk_FB_21 rfl rfl md_FB_deliver_1 ?_
  refine lv_iload_n Z.1 Z.2.1 md_FB_deliver_4 rfl (lv_at hl 1 rfl) ?_
  refine xw_cV (n := 1) (rest := []) Z hml hl.1 hN hw (k_has0 l D ad cI cZ cS cA (M := M) h.2.1 hx) tb_g mc_Mail_has mk_FB_76 mi_Mail_has ms_Mail_has mz_Mail ⟨by decide, by decide, by decide +kernel⟩ ⟨Nat.le_of_ble_eq_true rfl, Nat.le_of_ble_eq_true rfl⟩ (fb_in2 n) (fb_e2 n ad cI cZ cS cA _) rfl rfl rfl rfl (Nat.le_of_ble_eq_true rfl) ⟨Nat.le_refl _, Nat.le_refl _⟩ md_FB_deliver_5 (fun M1 H1 locs1 e1 hw => ?_)
  have ey1 := e1.symm
  subst ey1
  refine W.eq (g2 := F0 m 8 ls [.int (nI (0))]) rfl ?_
  refine xi_if_ne (tgt := 13) Z md_FB_deliver_8 (by decide) (by omega) (fun h8 => by exfalso; omega) (fun h8 => ?_)
  refine lv_iconst (v := -1) Z.1 Z.2.1 md_FB_deliver_11 (by decide) ?_
  exact xw_iret Z hr hlk hw md_FB_deliver_12 rfl rfl
