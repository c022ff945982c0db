/-! The reference's small methods. -/
theorem md_Mod_isSlot_0 : decode mb_Mod_isSlot 0 = .ok (.iload_n 0, 1) := by decide +kernel
theorem md_Mod_isSlot_1 : decode mb_Mod_isSlot 1 = .ok (.ifCond .lt 12, 3) := by decide +kernel
theorem md_Mod_isSlot_4 : decode mb_Mod_isSlot 4 = .ok (.iload_n 0, 1) := by decide +kernel
theorem md_Mod_isSlot_5 : decode mb_Mod_isSlot 5 = .ok (.iconst 3, 1) := by decide +kernel
theorem md_Mod_isSlot_6 : decode mb_Mod_isSlot 6 = .ok (.if_icmp .ge 7, 3) := by decide +kernel
theorem md_Mod_isSlot_9 : decode mb_Mod_isSlot 9 = .ok (.iconst 1, 1) := by decide +kernel
theorem md_Mod_isSlot_10 : decode mb_Mod_isSlot 10 = .ok (.goto 4, 3) := by decide +kernel
theorem md_Mod_isSlot_13 : decode mb_Mod_isSlot 13 = .ok (.iconst 0, 1) := by decide +kernel
theorem md_Mod_isSlot_14 : decode mb_Mod_isSlot 14 = .ok (.ireturn, 1) := by decide +kernel
theorem md_Mod_isRound_0 : decode mb_Mod_isRound 0 = .ok (.iload_n 0, 1) := by decide +kernel
theorem md_Mod_isRound_1 : decode mb_Mod_isRound 1 = .ok (.iconst 1, 1) := by decide +kernel
theorem md_Mod_isRound_2 : decode mb_Mod_isRound 2 = .ok (.if_icmp .lt 13, 3) := by decide +kernel
theorem md_Mod_isRound_5 : decode mb_Mod_isRound 5 = .ok (.iload_n 0, 1) := by decide +kernel
theorem md_Mod_isRound_6 : decode mb_Mod_isRound 6 = .ok (.bipush 12, 2) := by decide +kernel
theorem md_Mod_isRound_8 : decode mb_Mod_isRound 8 = .ok (.if_icmp .gt 7, 3) := by decide +kernel
theorem md_Mod_isRound_11 : decode mb_Mod_isRound 11 = .ok (.iconst 1, 1) := by decide +kernel
theorem md_Mod_isRound_12 : decode mb_Mod_isRound 12 = .ok (.goto 4, 3) := by decide +kernel
theorem md_Mod_isRound_15 : decode mb_Mod_isRound 15 = .ok (.iconst 0, 1) := by decide +kernel
theorem md_Mod_isRound_16 : decode mb_Mod_isRound 16 = .ok (.ireturn, 1) := by decide +kernel
theorem md_Mod_isValue_0 : decode mb_Mod_isValue 0 = .ok (.iload_n 0, 1) := by decide +kernel
theorem md_Mod_isValue_1 : decode mb_Mod_isValue 1 = .ok (.iconst 1, 1) := by decide +kernel
theorem md_Mod_isValue_2 : decode mb_Mod_isValue 2 = .ok (.if_icmp .lt 14, 3) := by decide +kernel
theorem md_Mod_isValue_5 : decode mb_Mod_isValue 5 = .ok (.iload_n 0, 1) := by decide +kernel
theorem md_Mod_isValue_6 : decode mb_Mod_isValue 6 = .ok (.sipush 1000, 3) := by decide +kernel
theorem md_Mod_isValue_9 : decode mb_Mod_isValue 9 = .ok (.if_icmp .gt 7, 3) := by decide +kernel
theorem md_Mod_isValue_12 : decode mb_Mod_isValue 12 = .ok (.iconst 1, 1) := by decide +kernel
theorem md_Mod_isValue_13 : decode mb_Mod_isValue 13 = .ok (.goto 4, 3) := by decide +kernel
theorem md_Mod_isValue_16 : decode mb_Mod_isValue 16 = .ok (.iconst 0, 1) := by decide +kernel
theorem md_Mod_isValue_17 : decode mb_Mod_isValue 17 = .ok (.ireturn, 1) := by decide +kernel
theorem md_Mod_isFast_0 : decode mb_Mod_isFast 0 = .ok (.iload_n 0, 1) := by decide +kernel
theorem md_Mod_isFast_1 : decode mb_Mod_isFast 1 = .ok (.iconst 2, 1) := by decide +kernel
theorem md_Mod_isFast_2 : decode mb_Mod_isFast 2 = .ok (.irem, 1) := by decide +kernel
theorem md_Mod_isFast_3 : decode mb_Mod_isFast 3 = .ok (.iconst 1, 1) := by decide +kernel
theorem md_Mod_isFast_4 : decode mb_Mod_isFast 4 = .ok (.if_icmp .ne 7, 3) := by decide +kernel
theorem md_Mod_isFast_7 : decode mb_Mod_isFast 7 = .ok (.iconst 1, 1) := by decide +kernel
theorem md_Mod_isFast_8 : decode mb_Mod_isFast 8 = .ok (.goto 4, 3) := by decide +kernel
theorem md_Mod_isFast_11 : decode mb_Mod_isFast 11 = .ok (.iconst 0, 1) := by decide +kernel
theorem md_Mod_isFast_12 : decode mb_Mod_isFast 12 = .ok (.ireturn, 1) := by decide +kernel
theorem md_Mod_coordinatorOf_0 : decode mb_Mod_coordinatorOf 0 = .ok (.iload_n 0, 1) := by decide +kernel
theorem md_Mod_coordinatorOf_1 : decode mb_Mod_coordinatorOf 1 = .ok (.iconst 1, 1) := by decide +kernel
theorem md_Mod_coordinatorOf_2 : decode mb_Mod_coordinatorOf 2 = .ok (.iadd, 1) := by decide +kernel
theorem md_Mod_coordinatorOf_3 : decode mb_Mod_coordinatorOf 3 = .ok (.iconst 2, 1) := by decide +kernel
theorem md_Mod_coordinatorOf_4 : decode mb_Mod_coordinatorOf 4 = .ok (.idiv, 1) := by decide +kernel
theorem md_Mod_coordinatorOf_5 : decode mb_Mod_coordinatorOf 5 = .ok (.iconst 2, 1) := by decide +kernel
theorem md_Mod_coordinatorOf_6 : decode mb_Mod_coordinatorOf 6 = .ok (.irem, 1) := by decide +kernel
theorem md_Mod_coordinatorOf_7 : decode mb_Mod_coordinatorOf 7 = .ok (.iconst 1, 1) := by decide +kernel
theorem md_Mod_coordinatorOf_8 : decode mb_Mod_coordinatorOf 8 = .ok (.if_icmp .ne 8, 3) := by decide +kernel
theorem md_Mod_coordinatorOf_11 : decode mb_Mod_coordinatorOf 11 = .ok (.bipush 8, 2) := by decide +kernel
theorem md_Mod_coordinatorOf_13 : decode mb_Mod_coordinatorOf 13 = .ok (.goto 5, 3) := by decide +kernel
theorem md_Mod_coordinatorOf_16 : decode mb_Mod_coordinatorOf 16 = .ok (.bipush 9, 2) := by decide +kernel
theorem md_Mod_coordinatorOf_18 : decode mb_Mod_coordinatorOf 18 = .ok (.ireturn, 1) := by decide +kernel
theorem md_Mod_isCoordinator_0 : decode mb_Mod_isCoordinator 0 = .ok (.iload_n 0, 1) := by decide +kernel
theorem md_Mod_isCoordinator_1 : decode mb_Mod_isCoordinator 1 = .ok (.bipush 8, 2) := by decide +kernel
theorem md_Mod_isCoordinator_3 : decode mb_Mod_isCoordinator 3 = .ok (.if_icmp .eq 9, 3) := by decide +kernel
theorem md_Mod_isCoordinator_6 : decode mb_Mod_isCoordinator 6 = .ok (.iload_n 0, 1) := by decide +kernel
theorem md_Mod_isCoordinator_7 : decode mb_Mod_isCoordinator 7 = .ok (.bipush 9, 2) := by decide +kernel
theorem md_Mod_isCoordinator_9 : decode mb_Mod_isCoordinator 9 = .ok (.if_icmp .ne 7, 3) := by decide +kernel
theorem md_Mod_isCoordinator_12 : decode mb_Mod_isCoordinator 12 = .ok (.iconst 1, 1) := by decide +kernel
theorem md_Mod_isCoordinator_13 : decode mb_Mod_isCoordinator 13 = .ok (.goto 4, 3) := by decide +kernel
theorem md_Mod_isCoordinator_16 : decode mb_Mod_isCoordinator 16 = .ok (.iconst 0, 1) := by decide +kernel
theorem md_Mod_isCoordinator_17 : decode mb_Mod_isCoordinator 17 = .ok (.ireturn, 1) := by decide +kernel
theorem md_Mod_isAcceptor_0 : decode mb_Mod_isAcceptor 0 = .ok (.iload_n 1, 1) := by decide +kernel
theorem md_Mod_isAcceptor_1 : decode mb_Mod_isAcceptor 1 = .ok (.ifCond .lt 15, 3) := by decide +kernel
theorem md_Mod_isAcceptor_4 : decode mb_Mod_isAcceptor 4 = .ok (.iload_n 1, 1) := by decide +kernel
theorem md_Mod_isAcceptor_5 : decode mb_Mod_isAcceptor 5 = .ok (.aload_n 0, 1) := by decide +kernel
theorem md_Mod_isAcceptor_6 : decode mb_Mod_isAcceptor 6 = .ok (.getfield 77, 3) := by decide +kernel
theorem md_Mod_isAcceptor_9 : decode mb_Mod_isAcceptor 9 = .ok (.if_icmp .ge 7, 3) := by decide +kernel
theorem md_Mod_isAcceptor_12 : decode mb_Mod_isAcceptor 12 = .ok (.iconst 1, 1) := by decide +kernel
theorem md_Mod_isAcceptor_13 : decode mb_Mod_isAcceptor 13 = .ok (.goto 4, 3) := by decide +kernel
theorem md_Mod_isAcceptor_16 : decode mb_Mod_isAcceptor 16 = .ok (.iconst 0, 1) := by decide +kernel
theorem md_Mod_isAcceptor_17 : decode mb_Mod_isAcceptor 17 = .ok (.ireturn, 1) := by decide +kernel
theorem md_Mod_isMessage_0 : decode mb_Mod_isMessage 0 = .ok (.iload_n 1, 1) := by decide +kernel
theorem md_Mod_isMessage_1 : decode mb_Mod_isMessage 1 = .ok (.ifCond .lt 15, 3) := by decide +kernel
theorem md_Mod_isMessage_4 : decode mb_Mod_isMessage 4 = .ok (.iload_n 1, 1) := by decide +kernel
theorem md_Mod_isMessage_5 : decode mb_Mod_isMessage 5 = .ok (.aload_n 0, 1) := by decide +kernel
theorem md_Mod_isMessage_6 : decode mb_Mod_isMessage 6 = .ok (.getfield 91, 3) := by decide +kernel
theorem md_Mod_isMessage_9 : decode mb_Mod_isMessage 9 = .ok (.if_icmp .ge 7, 3) := by decide +kernel
theorem md_Mod_isMessage_12 : decode mb_Mod_isMessage 12 = .ok (.iconst 1, 1) := by decide +kernel
theorem md_Mod_isMessage_13 : decode mb_Mod_isMessage 13 = .ok (.goto 4, 3) := by decide +kernel
theorem md_Mod_isMessage_16 : decode mb_Mod_isMessage 16 = .ok (.iconst 0, 1) := by decide +kernel
theorem md_Mod_isMessage_17 : decode mb_Mod_isMessage 17 = .ok (.ireturn, 1) := by decide +kernel
theorem md_Mod_enough_0 : decode mb_Mod_enough 0 = .ok (.iload_n 1, 1) := by decide +kernel
theorem md_Mod_enough_1 : decode mb_Mod_enough 1 = .ok (.invokestatic 87, 3) := by decide +kernel
theorem md_Mod_enough_4 : decode mb_Mod_enough 4 = .ok (.ifCond .eq 10, 3) := by decide +kernel
theorem md_Mod_enough_7 : decode mb_Mod_enough 7 = .ok (.aload_n 0, 1) := by decide +kernel
theorem md_Mod_enough_8 : decode mb_Mod_enough 8 = .ok (.getfield 84, 3) := by decide +kernel
theorem md_Mod_enough_11 : decode mb_Mod_enough 11 = .ok (.goto 7, 3) := by decide +kernel
theorem md_Mod_enough_14 : decode mb_Mod_enough 14 = .ok (.aload_n 0, 1) := by decide +kernel
theorem md_Mod_enough_15 : decode mb_Mod_enough 15 = .ok (.getfield 81, 3) := by decide +kernel
theorem md_Mod_enough_18 : decode mb_Mod_enough 18 = .ok (.ireturn, 1) := by decide +kernel
theorem md_Mod_send_0 : decode mb_Mod_send 0 = .ok (.aload_n 0, 1) := by decide +kernel
theorem md_Mod_send_1 : decode mb_Mod_send 1 = .ok (.getfield 91, 3) := by decide +kernel
theorem md_Mod_send_4 : decode mb_Mod_send 4 = .ok (.bipush 60, 2) := by decide +kernel
theorem md_Mod_send_6 : decode mb_Mod_send 6 = .ok (.if_icmp .ne 14, 3) := by decide +kernel
theorem md_Mod_send_9 : decode mb_Mod_send 9 = .ok (.aload_n 0, 1) := by decide +kernel
theorem md_Mod_send_10 : decode mb_Mod_send 10 = .ok (.dup, 1) := by decide +kernel
theorem md_Mod_send_11 : decode mb_Mod_send 11 = .ok (.getfield 94, 3) := by decide +kernel
theorem md_Mod_send_14 : decode mb_Mod_send 14 = .ok (.iconst 1, 1) := by decide +kernel
theorem md_Mod_send_15 : decode mb_Mod_send 15 = .ok (.iadd, 1) := by decide +kernel
theorem md_Mod_send_16 : decode mb_Mod_send 16 = .ok (.putfield 94, 3) := by decide +kernel
theorem md_Mod_send_19 : decode mb_Mod_send 19 = .ok (.return_, 1) := by decide +kernel
theorem md_Mod_send_20 : decode mb_Mod_send 20 = .ok (.aload_n 0, 1) := by decide +kernel
theorem md_Mod_send_21 : decode mb_Mod_send 21 = .ok (.getfield 13, 3) := by decide +kernel
theorem md_Mod_send_24 : decode mb_Mod_send 24 = .ok (.aload_n 0, 1) := by decide +kernel
theorem md_Mod_send_25 : decode mb_Mod_send 25 = .ok (.getfield 91, 3) := by decide +kernel
theorem md_Mod_send_28 : decode mb_Mod_send 28 = .ok (.iload_n 1, 1) := by decide +kernel
theorem md_Mod_send_29 : decode mb_Mod_send 29 = .ok (.iastore, 1) := by decide +kernel
theorem md_Mod_send_30 : decode mb_Mod_send 30 = .ok (.aload_n 0, 1) := by decide +kernel
theorem md_Mod_send_31 : decode mb_Mod_send 31 = .ok (.getfield 17, 3) := by decide +kernel
theorem md_Mod_send_34 : decode mb_Mod_send 34 = .ok (.aload_n 0, 1) := by decide +kernel
theorem md_Mod_send_35 : decode mb_Mod_send 35 = .ok (.getfield 91, 3) := by decide +kernel
theorem md_Mod_send_38 : decode mb_Mod_send 38 = .ok (.iload_n 2, 1) := by decide +kernel
theorem md_Mod_send_39 : decode mb_Mod_send 39 = .ok (.iastore, 1) := by decide +kernel
theorem md_Mod_send_40 : decode mb_Mod_send 40 = .ok (.aload_n 0, 1) := by decide +kernel
theorem md_Mod_send_41 : decode mb_Mod_send 41 = .ok (.getfield 20, 3) := by decide +kernel
theorem md_Mod_send_44 : decode mb_Mod_send 44 = .ok (.aload_n 0, 1) := by decide +kernel
theorem md_Mod_send_45 : decode mb_Mod_send 45 = .ok (.getfield 91, 3) := by decide +kernel
theorem md_Mod_send_48 : decode mb_Mod_send 48 = .ok (.iload_n 3, 1) := by decide +kernel
theorem md_Mod_send_49 : decode mb_Mod_send 49 = .ok (.iastore, 1) := by decide +kernel
theorem md_Mod_send_50 : decode mb_Mod_send 50 = .ok (.aload_n 0, 1) := by decide +kernel
theorem md_Mod_send_51 : decode mb_Mod_send 51 = .ok (.getfield 26, 3) := by decide +kernel
theorem md_Mod_send_54 : decode mb_Mod_send 54 = .ok (.aload_n 0, 1) := by decide +kernel
theorem md_Mod_send_55 : decode mb_Mod_send 55 = .ok (.getfield 91, 3) := by decide +kernel
theorem md_Mod_send_58 : decode mb_Mod_send 58 = .ok (.iload 4, 2) := by decide +kernel
theorem md_Mod_send_60 : decode mb_Mod_send 60 = .ok (.iastore, 1) := by decide +kernel
theorem md_Mod_send_61 : decode mb_Mod_send 61 = .ok (.aload_n 0, 1) := by decide +kernel
theorem md_Mod_send_62 : decode mb_Mod_send 62 = .ok (.getfield 23, 3) := by decide +kernel
theorem md_Mod_send_65 : decode mb_Mod_send 65 = .ok (.aload_n 0, 1) := by decide +kernel
theorem md_Mod_send_66 : decode mb_Mod_send 66 = .ok (.getfield 91, 3) := by decide +kernel
theorem md_Mod_send_69 : decode mb_Mod_send 69 = .ok (.iload 5, 2) := by decide +kernel
theorem md_Mod_send_71 : decode mb_Mod_send 71 = .ok (.iastore, 1) := by decide +kernel
theorem md_Mod_send_72 : decode mb_Mod_send 72 = .ok (.aload_n 0, 1) := by decide +kernel
theorem md_Mod_send_73 : decode mb_Mod_send 73 = .ok (.getfield 29, 3) := by decide +kernel
theorem md_Mod_send_76 : decode mb_Mod_send 76 = .ok (.aload_n 0, 1) := by decide +kernel
theorem md_Mod_send_77 : decode mb_Mod_send 77 = .ok (.getfield 91, 3) := by decide +kernel
theorem md_Mod_send_80 : decode mb_Mod_send 80 = .ok (.iload 6, 2) := by decide +kernel
theorem md_Mod_send_82 : decode mb_Mod_send 82 = .ok (.iastore, 1) := by decide +kernel
theorem md_Mod_send_83 : decode mb_Mod_send 83 = .ok (.aload_n 0, 1) := by decide +kernel
theorem md_Mod_send_84 : decode mb_Mod_send 84 = .ok (.getfield 32, 3) := by decide +kernel
theorem md_Mod_send_87 : decode mb_Mod_send 87 = .ok (.aload_n 0, 1) := by decide +kernel
theorem md_Mod_send_88 : decode mb_Mod_send 88 = .ok (.getfield 91, 3) := by decide +kernel
theorem md_Mod_send_91 : decode mb_Mod_send 91 = .ok (.iload 7, 2) := by decide +kernel
theorem md_Mod_send_93 : decode mb_Mod_send 93 = .ok (.iastore, 1) := by decide +kernel
theorem md_Mod_send_94 : decode mb_Mod_send 94 = .ok (.aload_n 0, 1) := by decide +kernel
theorem md_Mod_send_95 : decode mb_Mod_send 95 = .ok (.dup, 1) := by decide +kernel
theorem md_Mod_send_96 : decode mb_Mod_send 96 = .ok (.getfield 91, 3) := by decide +kernel
theorem md_Mod_send_99 : decode mb_Mod_send 99 = .ok (.iconst 1, 1) := by decide +kernel
theorem md_Mod_send_100 : decode mb_Mod_send 100 = .ok (.iadd, 1) := by decide +kernel
theorem md_Mod_send_101 : decode mb_Mod_send 101 = .ok (.putfield 91, 3) := by decide +kernel
theorem md_Mod_send_104 : decode mb_Mod_send 104 = .ok (.return_, 1) := by decide +kernel
theorem md_Mod_sendAll_0 : decode mb_Mod_sendAll 0 = .ok (.iconst 0, 1) := by decide +kernel
theorem md_Mod_sendAll_1 : decode mb_Mod_sendAll 1 = .ok (.istore 5, 2) := by decide +kernel
theorem md_Mod_sendAll_3 : decode mb_Mod_sendAll 3 = .ok (.iload 5, 2) := by decide +kernel
theorem md_Mod_sendAll_5 : decode mb_Mod_sendAll 5 = .ok (.aload_n 0, 1) := by decide +kernel
theorem md_Mod_sendAll_6 : decode mb_Mod_sendAll 6 = .ok (.getfield 77, 3) := by decide +kernel
theorem md_Mod_sendAll_9 : decode mb_Mod_sendAll 9 = .ok (.if_icmp .ge 22, 3) := by decide +kernel
theorem md_Mod_sendAll_12 : decode mb_Mod_sendAll 12 = .ok (.aload_n 0, 1) := by decide +kernel
theorem md_Mod_sendAll_13 : decode mb_Mod_sendAll 13 = .ok (.iload_n 1, 1) := by decide +kernel
theorem md_Mod_sendAll_14 : decode mb_Mod_sendAll 14 = .ok (.iload_n 2, 1) := by decide +kernel
theorem md_Mod_sendAll_15 : decode mb_Mod_sendAll 15 = .ok (.iload_n 3, 1) := by decide +kernel
theorem md_Mod_sendAll_16 : decode mb_Mod_sendAll 16 = .ok (.iconst 0, 1) := by decide +kernel
theorem md_Mod_sendAll_17 : decode mb_Mod_sendAll 17 = .ok (.iload 5, 2) := by decide +kernel
theorem md_Mod_sendAll_19 : decode mb_Mod_sendAll 19 = .ok (.iload 4, 2) := by decide +kernel
theorem md_Mod_sendAll_21 : decode mb_Mod_sendAll 21 = .ok (.iconst 0, 1) := by decide +kernel
theorem md_Mod_sendAll_22 : decode mb_Mod_sendAll 22 = .ok (.invokevirtual 97, 3) := by decide +kernel
theorem md_Mod_sendAll_25 : decode mb_Mod_sendAll 25 = .ok (.iinc 5 1, 3) := by decide +kernel
theorem md_Mod_sendAll_28 : decode mb_Mod_sendAll 28 = .ok (.goto (-25), 3) := by decide +kernel
theorem md_Mod_sendAll_31 : decode mb_Mod_sendAll 31 = .ok (.return_, 1) := by decide +kernel
theorem md_Mod_takeOut_0 : decode mb_Mod_takeOut 0 = .ok (.aload_n 0, 1) := by decide +kernel
theorem md_Mod_takeOut_1 : decode mb_Mod_takeOut 1 = .ok (.dup, 1) := by decide +kernel
theorem md_Mod_takeOut_2 : decode mb_Mod_takeOut 2 = .ok (.getfield 91, 3) := by decide +kernel
theorem md_Mod_takeOut_5 : decode mb_Mod_takeOut 5 = .ok (.iconst 1, 1) := by decide +kernel
theorem md_Mod_takeOut_6 : decode mb_Mod_takeOut 6 = .ok (.isub, 1) := by decide +kernel
theorem md_Mod_takeOut_7 : decode mb_Mod_takeOut 7 = .ok (.putfield 91, 3) := by decide +kernel
theorem md_Mod_takeOut_10 : decode mb_Mod_takeOut 10 = .ok (.iload_n 1, 1) := by decide +kernel
theorem md_Mod_takeOut_11 : decode mb_Mod_takeOut 11 = .ok (.istore_n 2, 1) := by decide +kernel
theorem md_Mod_takeOut_12 : decode mb_Mod_takeOut 12 = .ok (.iload_n 2, 1) := by decide +kernel
theorem md_Mod_takeOut_13 : decode mb_Mod_takeOut 13 = .ok (.aload_n 0, 1) := by decide +kernel
theorem md_Mod_takeOut_14 : decode mb_Mod_takeOut 14 = .ok (.getfield 91, 3) := by decide +kernel
theorem md_Mod_takeOut_17 : decode mb_Mod_takeOut 17 = .ok (.if_icmp .ge 107, 3) := by decide +kernel
theorem md_Mod_takeOut_20 : decode mb_Mod_takeOut 20 = .ok (.aload_n 0, 1) := by decide +kernel
theorem md_Mod_takeOut_21 : decode mb_Mod_takeOut 21 = .ok (.getfield 13, 3) := by decide +kernel
theorem md_Mod_takeOut_24 : decode mb_Mod_takeOut 24 = .ok (.iload_n 2, 1) := by decide +kernel
theorem md_Mod_takeOut_25 : decode mb_Mod_takeOut 25 = .ok (.aload_n 0, 1) := by decide +kernel
theorem md_Mod_takeOut_26 : decode mb_Mod_takeOut 26 = .ok (.getfield 13, 3) := by decide +kernel
theorem md_Mod_takeOut_29 : decode mb_Mod_takeOut 29 = .ok (.iload_n 2, 1) := by decide +kernel
theorem md_Mod_takeOut_30 : decode mb_Mod_takeOut 30 = .ok (.iconst 1, 1) := by decide +kernel
theorem md_Mod_takeOut_31 : decode mb_Mod_takeOut 31 = .ok (.iadd, 1) := by decide +kernel
theorem md_Mod_takeOut_32 : decode mb_Mod_takeOut 32 = .ok (.iaload, 1) := by decide +kernel
theorem md_Mod_takeOut_33 : decode mb_Mod_takeOut 33 = .ok (.iastore, 1) := by decide +kernel
theorem md_Mod_takeOut_34 : decode mb_Mod_takeOut 34 = .ok (.aload_n 0, 1) := by decide +kernel
theorem md_Mod_takeOut_35 : decode mb_Mod_takeOut 35 = .ok (.getfield 17, 3) := by decide +kernel
theorem md_Mod_takeOut_38 : decode mb_Mod_takeOut 38 = .ok (.iload_n 2, 1) := by decide +kernel
theorem md_Mod_takeOut_39 : decode mb_Mod_takeOut 39 = .ok (.aload_n 0, 1) := by decide +kernel
theorem md_Mod_takeOut_40 : decode mb_Mod_takeOut 40 = .ok (.getfield 17, 3) := by decide +kernel
theorem md_Mod_takeOut_43 : decode mb_Mod_takeOut 43 = .ok (.iload_n 2, 1) := by decide +kernel
theorem md_Mod_takeOut_44 : decode mb_Mod_takeOut 44 = .ok (.iconst 1, 1) := by decide +kernel
theorem md_Mod_takeOut_45 : decode mb_Mod_takeOut 45 = .ok (.iadd, 1) := by decide +kernel
theorem md_Mod_takeOut_46 : decode mb_Mod_takeOut 46 = .ok (.iaload, 1) := by decide +kernel
theorem md_Mod_takeOut_47 : decode mb_Mod_takeOut 47 = .ok (.iastore, 1) := by decide +kernel
theorem md_Mod_takeOut_48 : decode mb_Mod_takeOut 48 = .ok (.aload_n 0, 1) := by decide +kernel
theorem md_Mod_takeOut_49 : decode mb_Mod_takeOut 49 = .ok (.getfield 20, 3) := by decide +kernel
theorem md_Mod_takeOut_52 : decode mb_Mod_takeOut 52 = .ok (.iload_n 2, 1) := by decide +kernel
theorem md_Mod_takeOut_53 : decode mb_Mod_takeOut 53 = .ok (.aload_n 0, 1) := by decide +kernel
theorem md_Mod_takeOut_54 : decode mb_Mod_takeOut 54 = .ok (.getfield 20, 3) := by decide +kernel
theorem md_Mod_takeOut_57 : decode mb_Mod_takeOut 57 = .ok (.iload_n 2, 1) := by decide +kernel
theorem md_Mod_takeOut_58 : decode mb_Mod_takeOut 58 = .ok (.iconst 1, 1) := by decide +kernel
theorem md_Mod_takeOut_59 : decode mb_Mod_takeOut 59 = .ok (.iadd, 1) := by decide +kernel
theorem md_Mod_takeOut_60 : decode mb_Mod_takeOut 60 = .ok (.iaload, 1) := by decide +kernel
theorem md_Mod_takeOut_61 : decode mb_Mod_takeOut 61 = .ok (.iastore, 1) := by decide +kernel
theorem md_Mod_takeOut_62 : decode mb_Mod_takeOut 62 = .ok (.aload_n 0, 1) := by decide +kernel
theorem md_Mod_takeOut_63 : decode mb_Mod_takeOut 63 = .ok (.getfield 26, 3) := by decide +kernel
theorem md_Mod_takeOut_66 : decode mb_Mod_takeOut 66 = .ok (.iload_n 2, 1) := by decide +kernel
theorem md_Mod_takeOut_67 : decode mb_Mod_takeOut 67 = .ok (.aload_n 0, 1) := by decide +kernel
theorem md_Mod_takeOut_68 : decode mb_Mod_takeOut 68 = .ok (.getfield 26, 3) := by decide +kernel
theorem md_Mod_takeOut_71 : decode mb_Mod_takeOut 71 = .ok (.iload_n 2, 1) := by decide +kernel
theorem md_Mod_takeOut_72 : decode mb_Mod_takeOut 72 = .ok (.iconst 1, 1) := by decide +kernel
theorem md_Mod_takeOut_73 : decode mb_Mod_takeOut 73 = .ok (.iadd, 1) := by decide +kernel
theorem md_Mod_takeOut_74 : decode mb_Mod_takeOut 74 = .ok (.iaload, 1) := by decide +kernel
theorem md_Mod_takeOut_75 : decode mb_Mod_takeOut 75 = .ok (.iastore, 1) := by decide +kernel
theorem md_Mod_takeOut_76 : decode mb_Mod_takeOut 76 = .ok (.aload_n 0, 1) := by decide +kernel
theorem md_Mod_takeOut_77 : decode mb_Mod_takeOut 77 = .ok (.getfield 23, 3) := by decide +kernel
theorem md_Mod_takeOut_80 : decode mb_Mod_takeOut 80 = .ok (.iload_n 2, 1) := by decide +kernel
theorem md_Mod_takeOut_81 : decode mb_Mod_takeOut 81 = .ok (.aload_n 0, 1) := by decide +kernel
theorem md_Mod_takeOut_82 : decode mb_Mod_takeOut 82 = .ok (.getfield 23, 3) := by decide +kernel
theorem md_Mod_takeOut_85 : decode mb_Mod_takeOut 85 = .ok (.iload_n 2, 1) := by decide +kernel
theorem md_Mod_takeOut_86 : decode mb_Mod_takeOut 86 = .ok (.iconst 1, 1) := by decide +kernel
theorem md_Mod_takeOut_87 : decode mb_Mod_takeOut 87 = .ok (.iadd, 1) := by decide +kernel
theorem md_Mod_takeOut_88 : decode mb_Mod_takeOut 88 = .ok (.iaload, 1) := by decide +kernel
theorem md_Mod_takeOut_89 : decode mb_Mod_takeOut 89 = .ok (.iastore, 1) := by decide +kernel
theorem md_Mod_takeOut_90 : decode mb_Mod_takeOut 90 = .ok (.aload_n 0, 1) := by decide +kernel
theorem md_Mod_takeOut_91 : decode mb_Mod_takeOut 91 = .ok (.getfield 29, 3) := by decide +kernel
theorem md_Mod_takeOut_94 : decode mb_Mod_takeOut 94 = .ok (.iload_n 2, 1) := by decide +kernel
theorem md_Mod_takeOut_95 : decode mb_Mod_takeOut 95 = .ok (.aload_n 0, 1) := by decide +kernel
theorem md_Mod_takeOut_96 : decode mb_Mod_takeOut 96 = .ok (.getfield 29, 3) := by decide +kernel
theorem md_Mod_takeOut_99 : decode mb_Mod_takeOut 99 = .ok (.iload_n 2, 1) := by decide +kernel
theorem md_Mod_takeOut_100 : decode mb_Mod_takeOut 100 = .ok (.iconst 1, 1) := by decide +kernel
theorem md_Mod_takeOut_101 : decode mb_Mod_takeOut 101 = .ok (.iadd, 1) := by decide +kernel
theorem md_Mod_takeOut_102 : decode mb_Mod_takeOut 102 = .ok (.iaload, 1) := by decide +kernel
theorem md_Mod_takeOut_103 : decode mb_Mod_takeOut 103 = .ok (.iastore, 1) := by decide +kernel
theorem md_Mod_takeOut_104 : decode mb_Mod_takeOut 104 = .ok (.aload_n 0, 1) := by decide +kernel
theorem md_Mod_takeOut_105 : decode mb_Mod_takeOut 105 = .ok (.getfield 32, 3) := by decide +kernel
theorem md_Mod_takeOut_108 : decode mb_Mod_takeOut 108 = .ok (.iload_n 2, 1) := by decide +kernel
theorem md_Mod_takeOut_109 : decode mb_Mod_takeOut 109 = .ok (.aload_n 0, 1) := by decide +kernel
theorem md_Mod_takeOut_110 : decode mb_Mod_takeOut 110 = .ok (.getfield 32, 3) := by decide +kernel
theorem md_Mod_takeOut_113 : decode mb_Mod_takeOut 113 = .ok (.iload_n 2, 1) := by decide +kernel
theorem md_Mod_takeOut_114 : decode mb_Mod_takeOut 114 = .ok (.iconst 1, 1) := by decide +kernel
theorem md_Mod_takeOut_115 : decode mb_Mod_takeOut 115 = .ok (.iadd, 1) := by decide +kernel
theorem md_Mod_takeOut_116 : decode mb_Mod_takeOut 116 = .ok (.iaload, 1) := by decide +kernel
theorem md_Mod_takeOut_117 : decode mb_Mod_takeOut 117 = .ok (.iastore, 1) := by decide +kernel
theorem md_Mod_takeOut_118 : decode mb_Mod_takeOut 118 = .ok (.iinc 2 1, 3) := by decide +kernel
theorem md_Mod_takeOut_121 : decode mb_Mod_takeOut 121 = .ok (.goto (-109), 3) := by decide +kernel
theorem md_Mod_takeOut_124 : decode mb_Mod_takeOut 124 = .ok (.return_, 1) := by decide +kernel
theorem md_Mod_lead_0 : decode mb_Mod_lead 0 = .ok (.aload_n 0, 1) := by decide +kernel
theorem md_Mod_lead_1 : decode mb_Mod_lead 1 = .ok (.getfield 59, 3) := by decide +kernel
theorem md_Mod_lead_4 : decode mb_Mod_lead 4 = .ok (.iload_n 1, 1) := by decide +kernel
theorem md_Mod_lead_5 : decode mb_Mod_lead 5 = .ok (.iload_n 2, 1) := by decide +kernel
theorem md_Mod_lead_6 : decode mb_Mod_lead 6 = .ok (.iastore, 1) := by decide +kernel
theorem md_Mod_lead_7 : decode mb_Mod_lead 7 = .ok (.aload_n 0, 1) := by decide +kernel
theorem md_Mod_lead_8 : decode mb_Mod_lead 8 = .ok (.getfield 62, 3) := by decide +kernel
theorem md_Mod_lead_11 : decode mb_Mod_lead 11 = .ok (.iload_n 1, 1) := by decide +kernel
theorem md_Mod_lead_12 : decode mb_Mod_lead 12 = .ok (.iload_n 3, 1) := by decide +kernel
theorem md_Mod_lead_13 : decode mb_Mod_lead 13 = .ok (.iastore, 1) := by decide +kernel
theorem md_Mod_lead_14 : decode mb_Mod_lead 14 = .ok (.iconst 0, 1) := by decide +kernel
theorem md_Mod_lead_15 : decode mb_Mod_lead 15 = .ok (.istore 4, 2) := by decide +kernel
theorem md_Mod_lead_17 : decode mb_Mod_lead 17 = .ok (.iload 4, 2) := by decide +kernel
theorem md_Mod_lead_19 : decode mb_Mod_lead 19 = .ok (.iconst 5, 1) := by decide +kernel
theorem md_Mod_lead_20 : decode mb_Mod_lead 20 = .ok (.if_icmp .ge 21, 3) := by decide +kernel
theorem md_Mod_lead_23 : decode mb_Mod_lead 23 = .ok (.aload_n 0, 1) := by decide +kernel
theorem md_Mod_lead_24 : decode mb_Mod_lead 24 = .ok (.getfield 68, 3) := by decide +kernel
theorem md_Mod_lead_27 : decode mb_Mod_lead 27 = .ok (.iconst 5, 1) := by decide +kernel
theorem md_Mod_lead_28 : decode mb_Mod_lead 28 = .ok (.iload_n 1, 1) := by decide +kernel
theorem md_Mod_lead_29 : decode mb_Mod_lead 29 = .ok (.imul, 1) := by decide +kernel
theorem md_Mod_lead_30 : decode mb_Mod_lead 30 = .ok (.iload 4, 2) := by decide +kernel
theorem md_Mod_lead_32 : decode mb_Mod_lead 32 = .ok (.iadd, 1) := by decide +kernel
theorem md_Mod_lead_33 : decode mb_Mod_lead 33 = .ok (.iconst 0, 1) := by decide +kernel
theorem md_Mod_lead_34 : decode mb_Mod_lead 34 = .ok (.bastore, 1) := by decide +kernel
theorem md_Mod_lead_35 : decode mb_Mod_lead 35 = .ok (.iinc 4 1, 3) := by decide +kernel
theorem md_Mod_lead_38 : decode mb_Mod_lead 38 = .ok (.goto (-21), 3) := by decide +kernel
theorem md_Mod_lead_41 : decode mb_Mod_lead 41 = .ok (.return_, 1) := by decide +kernel
theorem md_Mod_tellers_0 : decode mb_Mod_tellers 0 = .ok (.iconst 0, 1) := by decide +kernel
theorem md_Mod_tellers_1 : decode mb_Mod_tellers 1 = .ok (.istore_n 2, 1) := by decide +kernel
theorem md_Mod_tellers_2 : decode mb_Mod_tellers 2 = .ok (.iconst 0, 1) := by decide +kernel
theorem md_Mod_tellers_3 : decode mb_Mod_tellers 3 = .ok (.istore_n 3, 1) := by decide +kernel
theorem md_Mod_tellers_4 : decode mb_Mod_tellers 4 = .ok (.iload_n 3, 1) := by decide +kernel
theorem md_Mod_tellers_5 : decode mb_Mod_tellers 5 = .ok (.aload_n 0, 1) := by decide +kernel
theorem md_Mod_tellers_6 : decode mb_Mod_tellers 6 = .ok (.getfield 77, 3) := by decide +kernel
theorem md_Mod_tellers_9 : decode mb_Mod_tellers 9 = .ok (.if_icmp .ge 30, 3) := by decide +kernel
theorem md_Mod_tellers_12 : decode mb_Mod_tellers 12 = .ok (.iload_n 2, 1) := by decide +kernel
theorem md_Mod_tellers_13 : decode mb_Mod_tellers 13 = .ok (.aload_n 0, 1) := by decide +kernel
theorem md_Mod_tellers_14 : decode mb_Mod_tellers 14 = .ok (.getfield 68, 3) := by decide +kernel
theorem md_Mod_tellers_17 : decode mb_Mod_tellers 17 = .ok (.iconst 5, 1) := by decide +kernel
theorem md_Mod_tellers_18 : decode mb_Mod_tellers 18 = .ok (.iload_n 1, 1) := by decide +kernel
theorem md_Mod_tellers_19 : decode mb_Mod_tellers 19 = .ok (.imul, 1) := by decide +kernel
theorem md_Mod_tellers_20 : decode mb_Mod_tellers 20 = .ok (.iload_n 3, 1) := by decide +kernel
theorem md_Mod_tellers_21 : decode mb_Mod_tellers 21 = .ok (.iadd, 1) := by decide +kernel
theorem md_Mod_tellers_22 : decode mb_Mod_tellers 22 = .ok (.baload, 1) := by decide +kernel
theorem md_Mod_tellers_23 : decode mb_Mod_tellers 23 = .ok (.ifCond .eq 7, 3) := by decide +kernel
theorem md_Mod_tellers_26 : decode mb_Mod_tellers 26 = .ok (.iconst 1, 1) := by decide +kernel
theorem md_Mod_tellers_27 : decode mb_Mod_tellers 27 = .ok (.goto 4, 3) := by decide +kernel
theorem md_Mod_tellers_30 : decode mb_Mod_tellers 30 = .ok (.iconst 0, 1) := by decide +kernel
theorem md_Mod_tellers_31 : decode mb_Mod_tellers 31 = .ok (.iadd, 1) := by decide +kernel
theorem md_Mod_tellers_32 : decode mb_Mod_tellers 32 = .ok (.istore_n 2, 1) := by decide +kernel
theorem md_Mod_tellers_33 : decode mb_Mod_tellers 33 = .ok (.iinc 3 1, 3) := by decide +kernel
theorem md_Mod_tellers_36 : decode mb_Mod_tellers 36 = .ok (.goto (-32), 3) := by decide +kernel
theorem md_Mod_tellers_39 : decode mb_Mod_tellers 39 = .ok (.iload_n 2, 1) := by decide +kernel
theorem md_Mod_tellers_40 : decode mb_Mod_tellers 40 = .ok (.ireturn, 1) := by decide +kernel
theorem md_Mod_toldFor_0 : decode mb_Mod_toldFor 0 = .ok (.iconst 0, 1) := by decide +kernel
theorem md_Mod_toldFor_1 : decode mb_Mod_toldFor 1 = .ok (.istore 4, 2) := by decide +kernel
theorem md_Mod_toldFor_3 : decode mb_Mod_toldFor 3 = .ok (.iconst 0, 1) := by decide +kernel
theorem md_Mod_toldFor_4 : decode mb_Mod_toldFor 4 = .ok (.istore 5, 2) := by decide +kernel
theorem md_Mod_toldFor_6 : decode mb_Mod_toldFor 6 = .ok (.iload 5, 2) := by decide +kernel
theorem md_Mod_toldFor_8 : decode mb_Mod_toldFor 8 = .ok (.aload_n 0, 1) := by decide +kernel
theorem md_Mod_toldFor_9 : decode mb_Mod_toldFor 9 = .ok (.getfield 77, 3) := by decide +kernel
theorem md_Mod_toldFor_12 : decode mb_Mod_toldFor 12 = .ok (.if_icmp .ge 63, 3) := by decide +kernel
theorem md_Mod_toldFor_15 : decode mb_Mod_toldFor 15 = .ok (.iload 4, 2) := by decide +kernel
theorem md_Mod_toldFor_17 : decode mb_Mod_toldFor 17 = .ok (.aload_n 0, 1) := by decide +kernel
theorem md_Mod_toldFor_18 : decode mb_Mod_toldFor 18 = .ok (.getfield 68, 3) := by decide +kernel
theorem md_Mod_toldFor_21 : decode mb_Mod_toldFor 21 = .ok (.iconst 5, 1) := by decide +kernel
theorem md_Mod_toldFor_22 : decode mb_Mod_toldFor 22 = .ok (.iload_n 1, 1) := by decide +kernel
theorem md_Mod_toldFor_23 : decode mb_Mod_toldFor 23 = .ok (.imul, 1) := by decide +kernel
theorem md_Mod_toldFor_24 : decode mb_Mod_toldFor 24 = .ok (.iload 5, 2) := by decide +kernel
theorem md_Mod_toldFor_26 : decode mb_Mod_toldFor 26 = .ok (.iadd, 1) := by decide +kernel
theorem md_Mod_toldFor_27 : decode mb_Mod_toldFor 27 = .ok (.baload, 1) := by decide +kernel
theorem md_Mod_toldFor_28 : decode mb_Mod_toldFor 28 = .ok (.ifCond .eq 37, 3) := by decide +kernel
theorem md_Mod_toldFor_31 : decode mb_Mod_toldFor 31 = .ok (.aload_n 0, 1) := by decide +kernel
theorem md_Mod_toldFor_32 : decode mb_Mod_toldFor 32 = .ok (.getfield 74, 3) := by decide +kernel
theorem md_Mod_toldFor_35 : decode mb_Mod_toldFor 35 = .ok (.iconst 5, 1) := by decide +kernel
theorem md_Mod_toldFor_36 : decode mb_Mod_toldFor 36 = .ok (.iload_n 1, 1) := by decide +kernel
theorem md_Mod_toldFor_37 : decode mb_Mod_toldFor 37 = .ok (.imul, 1) := by decide +kernel
theorem md_Mod_toldFor_38 : decode mb_Mod_toldFor 38 = .ok (.iload 5, 2) := by decide +kernel
theorem md_Mod_toldFor_40 : decode mb_Mod_toldFor 40 = .ok (.iadd, 1) := by decide +kernel
theorem md_Mod_toldFor_41 : decode mb_Mod_toldFor 41 = .ok (.iaload, 1) := by decide +kernel
theorem md_Mod_toldFor_42 : decode mb_Mod_toldFor 42 = .ok (.iload_n 2, 1) := by decide +kernel
theorem md_Mod_toldFor_43 : decode mb_Mod_toldFor 43 = .ok (.if_icmp .ne 22, 3) := by decide +kernel
theorem md_Mod_toldFor_46 : decode mb_Mod_toldFor 46 = .ok (.aload_n 0, 1) := by decide +kernel
theorem md_Mod_toldFor_47 : decode mb_Mod_toldFor 47 = .ok (.getfield 71, 3) := by decide +kernel
theorem md_Mod_toldFor_50 : decode mb_Mod_toldFor 50 = .ok (.iconst 5, 1) := by decide +kernel
theorem md_Mod_toldFor_51 : decode mb_Mod_toldFor 51 = .ok (.iload_n 1, 1) := by decide +kernel
theorem md_Mod_toldFor_52 : decode mb_Mod_toldFor 52 = .ok (.imul, 1) := by decide +kernel
theorem md_Mod_toldFor_53 : decode mb_Mod_toldFor 53 = .ok (.iload 5, 2) := by decide +kernel
theorem md_Mod_toldFor_55 : decode mb_Mod_toldFor 55 = .ok (.iadd, 1) := by decide +kernel
theorem md_Mod_toldFor_56 : decode mb_Mod_toldFor 56 = .ok (.iaload, 1) := by decide +kernel
theorem md_Mod_toldFor_57 : decode mb_Mod_toldFor 57 = .ok (.iload_n 3, 1) := by decide +kernel
theorem md_Mod_toldFor_58 : decode mb_Mod_toldFor 58 = .ok (.if_icmp .ne 7, 3) := by decide +kernel
theorem md_Mod_toldFor_61 : decode mb_Mod_toldFor 61 = .ok (.iconst 1, 1) := by decide +kernel
theorem md_Mod_toldFor_62 : decode mb_Mod_toldFor 62 = .ok (.goto 4, 3) := by decide +kernel
theorem md_Mod_toldFor_65 : decode mb_Mod_toldFor 65 = .ok (.iconst 0, 1) := by decide +kernel
theorem md_Mod_toldFor_66 : decode mb_Mod_toldFor 66 = .ok (.iadd, 1) := by decide +kernel
theorem md_Mod_toldFor_67 : decode mb_Mod_toldFor 67 = .ok (.istore 4, 2) := by decide +kernel
theorem md_Mod_toldFor_69 : decode mb_Mod_toldFor 69 = .ok (.iinc 5 1, 3) := by decide +kernel
theorem md_Mod_toldFor_72 : decode mb_Mod_toldFor 72 = .ok (.goto (-66), 3) := by decide +kernel
theorem md_Mod_toldFor_75 : decode mb_Mod_toldFor 75 = .ok (.iload 4, 2) := by decide +kernel
theorem md_Mod_toldFor_77 : decode mb_Mod_toldFor 77 = .ok (.ireturn, 1) := by decide +kernel
theorem md_Mod_tell_0 : decode mb_Mod_tell 0 = .ok (.aload_n 0, 1) := by decide +kernel
theorem md_Mod_tell_1 : decode mb_Mod_tell 1 = .ok (.getfield 68, 3) := by decide +kernel
theorem md_Mod_tell_4 : decode mb_Mod_tell 4 = .ok (.iconst 5, 1) := by decide +kernel
theorem md_Mod_tell_5 : decode mb_Mod_tell 5 = .ok (.iload_n 1, 1) := by decide +kernel
theorem md_Mod_tell_6 : decode mb_Mod_tell 6 = .ok (.imul, 1) := by decide +kernel
theorem md_Mod_tell_7 : decode mb_Mod_tell 7 = .ok (.iload_n 2, 1) := by decide +kernel
theorem md_Mod_tell_8 : decode mb_Mod_tell 8 = .ok (.iadd, 1) := by decide +kernel
theorem md_Mod_tell_9 : decode mb_Mod_tell 9 = .ok (.iconst 1, 1) := by decide +kernel
theorem md_Mod_tell_10 : decode mb_Mod_tell 10 = .ok (.bastore, 1) := by decide +kernel
theorem md_Mod_tell_11 : decode mb_Mod_tell 11 = .ok (.aload_n 0, 1) := by decide +kernel
theorem md_Mod_tell_12 : decode mb_Mod_tell 12 = .ok (.getfield 71, 3) := by decide +kernel
theorem md_Mod_tell_15 : decode mb_Mod_tell 15 = .ok (.iconst 5, 1) := by decide +kernel
theorem md_Mod_tell_16 : decode mb_Mod_tell 16 = .ok (.iload_n 1, 1) := by decide +kernel
theorem md_Mod_tell_17 : decode mb_Mod_tell 17 = .ok (.imul, 1) := by decide +kernel
theorem md_Mod_tell_18 : decode mb_Mod_tell 18 = .ok (.iload_n 2, 1) := by decide +kernel
theorem md_Mod_tell_19 : decode mb_Mod_tell 19 = .ok (.iadd, 1) := by decide +kernel
theorem md_Mod_tell_20 : decode mb_Mod_tell 20 = .ok (.iload_n 3, 1) := by decide +kernel
theorem md_Mod_tell_21 : decode mb_Mod_tell 21 = .ok (.iastore, 1) := by decide +kernel
theorem md_Mod_tell_22 : decode mb_Mod_tell 22 = .ok (.aload_n 0, 1) := by decide +kernel
theorem md_Mod_tell_23 : decode mb_Mod_tell 23 = .ok (.getfield 74, 3) := by decide +kernel
theorem md_Mod_tell_26 : decode mb_Mod_tell 26 = .ok (.iconst 5, 1) := by decide +kernel
theorem md_Mod_tell_27 : decode mb_Mod_tell 27 = .ok (.iload_n 1, 1) := by decide +kernel
theorem md_Mod_tell_28 : decode mb_Mod_tell 28 = .ok (.imul, 1) := by decide +kernel
theorem md_Mod_tell_29 : decode mb_Mod_tell 29 = .ok (.iload_n 2, 1) := by decide +kernel
theorem md_Mod_tell_30 : decode mb_Mod_tell 30 = .ok (.iadd, 1) := by decide +kernel
theorem md_Mod_tell_31 : decode mb_Mod_tell 31 = .ok (.iload 4, 2) := by decide +kernel
theorem md_Mod_tell_33 : decode mb_Mod_tell 33 = .ok (.iastore, 1) := by decide +kernel
theorem md_Mod_tell_34 : decode mb_Mod_tell 34 = .ok (.return_, 1) := by decide +kernel
theorem md_Mod_leastTold_0 : decode mb_Mod_leastTold 0 = .ok (.iconst 0, 1) := by decide +kernel
theorem md_Mod_leastTold_1 : decode mb_Mod_leastTold 1 = .ok (.istore_n 3, 1) := by decide +kernel
theorem md_Mod_leastTold_2 : decode mb_Mod_leastTold 2 = .ok (.sipush 1000, 3) := by decide +kernel
theorem md_Mod_leastTold_5 : decode mb_Mod_leastTold 5 = .ok (.istore 4, 2) := by decide +kernel
theorem md_Mod_leastTold_7 : decode mb_Mod_leastTold 7 = .ok (.iload 4, 2) := by decide +kernel
theorem md_Mod_leastTold_9 : decode mb_Mod_leastTold 9 = .ok (.iconst 1, 1) := by decide +kernel
theorem md_Mod_leastTold_10 : decode mb_Mod_leastTold 10 = .ok (.if_icmp .lt 27, 3) := by decide +kernel
theorem md_Mod_leastTold_13 : decode mb_Mod_leastTold 13 = .ok (.aload_n 0, 1) := by decide +kernel
theorem md_Mod_leastTold_14 : decode mb_Mod_leastTold 14 = .ok (.iload_n 1, 1) := by decide +kernel
theorem md_Mod_leastTold_15 : decode mb_Mod_leastTold 15 = .ok (.iload_n 2, 1) := by decide +kernel
theorem md_Mod_leastTold_16 : decode mb_Mod_leastTold 16 = .ok (.iload 4, 2) := by decide +kernel
theorem md_Mod_leastTold_18 : decode mb_Mod_leastTold 18 = .ok (.invokevirtual 145, 3) := by decide +kernel
theorem md_Mod_leastTold_21 : decode mb_Mod_leastTold 21 = .ok (.ifCond .le 8, 3) := by decide +kernel
theorem md_Mod_leastTold_24 : decode mb_Mod_leastTold 24 = .ok (.iload 4, 2) := by decide +kernel
theorem md_Mod_leastTold_26 : decode mb_Mod_leastTold 26 = .ok (.goto 4, 3) := by decide +kernel
theorem md_Mod_leastTold_29 : decode mb_Mod_leastTold 29 = .ok (.iload_n 3, 1) := by decide +kernel
theorem md_Mod_leastTold_30 : decode mb_Mod_leastTold 30 = .ok (.istore_n 3, 1) := by decide +kernel
theorem md_Mod_leastTold_31 : decode mb_Mod_leastTold 31 = .ok (.iinc 4 (-1), 3) := by decide +kernel
theorem md_Mod_leastTold_34 : decode mb_Mod_leastTold 34 = .ok (.goto (-27), 3) := by decide +kernel
theorem md_Mod_leastTold_37 : decode mb_Mod_leastTold 37 = .ok (.iload_n 3, 1) := by decide +kernel
theorem md_Mod_leastTold_38 : decode mb_Mod_leastTold 38 = .ok (.ireturn, 1) := by decide +kernel
theorem md_Mod_voteFor_0 : decode mb_Mod_voteFor 0 = .ok (.aload_n 0, 1) := by decide +kernel
theorem md_Mod_voteFor_1 : decode mb_Mod_voteFor 1 = .ok (.getfield 62, 3) := by decide +kernel
theorem md_Mod_voteFor_4 : decode mb_Mod_voteFor 4 = .ok (.iload_n 1, 1) := by decide +kernel
theorem md_Mod_voteFor_5 : decode mb_Mod_voteFor 5 = .ok (.iconst 3, 1) := by decide +kernel
theorem md_Mod_voteFor_6 : decode mb_Mod_voteFor 6 = .ok (.iastore, 1) := by decide +kernel
theorem md_Mod_voteFor_7 : decode mb_Mod_voteFor 7 = .ok (.aload_n 0, 1) := by decide +kernel
theorem md_Mod_voteFor_8 : decode mb_Mod_voteFor 8 = .ok (.iconst 4, 1) := by decide +kernel
theorem md_Mod_voteFor_9 : decode mb_Mod_voteFor 9 = .ok (.iload_n 2, 1) := by decide +kernel
theorem md_Mod_voteFor_10 : decode mb_Mod_voteFor 10 = .ok (.aload_n 0, 1) := by decide +kernel
theorem md_Mod_voteFor_11 : decode mb_Mod_voteFor 11 = .ok (.getfield 59, 3) := by decide +kernel
theorem md_Mod_voteFor_14 : decode mb_Mod_voteFor 14 = .ok (.iload_n 1, 1) := by decide +kernel
theorem md_Mod_voteFor_15 : decode mb_Mod_voteFor 15 = .ok (.iaload, 1) := by decide +kernel
theorem md_Mod_voteFor_16 : decode mb_Mod_voteFor 16 = .ok (.iload_n 3, 1) := by decide +kernel
theorem md_Mod_voteFor_17 : decode mb_Mod_voteFor 17 = .ok (.invokevirtual 107, 3) := by decide +kernel
theorem md_Mod_voteFor_20 : decode mb_Mod_voteFor 20 = .ok (.return_, 1) := by decide +kernel
theorem md_Mod_inRow_0 : decode mb_Mod_inRow 0 = .ok (.iconst 0, 1) := by decide +kernel
theorem md_Mod_inRow_1 : decode mb_Mod_inRow 1 = .ok (.istore 4, 2) := by decide +kernel
theorem md_Mod_inRow_3 : decode mb_Mod_inRow 3 = .ok (.iconst 0, 1) := by decide +kernel
theorem md_Mod_inRow_4 : decode mb_Mod_inRow 4 = .ok (.istore 5, 2) := by decide +kernel
theorem md_Mod_inRow_6 : decode mb_Mod_inRow 6 = .ok (.iload 5, 2) := by decide +kernel
theorem md_Mod_inRow_8 : decode mb_Mod_inRow 8 = .ok (.iconst 5, 1) := by decide +kernel
theorem md_Mod_inRow_9 : decode mb_Mod_inRow 9 = .ok (.if_icmp .ge 36, 3) := by decide +kernel
theorem md_Mod_inRow_12 : decode mb_Mod_inRow 12 = .ok (.iload 4, 2) := by decide +kernel
theorem md_Mod_inRow_14 : decode mb_Mod_inRow 14 = .ok (.aload_n 0, 1) := by decide +kernel
theorem md_Mod_inRow_15 : decode mb_Mod_inRow 15 = .ok (.bipush 65, 2) := by decide +kernel
theorem md_Mod_inRow_17 : decode mb_Mod_inRow 17 = .ok (.iload_n 1, 1) := by decide +kernel
theorem md_Mod_inRow_18 : decode mb_Mod_inRow 18 = .ok (.imul, 1) := by decide +kernel
theorem md_Mod_inRow_19 : decode mb_Mod_inRow 19 = .ok (.iconst 5, 1) := by decide +kernel
theorem md_Mod_inRow_20 : decode mb_Mod_inRow 20 = .ok (.iload_n 2, 1) := by decide +kernel
theorem md_Mod_inRow_21 : decode mb_Mod_inRow 21 = .ok (.imul, 1) := by decide +kernel
theorem md_Mod_inRow_22 : decode mb_Mod_inRow 22 = .ok (.iadd, 1) := by decide +kernel
theorem md_Mod_inRow_23 : decode mb_Mod_inRow 23 = .ok (.iload 5, 2) := by decide +kernel
theorem md_Mod_inRow_25 : decode mb_Mod_inRow 25 = .ok (.iadd, 1) := by decide +kernel
theorem md_Mod_inRow_26 : decode mb_Mod_inRow 26 = .ok (.iaload, 1) := by decide +kernel
theorem md_Mod_inRow_27 : decode mb_Mod_inRow 27 = .ok (.iload_n 3, 1) := by decide +kernel
theorem md_Mod_inRow_28 : decode mb_Mod_inRow 28 = .ok (.if_icmp .ne 7, 3) := by decide +kernel
theorem md_Mod_inRow_31 : decode mb_Mod_inRow 31 = .ok (.iconst 1, 1) := by decide +kernel
theorem md_Mod_inRow_32 : decode mb_Mod_inRow 32 = .ok (.goto 4, 3) := by decide +kernel
theorem md_Mod_inRow_35 : decode mb_Mod_inRow 35 = .ok (.iconst 0, 1) := by decide +kernel
theorem md_Mod_inRow_36 : decode mb_Mod_inRow 36 = .ok (.iadd, 1) := by decide +kernel
theorem md_Mod_inRow_37 : decode mb_Mod_inRow 37 = .ok (.istore 4, 2) := by decide +kernel
theorem md_Mod_inRow_39 : decode mb_Mod_inRow 39 = .ok (.iinc 5 1, 3) := by decide +kernel
theorem md_Mod_inRow_42 : decode mb_Mod_inRow 42 = .ok (.goto (-36), 3) := by decide +kernel
theorem md_Mod_inRow_45 : decode mb_Mod_inRow 45 = .ok (.iload 4, 2) := by decide +kernel
theorem md_Mod_inRow_47 : decode mb_Mod_inRow 47 = .ok (.ireturn, 1) := by decide +kernel
set_option maxHeartbeats 4000000 in
theorem r_isSlot1 (l : Launch) (D : va_G) (ad : Nat × Nat → Nat) (cI cZ : ClassId) {M : fr_M} {j : Nat} (hj : j < 3) : gm_C l D ad cI cZ my_Mod_isSlot mb_Mod_isSlot 1 (some .boolean) 0 0 M [.int (nI (j))] (some (.int (nI 1))) (fun M' => M' = M) := by
  refine xw_start [.int (nI (j))] (by decide) (Nat.le_of_ble_eq_true rfl) ?_
  intro p e st m below meth cd0 ls Z hml hr hlk hN hl hw
  have hl : lv_has ls 1 [(0, .int (nI (j)))] := hl
  refine lv_iload_n Z.1 Z.2.1 md_Mod_isSlot_0 rfl (lv_at hl 0 rfl) ?_
  refine lv_if_lt (tgt := 13) Z.1 Z.2.1 md_Mod_isSlot_1 (by decide) (fun h1 => by exfalso; exact nI_pos (by omega) h1) (fun h1 => ?_)
  refine lv_iload_n Z.1 Z.2.1 md_Mod_isSlot_4 rfl (lv_at hl 0 rfl) ?_
  refine lv_iconst (v := nI 3) Z.1 Z.2.1 md_Mod_isSlot_5 (by decide) ?_
  refine xi_icmp_ge (tgt := 13) Z md_Mod_isSlot_6 (by decide) (by omega) (by omega) (fun h6 => by exfalso; omega) (fun h6 => ?_)
  refine lv_iconst (v := nI 1) Z.1 Z.2.1 md_Mod_isSlot_9 (by decide) ?_
  refine lv_goto (tgt := 14) Z.1 Z.2.1 md_Mod_isSlot_10 (by decide) ?_
  exact xw_zret Z hr hlk hw md_Mod_isSlot_14 rfl rfl rfl
set_option maxHeartbeats 4000000 in
theorem r_isSlot0 (l : Launch) (D : va_G) (ad : Nat × Nat → Nat) (cI cZ : ClassId) {M : fr_M} {x : Int32} (hx : x < 0 ∨ nI 3 ≤ x) : gm_C l D ad cI cZ my_Mod_isSlot mb_Mod_isSlot 1 (some .boolean) 0 0 M [.int (x)] (some (.int (nI 0))) (fun M' => M' = M) := by
  refine xw_start [.int (x)] (by decide) (Nat.le_of_ble_eq_true rfl) ?_
  intro p e st m below meth cd0 ls Z hml hr hlk hN hl hw
  have hl : lv_has ls 1 [(0, .int (x))] := hl
  refine lv_iload_n Z.1 Z.2.1 md_Mod_isSlot_0 rfl (lv_at hl 0 rfl) ?_
  refine lv_if_lt (tgt := 13) Z.1 Z.2.1 md_Mod_isSlot_1 (by decide) (fun h1 => ?_) (fun h1 => ?_)
  · refine lv_iconst (v := nI 0) Z.1 Z.2.1 md_Mod_isSlot_13 (by decide) ?_
    exact xw_zret Z hr hlk hw md_Mod_isSlot_14 rfl rfl rfl
  · refine lv_iload_n Z.1 Z.2.1 md_Mod_isSlot_4 rfl (lv_at hl 0 rfl) ?_
    refine lv_iconst (v := nI 3) Z.1 Z.2.1 md_Mod_isSlot_5 (by decide) ?_
    refine lv_icmp_ge (tgt := 13) Z.1 Z.2.1 md_Mod_isSlot_6 (by decide) (fun h6 => ?_) (fun h6 => by exfalso; exact hx.elim h1 h6)
    refine lv_iconst (v := nI 0) Z.1 Z.2.1 md_Mod_isSlot_13 (by decide) ?_
    exact xw_zret Z hr hlk hw md_Mod_isSlot_14 rfl rfl rfl
set_option maxHeartbeats 4000000 in
theorem r_isRound1 (l : Launch) (D : va_G) (ad : Nat × Nat → Nat) (cI cZ : ClassId) {M : fr_M} {j : Nat} (hj : 1 ≤ j) (hj2 : j ≤ 12) : gm_C l D ad cI cZ my_Mod_isRound mb_Mod_isRound 1 (some .boolean) 0 0 M [.int (nI (j))] (some (.int (nI 1))) (fun M' => M' = M) := by
  refine xw_start [.int (nI (j))] (by decide) (Nat.le_of_ble_eq_true rfl) ?_
  intro p e st m below meth cd0 ls Z hml hr hlk hN hl hw
  have hl : lv_has ls 1 [(0, .int (nI (j)))] := hl
  refine lv_iload_n Z.1 Z.2.1 md_Mod_isRound_0 rfl (lv_at hl 0 rfl) ?_
  refine lv_iconst (v := nI 1) Z.1 Z.2.1 md_Mod_isRound_1 (by decide) ?_
  refine xi_icmp_lt (tgt := 15) Z md_Mod_isRound_2 (by decide) (by omega) (by omega) (fun h2 => by exfalso; omega) (fun h2 => ?_)
  refine lv_iload_n Z.1 Z.2.1 md_Mod_isRound_5 rfl (lv_at hl 0 rfl) ?_
  refine lv_bipush (v := nI 12) Z.1 Z.2.1 md_Mod_isRound_6 (by decide) ?_
  refine xi_icmp_gt (tgt := 15) Z md_Mod_isRound_8 (by decide) (by omega) (by omega) (fun h8 => by exfalso; omega) (fun h8 => ?_)
  refine lv_iconst (v := nI 1) Z.1 Z.2.1 md_Mod_isRound_11 (by decide) ?_
  refine lv_goto (tgt := 16) Z.1 Z.2.1 md_Mod_isRound_12 (by decide) ?_
  exact xw_zret Z hr hlk hw md_Mod_isRound_16 rfl rfl rfl
set_option maxHeartbeats 4000000 in
theorem r_isRound0 (l : Launch) (D : va_G) (ad : Nat × Nat → Nat) (cI cZ : ClassId) {M : fr_M} {x : Int32} (hx : x < nI 1 ∨ nI 12 < x) : gm_C l D ad cI cZ my_Mod_isRound mb_Mod_isRound 1 (some .boolean) 0 0 M [.int (x)] (some (.int (nI 0))) (fun M' => M' = M) := by
  refine xw_start [.int (x)] (by decide) (Nat.le_of_ble_eq_true rfl) ?_
  intro p e st m below meth cd0 ls Z hml hr hlk hN hl hw
  have hl : lv_has ls 1 [(0, .int (x))] := hl
  refine lv_iload_n Z.1 Z.2.1 md_Mod_isRound_0 rfl (lv_at hl 0 rfl) ?_
  refine lv_iconst (v := nI 1) Z.1 Z.2.1 md_Mod_isRound_1 (by decide) ?_
  refine lv_icmp_lt (tgt := 15) Z.1 Z.2.1 md_Mod_isRound_2 (by decide) (fun h2 => ?_) (fun h2 => ?_)
  · refine lv_iconst (v := nI 0) Z.1 Z.2.1 md_Mod_isRound_15 (by decide) ?_
    exact xw_zret Z hr hlk hw md_Mod_isRound_16 rfl rfl rfl
  · refine lv_iload_n Z.1 Z.2.1 md_Mod_isRound_5 rfl (lv_at hl 0 rfl) ?_
    refine lv_bipush (v := nI 12) Z.1 Z.2.1 md_Mod_isRound_6 (by decide) ?_
    refine lv_icmp_gt (tgt := 15) Z.1 Z.2.1 md_Mod_isRound_8 (by decide) (fun h8 => ?_) (fun h8 => by exfalso; exact hx.elim h2 h8)
    refine lv_iconst (v := nI 0) Z.1 Z.2.1 md_Mod_isRound_15 (by decide) ?_
    exact xw_zret Z hr hlk hw md_Mod_isRound_16 rfl rfl rfl
set_option maxHeartbeats 4000000 in
theorem r_isValue1 (l : Launch) (D : va_G) (ad : Nat × Nat → Nat) (cI cZ : ClassId) {M : fr_M} {j : Nat} (hj : 1 ≤ j) (hj2 : j ≤ 1000) : gm_C l D ad cI cZ my_Mod_isValue mb_Mod_isValue 1 (some .boolean) 0 0 M [.int (nI (j))] (some (.int (nI 1))) (fun M' => M' = M) := by
  refine xw_start [.int (nI (j))] (by decide) (Nat.le_of_ble_eq_true rfl) ?_
  intro p e st m below meth cd0 ls Z hml hr hlk hN hl hw
  have hl : lv_has ls 1 [(0, .int (nI (j)))] := hl
  refine lv_iload_n Z.1 Z.2.1 md_Mod_isValue_0 rfl (lv_at hl 0 rfl) ?_
  refine lv_iconst (v := nI 1) Z.1 Z.2.1 md_Mod_isValue_1 (by decide) ?_
  refine xi_icmp_lt (tgt := 16) Z md_Mod_isValue_2 (by decide) (by omega) (by omega) (fun h2 => by exfalso; omega) (fun h2 => ?_)
  refine lv_iload_n Z.1 Z.2.1 md_Mod_isValue_5 rfl (lv_at hl 0 rfl) ?_
  refine lv_sipush (v := nI 1000) Z.1 Z.2.1 md_Mod_isValue_6 (by decide) ?_
  refine xi_icmp_gt (tgt := 16) Z md_Mod_isValue_9 (by decide) (by omega) (by omega) (fun h9 => by exfalso; omega) (fun h9 => ?_)
  refine lv_iconst (v := nI 1) Z.1 Z.2.1 md_Mod_isValue_12 (by decide) ?_
  refine lv_goto (tgt := 17) Z.1 Z.2.1 md_Mod_isValue_13 (by decide) ?_
  exact xw_zret Z hr hlk hw md_Mod_isValue_17 rfl rfl rfl
set_option maxHeartbeats 4000000 in
theorem r_isValue0 (l : Launch) (D : va_G) (ad : Nat × Nat → Nat) (cI cZ : ClassId) {M : fr_M} {x : Int32} (hx : x < nI 1 ∨ nI 1000 < x) : gm_C l D ad cI cZ my_Mod_isValue mb_Mod_isValue 1 (some .boolean) 0 0 M [.int (x)] (some (.int (nI 0))) (fun M' => M' = M) := by
  refine xw_start [.int (x)] (by decide) (Nat.le_of_ble_eq_true rfl) ?_
  intro p e st m below meth cd0 ls Z hml hr hlk hN hl hw
  have hl : lv_has ls 1 [(0, .int (x))] := hl
  refine lv_iload_n Z.1 Z.2.1 md_Mod_isValue_0 rfl (lv_at hl 0 rfl) ?_
  refine lv_iconst (v := nI 1) Z.1 Z.2.1 md_Mod_isValue_1 (by decide) ?_
  refine lv_icmp_lt (tgt := 16) Z.1 Z.2.1 md_Mod_isValue_2 (by decide) (fun h2 => ?_) (fun h2 => ?_)
  · refine lv_iconst (v := nI 0) Z.1 Z.2.1 md_Mod_isValue_16 (by decide) ?_
    exact xw_zret Z hr hlk hw md_Mod_isValue_17 rfl rfl rfl
  · refine lv_iload_n Z.1 Z.2.1 md_Mod_isValue_5 rfl (lv_at hl 0 rfl) ?_
    refine lv_sipush (v := nI 1000) Z.1 Z.2.1 md_Mod_isValue_6 (by decide) ?_
    refine lv_icmp_gt (tgt := 16) Z.1 Z.2.1 md_Mod_isValue_9 (by decide) (fun h9 => ?_) (fun h9 => by exfalso; exact hx.elim h2 h9)
    refine lv_iconst (v := nI 0) Z.1 Z.2.1 md_Mod_isValue_16 (by decide) ?_
    exact xw_zret Z hr hlk hw md_Mod_isValue_17 rfl rfl rfl
set_option maxHeartbeats 4000000 in
theorem r_isFast (l : Launch) (D : va_G) (ad : Nat × Nat → Nat) (cI cZ : ClassId) {M : fr_M} {j : Nat} (hj : j < 2 ^ 31) : gm_C l D ad cI cZ my_Mod_isFast mb_Mod_isFast 1 (some .boolean) 0 0 M [.int (nI (j))] (some (.int (nI (j % 2)))) (fun M' => M' = M) := by
  refine xw_start [.int (nI (j))] (by decide) (Nat.le_of_ble_eq_true rfl) ?_
  intro p e st m below meth cd0 ls Z hml hr hlk hN hl hw
  have hl : lv_has ls 1 [(0, .int (nI (j)))] := hl
  refine lv_iload_n Z.1 Z.2.1 md_Mod_isFast_0 rfl (lv_at hl 0 rfl) ?_
  refine lv_iconst (v := nI 2) Z.1 Z.2.1 md_Mod_isFast_1 (by decide) ?_
  refine xi_rem Z md_Mod_isFast_2 (by omega) (by omega) (by omega) ?_
  refine lv_iconst (v := nI 1) Z.1 Z.2.1 md_Mod_isFast_3 (by decide) ?_
  refine xi_icmp_ne (tgt := 11) Z md_Mod_isFast_4 (by decide) (by omega) (by omega) (fun h4 => ?_) (fun h4 => ?_)
  · refine lv_iconst (v := nI 0) Z.1 Z.2.1 md_Mod_isFast_11 (by decide) ?_
    exact xw_zret Z hr hlk hw md_Mod_isFast_12 (by first | rw [show j % 2 = 1 by omega] | rw [show j % 2 = 0 by omega]) rfl rfl
  · refine lv_iconst (v := nI 1) Z.1 Z.2.1 md_Mod_isFast_7 (by decide) ?_
    refine lv_goto (tgt := 12) Z.1 Z.2.1 md_Mod_isFast_8 (by decide) ?_
    exact xw_zret Z hr hlk hw md_Mod_isFast_12 (by first | rw [show j % 2 = 1 by omega] | rw [show j % 2 = 0 by omega]) rfl rfl
set_option maxHeartbeats 4000000 in
theorem r_coordinatorOf (l : Launch) (D : va_G) (ad : Nat × Nat → Nat) (cI cZ : ClassId) {M : fr_M} {j : Nat} (hj : j < 2 ^ 30) : gm_C l D ad cI cZ my_Mod_coordinatorOf mb_Mod_coordinatorOf 1 (some .int) 0 0 M [.int (nI (j))] (some (.int (nI (8 + pz_ci j)))) (fun M' => M' = M) := by
  refine xw_start [.int (nI (j))] (by decide) (Nat.le_of_ble_eq_true rfl) ?_
  intro p e st m below meth cd0 ls Z hml hr hlk hN hl hw
  have hl : lv_has ls 1 [(0, .int (nI (j)))] := hl
  refine lv_iload_n Z.1 Z.2.1 md_Mod_coordinatorOf_0 rfl (lv_at hl 0 rfl) ?_
  refine lv_iconst (v := nI 1) Z.1 Z.2.1 md_Mod_coordinatorOf_1 (by decide) ?_
  refine xi_add Z md_Mod_coordinatorOf_2 ?_
  refine lv_iconst (v := nI 2) Z.1 Z.2.1 md_Mod_coordinatorOf_3 (by decide) ?_
  refine xi_div Z md_Mod_coordinatorOf_4 (by omega) (by omega) (by omega) ?_
  refine lv_iconst (v := nI 2) Z.1 Z.2.1 md_Mod_coordinatorOf_5 (by decide) ?_
  refine xi_rem Z md_Mod_coordinatorOf_6 (by omega) (by omega) (by omega) ?_
  refine lv_iconst (v := nI 1) Z.1 Z.2.1 md_Mod_coordinatorOf_7 (by decide) ?_
  refine xi_icmp_ne (tgt := 16) Z md_Mod_coordinatorOf_8 (by decide) (by omega) (by omega) (fun h8 => ?_) (fun h8 => ?_)
  · refine lv_bipush (v := nI 9) Z.1 Z.2.1 md_Mod_coordinatorOf_16 (by decide) ?_
    exact xw_iret Z hr hlk hw md_Mod_coordinatorOf_18 (by unfold pz_ci; first | rw [if_pos (by omega)] | rw [if_neg (by omega)]) rfl
  · refine lv_bipush (v := nI 8) Z.1 Z.2.1 md_Mod_coordinatorOf_11 (by decide) ?_
    refine lv_goto (tgt := 18) Z.1 Z.2.1 md_Mod_coordinatorOf_13 (by decide) ?_
    exact xw_iret Z hr hlk hw md_Mod_coordinatorOf_18 (by unfold pz_ci; first | rw [if_pos (by omega)] | rw [if_neg (by omega)]) rfl
set_option maxHeartbeats 4000000 in
theorem r_isCoordinator1 (l : Launch) (D : va_G) (ad : Nat × Nat → Nat) (cI cZ : ClassId) {M : fr_M} {j : Nat} (hj : j = 8 ∨ j = 9) : gm_C l D ad cI cZ my_Mod_isCoordinator mb_Mod_isCoordinator 1 (some .boolean) 0 0 M [.int (nI (j))] (some (.int (nI 1))) (fun M' => M' = M) := by
  refine xw_start [.int (nI (j))] (by decide) (Nat.le_of_ble_eq_true rfl) ?_
  intro p e st m below meth cd0 ls Z hml hr hlk hN hl hw
  have hl : lv_has ls 1 [(0, .int (nI (j)))] := hl
  refine lv_iload_n Z.1 Z.2.1 md_Mod_isCoordinator_0 rfl (lv_at hl 0 rfl) ?_
  refine lv_bipush (v := nI 8) Z.1 Z.2.1 md_Mod_isCoordinator_1 (by decide) ?_
  refine xi_icmp_eq (tgt := 12) Z md_Mod_isCoordinator_3 (by decide) (by omega) (by omega) (fun h3 => ?_) (fun h3 => ?_)
  · refine lv_iconst (v := nI 1) Z.1 Z.2.1 md_Mod_isCoordinator_12 (by decide) ?_
    refine lv_goto (tgt := 17) Z.1 Z.2.1 md_Mod_isCoordinator_13 (by decide) ?_
    exact xw_zret Z hr hlk hw md_Mod_isCoordinator_17 rfl rfl rfl
  · refine lv_iload_n Z.1 Z.2.1 md_Mod_isCoordinator_6 rfl (lv_at hl 0 rfl) ?_
    refine lv_bipush (v := nI 9) Z.1 Z.2.1 md_Mod_isCoordinator_7 (by decide) ?_
    refine xi_icmp_ne (tgt := 16) Z md_Mod_isCoordinator_9 (by decide) (by omega) (by omega) (fun h9 => by exfalso; omega) (fun h9 => ?_)
    refine lv_iconst (v := nI 1) Z.1 Z.2.1 md_Mod_isCoordinator_12 (by decide) ?_
    refine lv_goto (tgt := 17) Z.1 Z.2.1 md_Mod_isCoordinator_13 (by decide) ?_
    exact xw_zret Z hr hlk hw md_Mod_isCoordinator_17 rfl rfl rfl
set_option maxHeartbeats 4000000 in
theorem r_isCoordinator0 (l : Launch) (D : va_G) (ad : Nat × Nat → Nat) (cI cZ : ClassId) {M : fr_M} {x : Int32} (hx8 : ¬ x = nI 8) (hx9 : ¬ x = nI 9) : gm_C l D ad cI cZ my_Mod_isCoordinator mb_Mod_isCoordinator 1 (some .boolean) 0 0 M [.int (x)] (some (.int (nI 0))) (fun M' => M' = M) := by
  refine xw_start [.int (x)] (by decide) (Nat.le_of_ble_eq_true rfl) ?_
  intro p e st m below meth cd0 ls Z hml hr hlk hN hl hw
  have hl : lv_has ls 1 [(0, .int (x))] := hl
  refine lv_iload_n Z.1 Z.2.1 md_Mod_isCoordinator_0 rfl (lv_at hl 0 rfl) ?_
  refine lv_bipush (v := nI 8) Z.1 Z.2.1 md_Mod_isCoordinator_1 (by decide) ?_
  refine lv_icmp_eq (tgt := 12) Z.1 Z.2.1 md_Mod_isCoordinator_3 (by decide) (fun h3 => by exfalso; exact hx8 h3) (fun h3 => ?_)
  refine lv_iload_n Z.1 Z.2.1 md_Mod_isCoordinator_6 rfl (lv_at hl 0 rfl) ?_
  refine lv_bipush (v := nI 9) Z.1 Z.2.1 md_Mod_isCoordinator_7 (by decide) ?_
  refine lv_icmp_ne (tgt := 16) Z.1 Z.2.1 md_Mod_isCoordinator_9 (by decide) (fun h9 => ?_) (fun h9 => by exfalso; exact hx9 h9)
  refine lv_iconst (v := nI 0) Z.1 Z.2.1 md_Mod_isCoordinator_16 (by decide) ?_
  exact xw_zret Z hr hlk hw md_Mod_isCoordinator_17 rfl rfl rfl
set_option maxHeartbeats 4000000 in
theorem r_isAcceptor1 (l : Launch) (D : va_G) (ad : Nat × Nat → Nat) (cI cZ : ClassId) {M : fr_M} {n q f : Nat} {S : pz_T} {j : Nat} (hn : n ≤ 5) (h : gm_1 n q f M) (hj : j < n) : gm_C l D ad cI cZ my_Mod_isAcceptor mb_Mod_isAcceptor 2 (some .boolean) 0 0 M [.ref (ad (0, 0)), .int (nI (j))] (some (.int (nI 1))) (fun M' => M' = M) := by
  refine xw_start [.ref (ad (0, 0)), .int (nI (j))] (by decide) (Nat.le_of_ble_eq_true rfl) ?_
  intro p e st m below meth cd0 ls Z hml hr hlk hN hl hw
  have hl : lv_has ls 2 [(0, .ref (ad (0, 0))), (1, .int (nI (j)))] := hl
  refine lv_iload_n Z.1 Z.2.1 md_Mod_isAcceptor_0 rfl (lv_at hl 1 rfl) ?_
  refine lv_if_lt (tgt := 16) Z.1 Z.2.1 md_Mod_isAcceptor_1 (by decide) (fun h1 => by exfalso; exact nI_pos (by omega) h1) (fun h1 => ?_)
  refine lv_iload_n Z.1 Z.2.1 md_Mod_isAcceptor_4 rfl (lv_at hl 1 rfl) ?_
  refine lv_aload_n Z.1 Z.2.1 md_Mod_isAcceptor_5 rfl (lv_at hl 0 rfl) ?_
  refine xb_get (v := .int (M (0, 0) 0)) Z hw (by decide) (gm_e0 ad cI cZ) rfl tb_iMod 0 (by decide) mk_Mod_77 rfl rfl md_Mod_isAcceptor_6 ?_
  refine xi_re (show M (0, 0) 0 = nI (n) from h.1) ?_
  refine xi_icmp_ge (tgt := 16) Z md_Mod_isAcceptor_9 (by decide) (by omega) (by omega) (fun h9 => by exfalso; omega) (fun h9 => ?_)
  refine lv_iconst (v := nI 1) Z.1 Z.2.1 md_Mod_isAcceptor_12 (by decide) ?_
  refine lv_goto (tgt := 17) Z.1 Z.2.1 md_Mod_isAcceptor_13 (by decide) ?_
  exact xw_zret Z hr hlk hw md_Mod_isAcceptor_17 rfl rfl rfl
set_option maxHeartbeats 4000000 in
theorem r_isAcceptor0 (l : Launch) (D : va_G) (ad : Nat × Nat → Nat) (cI cZ : ClassId) {M : fr_M} {n q f : Nat} {S : pz_T} {x : Int32} (hn : n ≤ 5) (h : gm_1 n q f M) (hx : x < 0 ∨ nI n ≤ x) : gm_C l D ad cI cZ my_Mod_isAcceptor mb_Mod_isAcceptor 2 (some .boolean) 0 0 M [.ref (ad (0, 0)), .int (x)] (some (.int (nI 0))) (fun M' => M' = M) := by
  refine xw_start [.ref (ad (0, 0)), .int (x)] (by decide) (Nat.le_of_ble_eq_true rfl) ?_
  intro p e st m below meth cd0 ls Z hml hr hlk hN hl hw
  have hl : lv_has ls 2 [(0, .ref (ad (0, 0))), (1, .int (x))] := hl
  refine lv_iload_n Z.1 Z.2.1 md_Mod_isAcceptor_0 rfl (lv_at hl 1 rfl) ?_
  refine lv_if_lt (tgt := 16) Z.1 Z.2.1 md_Mod_isAcceptor_1 (by decide) (fun h1 => ?_) (fun h1 => ?_)
  · refine lv_iconst (v := nI 0) Z.1 Z.2.1 md_Mod_isAcceptor_16 (by decide) ?_
    exact xw_zret Z hr hlk hw md_Mod_isAcceptor_17 rfl rfl rfl
  · refine lv_iload_n Z.1 Z.2.1 md_Mod_isAcceptor_4 rfl (lv_at hl 1 rfl) ?_
    refine lv_aload_n Z.1 Z.2.1 md_Mod_isAcceptor_5 rfl (lv_at hl 0 rfl) ?_
    refine xb_get (v := .int (M (0, 0) 0)) Z hw (by decide) (gm_e0 ad cI cZ) rfl tb_iMod 0 (by decide) mk_Mod_77 rfl rfl md_Mod_isAcceptor_6 ?_
    refine xi_re (show M (0, 0) 0 = nI (n) from h.1) ?_
    refine lv_icmp_ge (tgt := 16) Z.1 Z.2.1 md_Mod_isAcceptor_9 (by decide) (fun h9 => ?_) (fun h9 => by exfalso; exact hx.elim h1 h9)
    refine lv_iconst (v := nI 0) Z.1 Z.2.1 md_Mod_isAcceptor_16 (by decide) ?_
    exact xw_zret Z hr hlk hw md_Mod_isAcceptor_17 rfl rfl rfl
set_option maxHeartbeats 4000000 in
theorem r_isMessage1 (l : Launch) (D : va_G) (ad : Nat × Nat → Nat) (cI cZ : ClassId) {M : fr_M} {n q f : Nat} {S : pz_T} {j : Nat} (h60 : S.1.length ≤ 60) (h : gm_2 S M) (hj : j < S.1.length) : gm_C l D ad cI cZ my_Mod_isMessage mb_Mod_isMessage 2 (some .boolean) 0 0 M [.ref (ad (0, 0)), .int (nI (j))] (some (.int (nI 1))) (fun M' => M' = M) := by
  refine xw_start [.ref (ad (0, 0)), .int (nI (j))] (by decide) (Nat.le_of_ble_eq_true rfl) ?_
  intro p e st m below meth cd0 ls Z hml hr hlk hN hl hw
  have hl : lv_has ls 2 [(0, .ref (ad (0, 0))), (1, .int (nI (j)))] := hl
  refine lv_iload_n Z.1 Z.2.1 md_Mod_isMessage_0 rfl (lv_at hl 1 rfl) ?_
  refine lv_if_lt (tgt := 16) Z.1 Z.2.1 md_Mod_isMessage_1 (by decide) (fun h1 => by exfalso; exact nI_pos (by omega) h1) (fun h1 => ?_)
  refine lv_iload_n Z.1 Z.2.1 md_Mod_isMessage_4 rfl (lv_at hl 1 rfl) ?_
  refine lv_aload_n Z.1 Z.2.1 md_Mod_isMessage_5 rfl (lv_at hl 0 rfl) ?_
  refine xb_get (v := .int (M (0, 0) 4)) Z hw (by decide) (gm_e0 ad cI cZ) rfl tb_iMod 4 (by decide) mk_Mod_91 rfl rfl md_Mod_isMessage_6 ?_
  refine xi_re (show M (0, 0) 4 = nI (S.1.length) from h.1) ?_
  refine xi_icmp_ge (tgt := 16) Z md_Mod_isMessage_9 (by decide) (by omega) (by omega) (fun h9 => by exfalso; omega) (fun h9 => ?_)
  refine lv_iconst (v := nI 1) Z.1 Z.2.1 md_Mod_isMessage_12 (by decide) ?_
  refine lv_goto (tgt := 17) Z.1 Z.2.1 md_Mod_isMessage_13 (by decide) ?_
  exact xw_zret Z hr hlk hw md_Mod_isMessage_17 rfl rfl rfl
set_option maxHeartbeats 4000000 in
theorem r_isMessage0 (l : Launch) (D : va_G) (ad : Nat × Nat → Nat) (cI cZ : ClassId) {M : fr_M} {n q f : Nat} {S : pz_T} {x : Int32} (h60 : S.1.length ≤ 60) (h : gm_2 S M) (hx : x < 0 ∨ nI S.1.length ≤ x) : gm_C l D ad cI cZ my_Mod_isMessage mb_Mod_isMessage 2 (some .boolean) 0 0 M [.ref (ad (0, 0)), .int (x)] (some (.int (nI 0))) (fun M' => M' = M) := by
  refine xw_start [.ref (ad (0, 0)), .int (x)] (by decide) (Nat.le_of_ble_eq_true rfl) ?_
  intro p e st m below meth cd0 ls Z hml hr hlk hN hl hw
  have hl : lv_has ls 2 [(0, .ref (ad (0, 0))), (1, .int (x))] := hl
  refine lv_iload_n Z.1 Z.2.1 md_Mod_isMessage_0 rfl (lv_at hl 1 rfl) ?_
  refine lv_if_lt (tgt := 16) Z.1 Z.2.1 md_Mod_isMessage_1 (by decide) (fun h1 => ?_) (fun h1 => ?_)
  · refine lv_iconst (v := nI 0) Z.1 Z.2.1 md_Mod_isMessage_16 (by decide) ?_
    exact xw_zret Z hr hlk hw md_Mod_isMessage_17 rfl rfl rfl
  · refine lv_iload_n Z.1 Z.2.1 md_Mod_isMessage_4 rfl (lv_at hl 1 rfl) ?_
    refine lv_aload_n Z.1 Z.2.1 md_Mod_isMessage_5 rfl (lv_at hl 0 rfl) ?_
    refine xb_get (v := .int (M (0, 0) 4)) Z hw (by decide) (gm_e0 ad cI cZ) rfl tb_iMod 4 (by decide) mk_Mod_91 rfl rfl md_Mod_isMessage_6 ?_
    refine xi_re (show M (0, 0) 4 = nI (S.1.length) from h.1) ?_
    refine lv_icmp_ge (tgt := 16) Z.1 Z.2.1 md_Mod_isMessage_9 (by decide) (fun h9 => ?_) (fun h9 => by exfalso; exact hx.elim h1 h9)
    refine lv_iconst (v := nI 0) Z.1 Z.2.1 md_Mod_isMessage_16 (by decide) ?_
    exact xw_zret Z hr hlk hw md_Mod_isMessage_17 rfl rfl rfl
set_option maxHeartbeats 4000000 in
theorem r_enough (l : Launch) (D : va_G) (ad : Nat × Nat → Nat) (cI cZ : ClassId) {M : fr_M} {n q f r : Nat} (h : gm_1 n q f M) (hr2 : r < 2 ^ 31) : gm_C l D ad cI cZ my_Mod_enough mb_Mod_enough 2 (some .int) 1 20 M [.ref (ad (0, 0)), .int (nI (r))] (some (.int (nI (pz_en q f r)))) (fun M' => M' = M) := by
  refine xw_start [.ref (ad (0, 0)), .int (nI (r))] (by decide) (Nat.le_of_ble_eq_true rfl) ?_
  intro p e st m below meth cd0 ls Z hml hr hlk hN hl hw
  have hl : lv_has ls 2 [(0, .ref (ad (0, 0))), (1, .int (nI (r)))] := hl
  refine lv_iload_n Z.1 Z.2.1 md_Mod_enough_0 rfl (lv_at hl 1 rfl) ?_
  refine xw_cS (n := 1) (rest := []) Z hml hl.1 hN hw (r_isFast l D ad cI cZ (M := M) hr2) tb_g mc_Mod_isFast mk_Mod_87 mt_Mod_isFast mz_Mod ⟨by decide, by decide, by decide +kernel⟩ ⟨Nat.le_of_ble_eq_true rfl, Nat.le_of_ble_eq_true rfl⟩ rfl rfl (Nat.le_of_ble_eq_true rfl) ⟨Nat.le_refl _, Nat.le_refl _⟩ md_Mod_enough_1 (fun M1 H1 locs1 e1 hw => ?_)
  have ey1 := e1.symm
  subst ey1
  refine W.eq (g2 := F0 m 4 ls [.int (nI (r % 2))]) rfl ?_
  refine xi_if_eq (tgt := 14) Z md_Mod_enough_4 (by decide) (by omega) (fun h4 => ?_) (fun h4 => ?_)
  · refine lv_aload_n Z.1 Z.2.1 md_Mod_enough_14 rfl (lv_at hl 0 rfl) ?_
    refine xb_get (v := .int (M (0, 0) 1)) Z hw (by decide) (gm_e0 ad cI cZ) rfl tb_iMod 1 (by decide) mk_Mod_81 rfl rfl md_Mod_enough_15 ?_
    refine xi_re (show M (0, 0) 1 = nI (q) from h.2.1) ?_
    exact xw_iret Z hr hlk hw md_Mod_enough_18 (by unfold pz_en; first | rw [if_pos (by omega)] | rw [if_neg (by omega)]) rfl
  · refine lv_aload_n Z.1 Z.2.1 md_Mod_enough_7 rfl (lv_at hl 0 rfl) ?_
    refine xb_get (v := .int (M (0, 0) 2)) Z hw (by decide) (gm_e0 ad cI cZ) rfl tb_iMod 2 (by decide) mk_Mod_84 rfl rfl md_Mod_enough_8 ?_
    refine xi_re (show M (0, 0) 2 = nI (f) from h.2.2) ?_
    refine lv_goto (tgt := 18) Z.1 Z.2.1 md_Mod_enough_11 (by decide) ?_
    exact xw_iret Z hr hlk hw md_Mod_enough_18 (by unfold pz_en; first | rw [if_pos (by omega)] | rw [if_neg (by omega)]) rfl
set_option maxHeartbeats 4000000 in
theorem r_send (l : Launch) (D : va_G) (ad : Nat × Nat → Nat) (cI cZ : ClassId) {M : fr_M} {n q f : Nat} {S : pz_T} {g : pz_M} (h : gm_R n q f S M) (h60 : S.1.length ≤ 60) : gm_C l D ad cI cZ my_Mod_send mb_Mod_send 8 none 0 0 M [.ref (ad (0, 0)), .int (nI (g 0)), .int (nI (g 1)), .int (nI (g 2)), .int (nI (g 3)), .int (nI (g 4)), .int (nI (g 5)), .int (nI (g 6))] (none) (gm_R n q f (pz_sd S g)) := by
  refine xw_start [.ref (ad (0, 0)), .int (nI (g 0)), .int (nI (g 1)), .int (nI (g 2)), .int (nI (g 3)), .int (nI (g 4)), .int (nI (g 5)), .int (nI (g 6))] (by decide) (Nat.le_of_ble_eq_true rfl) ?_
  intro p e st m below meth cd0 ls Z hml hr hlk hN hl hw
  have hl : lv_has ls 8 [(0, .ref (ad (0, 0))), (1, .int (nI (g 0))), (2, .int (nI (g 1))), (3, .int (nI (g 2))), (4, .int (nI (g 3))), (5, .int (nI (g 4))), (6, .int (nI (g 5))), (7, .int (nI (g 6)))] := hl
  refine lv_aload_n Z.1 Z.2.1 md_Mod_send_0 rfl (lv_at hl 0 rfl) ?_
  refine xb_get (v := .int (M (0, 0) 4)) Z hw (by decide) (gm_e0 ad cI cZ) rfl tb_iMod 4 (by decide) mk_Mod_91 rfl rfl md_Mod_send_1 ?_
  refine xi_re (show M (0, 0) 4 = nI (S.1.length) from h.2.1.1) ?_
  refine lv_bipush (v := nI 60) Z.1 Z.2.1 md_Mod_send_4 (by decide) ?_
  refine xi_icmp_ne (tgt := 20) Z md_Mod_send_6 (by decide) (by omega) (by omega) (fun h6 => ?_) (fun h6 => ?_)
  · refine lv_aload_n Z.1 Z.2.1 md_Mod_send_20 rfl (lv_at hl 0 rfl) ?_
    refine xb_get (v := .ref (ad (6, 0))) Z hw (by decide) (gm_e0 ad cI cZ) rfl tb_iMod 6 (by decide) mk_Mod_13 rfl rfl md_Mod_send_21 ?_
    refine lv_aload_n Z.1 Z.2.1 md_Mod_send_24 rfl (lv_at hl 0 rfl) ?_
    refine xb_get (v := .int (M (0, 0) 4)) Z hw (by decide) (gm_e0 ad cI cZ) rfl tb_iMod 4 (by decide) mk_Mod_91 rfl rfl md_Mod_send_25 ?_
    refine xi_re (show M (0, 0) 4 = nI (S.1.length) from h.2.1.1) ?_
    refine lv_iload_n Z.1 Z.2.1 md_Mod_send_28 rfl (lv_at hl 1 rfl) ?_
    refine xb_iast Z hw (by decide) (gm_e6 ad cI cZ) 0 rfl (S.1.length) rfl (by omega) (by omega) md_Mod_send_29 (fun M1 H1 locs1 e1 hw => ?_)
    refine lv_aload_n Z.1 Z.2.1 md_Mod_send_30 rfl (lv_at hl 0 rfl) ?_
    refine xb_get (v := .ref (ad (7, 0))) Z hw (by decide) (gm_e0 ad cI cZ) rfl tb_iMod 7 (by decide) mk_Mod_17 rfl rfl md_Mod_send_31 ?_
    refine lv_aload_n Z.1 Z.2.1 md_Mod_send_34 rfl (lv_at hl 0 rfl) ?_
    refine xb_get (v := .int (M1 (0, 0) 4)) Z hw (by decide) (gm_e0 ad cI cZ) rfl tb_iMod 4 (by decide) mk_Mod_91 rfl rfl md_Mod_send_35 ?_
    refine xi_re (show M1 (0, 0) 4 = nI (S.1.length) from (by rw [e1, xw_mw_n (by decide)]; exact h.2.1.1)) ?_
    refine lv_iload_n Z.1 Z.2.1 md_Mod_send_38 rfl (lv_at hl 2 rfl) ?_
    refine xb_iast Z hw (by decide) (gm_e7 ad cI cZ) 0 rfl (S.1.length) rfl (by omega) (by omega) md_Mod_send_39 (fun M2 H2 locs2 e2 hw => ?_)
    refine lv_aload_n Z.1 Z.2.1 md_Mod_send_40 rfl (lv_at hl 0 rfl) ?_
    refine xb_get (v := .ref (ad (8, 0))) Z hw (by decide) (gm_e0 ad cI cZ) rfl tb_iMod 8 (by decide) mk_Mod_20 rfl rfl md_Mod_send_41 ?_
    refine lv_aload_n Z.1 Z.2.1 md_Mod_send_44 rfl (lv_at hl 0 rfl) ?_
    refine xb_get (v := .int (M2 (0, 0) 4)) Z hw (by decide) (gm_e0 ad cI cZ) rfl tb_iMod 4 (by decide) mk_Mod_91 rfl rfl md_Mod_send_45 ?_
    refine xi_re (show M2 (0, 0) 4 = nI (S.1.length) from (by rw [e2, xw_mw_n (by decide), e1, xw_mw_n (by decide)]; exact h.2.1.1)) ?_
    refine lv_iload_n Z.1 Z.2.1 md_Mod_send_48 rfl (lv_at hl 3 rfl) ?_
    refine xb_iast Z hw (by decide) (gm_e8 ad cI cZ) 0 rfl (S.1.length) rfl (by omega) (by omega) md_Mod_send_49 (fun M3 H3 locs3 e3 hw => ?_)
    refine lv_aload_n Z.1 Z.2.1 md_Mod_send_50 rfl (lv_at hl 0 rfl) ?_
    refine xb_get (v := .ref (ad (10, 0))) Z hw (by decide) (gm_e0 ad cI cZ) rfl tb_iMod 10 (by decide) mk_Mod_26 rfl rfl md_Mod_send_51 ?_
    refine lv_aload_n Z.1 Z.2.1 md_Mod_send_54 rfl (lv_at hl 0 rfl) ?_
    refine xb_get (v := .int (M3 (0, 0) 4)) Z hw (by decide) (gm_e0 ad cI cZ) rfl tb_iMod 4 (by decide) mk_Mod_91 rfl rfl md_Mod_send_55 ?_
    refine xi_re (show M3 (0, 0) 4 = nI (S.1.length) from (by rw [e3, xw_mw_n (by decide), e2, xw_mw_n (by decide), e1, xw_mw_n (by decide)]; exact h.2.1.1)) ?_
    refine lv_iload Z.1 Z.2.1 md_Mod_send_58 (lv_at hl 4 rfl) ?_
    refine xb_iast Z hw (by decide) (gm_e10 ad cI cZ) 0 rfl (S.1.length) rfl (by omega) (by omega) md_Mod_send_60 (fun M4 H4 locs4 e4 hw => ?_)
    refine lv_aload_n Z.1 Z.2.1 md_Mod_send_61 rfl (lv_at hl 0 rfl) ?_
    refine xb_get (v := .ref (ad (9, 0))) Z hw (by decide) (gm_e0 ad cI cZ) rfl tb_iMod 9 (by decide) mk_Mod_23 rfl rfl md_Mod_send_62 ?_
    refine lv_aload_n Z.1 Z.2.1 md_Mod_send_65 rfl (lv_at hl 0 rfl) ?_
    refine xb_get (v := .int (M4 (0, 0) 4)) Z hw (by decide) (gm_e0 ad cI cZ) rfl tb_iMod 4 (by decide) mk_Mod_91 rfl rfl md_Mod_send_66 ?_
    refine xi_re (show M4 (0, 0) 4 = nI (S.1.length) from (by rw [e4, xw_mw_n (by decide), e3, xw_mw_n (by decide), e2, xw_mw_n (by decide), e1, xw_mw_n (by decide)]; exact h.2.1.1)) ?_
    refine lv_iload Z.1 Z.2.1 md_Mod_send_69 (lv_at hl 5 rfl) ?_
    refine xb_iast Z hw (by decide) (gm_e9 ad cI cZ) 0 rfl (S.1.length) rfl (by omega) (by omega) md_Mod_send_71 (fun M5 H5 locs5 e5 hw => ?_)
    refine lv_aload_n Z.1 Z.2.1 md_Mod_send_72 rfl (lv_at hl 0 rfl) ?_
    refine xb_get (v := .ref (ad (11, 0))) Z hw (by decide) (gm_e0 ad cI cZ) rfl tb_iMod 11 (by decide) mk_Mod_29 rfl rfl md_Mod_send_73 ?_
    refine lv_aload_n Z.1 Z.2.1 md_Mod_send_76 rfl (lv_at hl 0 rfl) ?_
    refine xb_get (v := .int (M5 (0, 0) 4)) Z hw (by decide) (gm_e0 ad cI cZ) rfl tb_iMod 4 (by decide) mk_Mod_91 rfl rfl md_Mod_send_77 ?_
    refine xi_re (show M5 (0, 0) 4 = nI (S.1.length) from (by rw [e5, xw_mw_n (by decide), e4, xw_mw_n (by decide), e3, xw_mw_n (by decide), e2, xw_mw_n (by decide), e1, xw_mw_n (by decide)]; exact h.2.1.1)) ?_
    refine lv_iload Z.1 Z.2.1 md_Mod_send_80 (lv_at hl 6 rfl) ?_
    refine xb_iast Z hw (by decide) (gm_e11 ad cI cZ) 0 rfl (S.1.length) rfl (by omega) (by omega) md_Mod_send_82 (fun M6 H6 locs6 e6 hw => ?_)
    refine lv_aload_n Z.1 Z.2.1 md_Mod_send_83 rfl (lv_at hl 0 rfl) ?_
    refine xb_get (v := .ref (ad (12, 0))) Z hw (by decide) (gm_e0 ad cI cZ) rfl tb_iMod 12 (by decide) mk_Mod_32 rfl rfl md_Mod_send_84 ?_
    refine lv_aload_n Z.1 Z.2.1 md_Mod_send_87 rfl (lv_at hl 0 rfl) ?_
    refine xb_get (v := .int (M6 (0, 0) 4)) Z hw (by decide) (gm_e0 ad cI cZ) rfl tb_iMod 4 (by decide) mk_Mod_91 rfl rfl md_Mod_send_88 ?_
    refine xi_re (show M6 (0, 0) 4 = nI (S.1.length) from (by rw [e6, xw_mw_n (by decide), e5, xw_mw_n (by decide), e4, xw_mw_n (by decide), e3, xw_mw_n (by decide), e2, xw_mw_n (by decide), e1, xw_mw_n (by decide)]; exact h.2.1.1)) ?_
    refine lv_iload Z.1 Z.2.1 md_Mod_send_91 (lv_at hl 7 rfl) ?_
    refine xb_iast Z hw (by decide) (gm_e12 ad cI cZ) 0 rfl (S.1.length) rfl (by omega) (by omega) md_Mod_send_93 (fun M7 H7 locs7 e7 hw => ?_)
    refine lv_aload_n Z.1 Z.2.1 md_Mod_send_94 rfl (lv_at hl 0 rfl) ?_
    refine lv_dup Z.1 Z.2.1 md_Mod_send_95 rfl ?_
    refine xb_get (v := .int (M7 (0, 0) 4)) Z hw (by decide) (gm_e0 ad cI cZ) rfl tb_iMod 4 (by decide) mk_Mod_91 rfl rfl md_Mod_send_96 ?_
    refine xi_re (show M7 (0, 0) 4 = nI (S.1.length) from (by rw [e7, xw_mw_n (by decide), e6, xw_mw_n (by decide), e5, xw_mw_n (by decide), e4, xw_mw_n (by decide), e3, xw_mw_n (by decide), e2, xw_mw_n (by decide), e1, xw_mw_n (by decide)]; exact h.2.1.1)) ?_
    refine lv_iconst (v := nI 1) Z.1 Z.2.1 md_Mod_send_99 (by decide) ?_
    refine xi_add Z md_Mod_send_100 ?_
    refine xb_put Z hw (by decide) (gm_e0 ad cI cZ) rfl tb_iMod tb_tMod tb_yMod tb_nMod 4 (by decide) mk_Mod_91 rfl rfl rfl (gm_s0_4 ad _) md_Mod_send_101 (fun M8 H8 locs8 e8 hw => ?_)
    have hl : S.1.length < 60 := by omega
    have c6 : M8 (6, 0) = upd (M (6, 0)) S.1.length (nI (g 0)) := by rw [e8, xw_mw_n (by decide), e7, xw_mw_n (by decide), e6, xw_mw_n (by decide), e5, xw_mw_n (by decide), e4, xw_mw_n (by decide), e3, xw_mw_n (by decide), e2, xw_mw_n (by decide), e1, xw_mw_s]
    have c7 : M8 (7, 0) = upd (M (7, 0)) S.1.length (nI (g 1)) := by rw [e8, xw_mw_n (by decide), e7, xw_mw_n (by decide), e6, xw_mw_n (by decide), e5, xw_mw_n (by decide), e4, xw_mw_n (by decide), e3, xw_mw_n (by decide), e2, xw_mw_s, e1, xw_mw_n (by decide)]
    have c8 : M8 (8, 0) = upd (M (8, 0)) S.1.length (nI (g 2)) := by rw [e8, xw_mw_n (by decide), e7, xw_mw_n (by decide), e6, xw_mw_n (by decide), e5, xw_mw_n (by decide), e4, xw_mw_n (by decide), e3, xw_mw_s, e2, xw_mw_n (by decide), e1, xw_mw_n (by decide)]
    have c10 : M8 (10, 0) = upd (M (10, 0)) S.1.length (nI (g 3)) := by rw [e8, xw_mw_n (by decide), e7, xw_mw_n (by decide), e6, xw_mw_n (by decide), e5, xw_mw_n (by decide), e4, xw_mw_s, e3, xw_mw_n (by decide), e2, xw_mw_n (by decide), e1, xw_mw_n (by decide)]
    have c9 : M8 (9, 0) = upd (M (9, 0)) S.1.length (nI (g 4)) := by rw [e8, xw_mw_n (by decide), e7, xw_mw_n (by decide), e6, xw_mw_n (by decide), e5, xw_mw_s, e4, xw_mw_n (by decide), e3, xw_mw_n (by decide), e2, xw_mw_n (by decide), e1, xw_mw_n (by decide)]
    have c11 : M8 (11, 0) = upd (M (11, 0)) S.1.length (nI (g 5)) := by rw [e8, xw_mw_n (by decide), e7, xw_mw_n (by decide), e6, xw_mw_s, e5, xw_mw_n (by decide), e4, xw_mw_n (by decide), e3, xw_mw_n (by decide), e2, xw_mw_n (by decide), e1, xw_mw_n (by decide)]
    have c12 : M8 (12, 0) = upd (M (12, 0)) S.1.length (nI (g 6)) := by rw [e8, xw_mw_n (by decide), e7, xw_mw_s, e6, xw_mw_n (by decide), e5, xw_mw_n (by decide), e4, xw_mw_n (by decide), e3, xw_mw_n (by decide), e2, xw_mw_n (by decide), e1, xw_mw_n (by decide)]
    refine xw_vret Z hr hlk hw md_Mod_send_104 (gm_send1 h hl (fun k hk h0 => by rw [e8, xw_mw_n (fr_pair h0), e7, xw_mw_n (fr_pair (by omega)), e6, xw_mw_n (fr_pair (by omega)), e5, xw_mw_n (fr_pair (by omega)), e4, xw_mw_n (fr_pair (by omega)), e3, xw_mw_n (fr_pair (by omega)), e2, xw_mw_n (fr_pair (by omega)), e1, xw_mw_n (fr_pair (by omega))]) (fun j hj => ?_) ?_ (fun k k1 k2 => ?_) ?_)
    · rw [e8, xw_mw_s]; simp only [upd]; rw [if_neg hj]; rw [e7, xw_mw_n (by decide)]; rw [e6, xw_mw_n (by decide)]; rw [e5, xw_mw_n (by decide)]; rw [e4, xw_mw_n (by decide)]; rw [e3, xw_mw_n (by decide)]; rw [e2, xw_mw_n (by decide)]; rw [e1, xw_mw_n (by decide)]
    · rw [e8, xw_mw_s]; simp [upd]
    · have ks : k = 6 ∨ k = 7 ∨ k = 8 ∨ k = 9 ∨ k = 10 ∨ k = 11 ∨ k = 12 := by omega
      rcases ks with e | e | e | e | e | e | e <;> subst e <;> first | rw [c6, pk_us] | rw [c7, pk_us] | rw [c8, pk_us] | rw [c9, pk_us] | rw [c10, pk_us] | rw [c11, pk_us] | rw [c12, pk_us]
    · rw [c6, c7, c8, c9, c10, c11, c12]; exact ⟨pk_us, pk_us, pk_us, pk_us, pk_us, pk_us, pk_us⟩
  · refine lv_aload_n Z.1 Z.2.1 md_Mod_send_9 rfl (lv_at hl 0 rfl) ?_
    refine lv_dup Z.1 Z.2.1 md_Mod_send_10 rfl ?_
    refine xb_get (v := .int (M (0, 0) 5)) Z hw (by decide) (gm_e0 ad cI cZ) rfl tb_iMod 5 (by decide) mk_Mod_94 rfl rfl md_Mod_send_11 ?_
    refine xi_re (show M (0, 0) 5 = nI (S.2 3 15 0 0) from h.2.1.2) ?_
    refine lv_iconst (v := nI 1) Z.1 Z.2.1 md_Mod_send_14 (by decide) ?_
    refine xi_add Z md_Mod_send_15 ?_
    refine xb_put Z hw (by decide) (gm_e0 ad cI cZ) rfl tb_iMod tb_tMod tb_yMod tb_nMod 5 (by decide) mk_Mod_94 rfl rfl rfl (gm_s0_5 ad _) md_Mod_send_16 (fun M9 H9 locs9 e9 hw => ?_)
    refine xw_vret Z hr hlk hw md_Mod_send_19 (gm_send2 h (by omega) (fun k hk => by rw [e9, xw_mw_n (fr_pair hk)]) (fun j hj => ?_) ?_)
    · rw [e9, xw_mw_s]; simp [upd, hj]
    · rw [e9, xw_mw_s]; simp [upd]
set_option maxHeartbeats 4000000 in
theorem r_sendAll (l : Launch) (D : va_G) (ad : Nat × Nat → Nat) (cI cZ : ClassId) {M : fr_M} {n q f : Nat} {S : pz_T} {kd s r v : Nat} (hn : n ≤ 5) (h : gm_R n q f S M) (h60 : S.1.length ≤ 60) : gm_C l D ad cI cZ my_Mod_sendAll mb_Mod_sendAll 6 none 1 27 M [.ref (ad (0, 0)), .int (nI (kd)), .int (nI (s)), .int (nI (r)), .int (nI (v))] (none) (gm_R n q f (pz_sa kd s r v n S)) := by
  refine xw_start [.ref (ad (0, 0)), .int (nI (kd)), .int (nI (s)), .int (nI (r)), .int (nI (v))] (by decide) (Nat.le_of_ble_eq_true rfl) ?_
  intro p e st m below meth cd0 ls Z hml hr hlk hN hl hw
  have hl : lv_has ls 6 [(0, .ref (ad (0, 0))), (1, .int (nI (kd))), (2, .int (nI (s))), (3, .int (nI (r))), (4, .int (nI (v)))] := hl
  refine lv_iconst (v := nI 0) Z.1 Z.2.1 md_Mod_sendAll_0 (by decide) ?_
  refine lv_istore Z.1 Z.2.1 md_Mod_sendAll_1 hl (by decide) rfl (fun ls hl => ?_)
  have hl : lv_has ls 6 [(5, .int (nI (0))), (0, .ref (ad (0, 0))), (1, .int (nI (kd))), (2, .int (nI (s))), (3, .int (nI (r))), (4, .int (nI (v)))] := hl
  have loop3 : ∀ (d i : Nat) (Mi : fr_M) (Hi : Heap) (Li : List Loc) (ls : Array Slot), i + d = n → (gm_R n q f (pz_sa kd s r v i S) Mi) → xw_H D tb_cl (xw_A gm_ids ad) st.heap gm_ids ad (xw_M (gm_k ad cI cZ) Mi) Hi Li → lv_has ls 6 [(5, .int (nI (i))), (0, .ref (ad (0, 0))), (1, .int (nI (kd))), (2, .int (nI (s))), (3, .int (nI (r))), (4, .int (nI (v)))] → W p l e { frames := 1, cells := 0, slots := 0, locals := 27 } st m [.ref (ad (0, 0)), .int (nI (kd)), .int (nI (s)), .int (nI (r)), .int (nI (v))].toArray below meth cd0 Hi Li 0 0 (MQ below (xw_Qc D tb_cl gm_ids ad (gm_k ad cI cZ) (none) (gm_R n q f (pz_sa kd s r v n S))) [.ref (ad (0, 0)), .int (nI (kd)), .int (nI (s)), .int (nI (r)), .int (nI (v))].toArray st 0 0 (xw_A gm_ids ad)) (F0 m 3 ls []) := by
    intro d
    induction d with
    | zero =>
      intro i Mi Hi Li ls hi hinv hw hl
      refine lv_iload Z.1 Z.2.1 md_Mod_sendAll_3 (lv_at hl 0 rfl) ?_
      refine lv_aload_n Z.1 Z.2.1 md_Mod_sendAll_5 rfl (lv_at hl 1 rfl) ?_
      refine xb_get (v := .int (Mi (0, 0) 0)) Z hw (by decide) (gm_e0 ad cI cZ) rfl tb_iMod 0 (by decide) mk_Mod_77 rfl rfl md_Mod_sendAll_6 ?_
      refine xi_re (show Mi (0, 0) 0 = nI (n) from hinv.1.1) ?_
      refine xi_icmp_ge (tgt := 31) Z md_Mod_sendAll_9 (by decide) (by omega) (by omega) (fun h9 => ?_) (fun h9 => by exfalso; omega)
      exact xw_vret Z hr hlk hw md_Mod_sendAll_31 (by rw [show i = n by omega] at hinv; exact hinv)
    | succ d ih =>
      intro i Mi Hi Li ls hi hinv hw hl
      refine lv_iload Z.1 Z.2.1 md_Mod_sendAll_3 (lv_at hl 0 rfl) ?_
      refine lv_aload_n Z.1 Z.2.1 md_Mod_sendAll_5 rfl (lv_at hl 1 rfl) ?_
      refine xb_get (v := .int (Mi (0, 0) 0)) Z hw (by decide) (gm_e0 ad cI cZ) rfl tb_iMod 0 (by decide) mk_Mod_77 rfl rfl md_Mod_sendAll_6 ?_
      refine xi_re (show Mi (0, 0) 0 = nI (n) from hinv.1.1) ?_
      refine xi_icmp_ge (tgt := 31) Z md_Mod_sendAll_9 (by decide) (by omega) (by omega) (fun h9 => by exfalso; omega) (fun h9 => ?_)
      refine lv_aload_n Z.1 Z.2.1 md_Mod_sendAll_12 rfl (lv_at hl 1 rfl) ?_
      refine lv_iload_n Z.1 Z.2.1 md_Mod_sendAll_13 rfl (lv_at hl 2 rfl) ?_
      refine lv_iload_n Z.1 Z.2.1 md_Mod_sendAll_14 rfl (lv_at hl 3 rfl) ?_
      refine lv_iload_n Z.1 Z.2.1 md_Mod_sendAll_15 rfl (lv_at hl 4 rfl) ?_
      refine lv_iconst (v := nI 0) Z.1 Z.2.1 md_Mod_sendAll_16 (by decide) ?_
      refine lv_iload Z.1 Z.2.1 md_Mod_sendAll_17 (lv_at hl 0 rfl) ?_
      refine lv_iload Z.1 Z.2.1 md_Mod_sendAll_19 (lv_at hl 5 rfl) ?_
      refine lv_iconst (v := nI 0) Z.1 Z.2.1 md_Mod_sendAll_21 (by decide) ?_
      refine xw_cV (n := 7) (rest := []) Z hml hl.1 hN hw (r_send (g := pz_mg kd s r 0 i v 0) l D ad cI cZ hinv (fr_sa_len h60 i)) tb_g mc_Mod_send mk_Mod_97 mi_Mod_send ms_Mod_send mz_Mod ⟨by decide, by decide, by decide +kernel⟩ ⟨Nat.le_of_ble_eq_true rfl, Nat.le_of_ble_eq_true rfl⟩ (by decide) (gm_e0 ad cI cZ _) rfl rfl rfl rfl (Nat.le_of_ble_eq_true rfl) ⟨Nat.le_refl _, Nat.le_refl _⟩ md_Mod_sendAll_22 (fun M1 H1 locs1 hp hw => ?_)
      refine W.eq (g2 := F0 m 25 ls []) rfl ?_
      refine lv_iinc Z.1 Z.2.1 md_Mod_sendAll_25 hl (k := 0) rfl (xi_inc1 (i)) (by decide) rfl (fun ls hl => ?_)
      have hl : lv_has ls 6 [(5, .int (nI (i + 1))), (0, .ref (ad (0, 0))), (1, .int (nI (kd))), (2, .int (nI (s))), (3, .int (nI (r))), (4, .int (nI (v)))] := hl
      refine lv_goto (tgt := 3) Z.1 Z.2.1 md_Mod_sendAll_28 (by decide) ?_
      refine ih (i + 1) M1 _ _ ls (by omega) (hp) hw ?_
      exact lv_sub hl [0, 1, 2, 3, 4, 5] rfl
  exact loop3 n (0) M _ _ ls (by omega) h hw (lv_sub hl [0, 1, 2, 3, 4, 5] rfl)
set_option maxHeartbeats 4000000 in
theorem r_takeOut (l : Launch) (D : va_G) (ad : Nat × Nat → Nat) (cI cZ : ClassId) {M : fr_M} {n q f : Nat} {S : pz_T} {j : Nat} (h : gm_R n q f S M) (h60 : S.1.length ≤ 60) (hj : j < S.1.length) : gm_C l D ad cI cZ my_Mod_takeOut mb_Mod_takeOut 3 none 0 0 M [.ref (ad (0, 0)), .int (nI (j))] (none) (gm_R n q f (pz_rm S j)) := by
  refine xw_start [.ref (ad (0, 0)), .int (nI (j))] (by decide) (Nat.le_of_ble_eq_true rfl) ?_
  intro p e st m below meth cd0 ls Z hml hr hlk hN hl hw
  have hl : lv_has ls 3 [(0, .ref (ad (0, 0))), (1, .int (nI (j)))] := hl
  refine lv_aload_n Z.1 Z.2.1 md_Mod_takeOut_0 rfl (lv_at hl 0 rfl) ?_
  refine lv_dup Z.1 Z.2.1 md_Mod_takeOut_1 rfl ?_
  refine xb_get (v := .int (M (0, 0) 4)) Z hw (by decide) (gm_e0 ad cI cZ) rfl tb_iMod 4 (by decide) mk_Mod_91 rfl rfl md_Mod_takeOut_2 ?_
  refine xi_re (show M (0, 0) 4 = nI (S.1.length) from h.2.1.1) ?_
  refine lv_iconst (v := nI 1) Z.1 Z.2.1 md_Mod_takeOut_5 (by decide) ?_
  refine xi_sub Z md_Mod_takeOut_6 (by omega) ?_
  refine xb_put Z hw (by decide) (gm_e0 ad cI cZ) rfl tb_iMod tb_tMod tb_yMod tb_nMod 4 (by decide) mk_Mod_91 rfl rfl rfl (gm_s0_4 ad _) md_Mod_takeOut_7 (fun M1 H1 locs1 e1 hw => ?_)
  refine lv_iload_n Z.1 Z.2.1 md_Mod_takeOut_10 rfl (lv_at hl 1 rfl) ?_
  refine lv_istore_n Z.1 Z.2.1 md_Mod_takeOut_11 rfl hl (by decide) rfl (fun ls hl => ?_)
  have hl : lv_has ls 3 [(2, .int (nI (j))), (0, .ref (ad (0, 0))), (1, .int (nI (j)))] := hl
  have loop12 : ∀ (d i : Nat) (Mi : fr_M) (Hi : Heap) (Li : List Loc) (ls : Array Slot), i + d = (S.1.length - 1) → ((∀ k, ¬ (6 ≤ k ∧ k ≤ 12) → k ≠ 0 → Mi (k, 0) = M (k, 0)) ∧ (∀ t, t ≠ 4 → Mi (0, 0) t = M (0, 0) t) ∧ Mi (0, 0) 4 = nI (S.1.length - 1) ∧ (∀ k t, 6 ≤ k → k ≤ 12 → (t < j ∨ i ≤ t) → Mi (k, 0) t = M (k, 0) t) ∧ (∀ k t, 6 ≤ k → k ≤ 12 → j ≤ t → t < i → Mi (k, 0) t = M (k, 0) (t + 1)) ∧ j ≤ i) → xw_H D tb_cl (xw_A gm_ids ad) st.heap gm_ids ad (xw_M (gm_k ad cI cZ) Mi) Hi Li → lv_has ls 3 [(2, .int (nI (i))), (0, .ref (ad (0, 0))), (1, .int (nI (j)))] → W p l e { frames := 0, cells := 0, slots := 0, locals := 0 } st m [.ref (ad (0, 0)), .int (nI (j))].toArray below meth cd0 Hi Li 0 0 (MQ below (xw_Qc D tb_cl gm_ids ad (gm_k ad cI cZ) (none) (gm_R n q f (pz_rm S j))) [.ref (ad (0, 0)), .int (nI (j))].toArray st 0 0 (xw_A gm_ids ad)) (F0 m 12 ls []) := by
    intro d
    induction d with
    | zero =>
      intro i Mi Hi Li ls hi hinv hw hl
      refine lv_iload_n Z.1 Z.2.1 md_Mod_takeOut_12 rfl (lv_at hl 0 rfl) ?_
      refine lv_aload_n Z.1 Z.2.1 md_Mod_takeOut_13 rfl (lv_at hl 1 rfl) ?_
      refine xb_get (v := .int (Mi (0, 0) 4)) Z hw (by decide) (gm_e0 ad cI cZ) rfl tb_iMod 4 (by decide) mk_Mod_91 rfl rfl md_Mod_takeOut_14 ?_
      refine xi_re (show Mi (0, 0) 4 = nI (S.1.length - 1) from hinv.2.2.1) ?_
      refine xi_icmp_ge (tgt := 124) Z md_Mod_takeOut_17 (by decide) (by omega) (by omega) (fun h17 => ?_) (fun h17 => by exfalso; omega)
      exact xw_vret Z hr hlk hw md_Mod_takeOut_124 (gm_rm h hj hinv.1 hinv.2.1 hinv.2.2.1 (fun k t k1 k2 ht => hinv.2.2.2.1 k t k1 k2 (Or.inl ht)) (fun k t k1 k2 h1 h2 => hinv.2.2.2.2.1 k t k1 k2 h1 (by omega)))
    | succ d ih =>
      intro i Mi Hi Li ls hi hinv hw hl
      refine lv_iload_n Z.1 Z.2.1 md_Mod_takeOut_12 rfl (lv_at hl 0 rfl) ?_
      refine lv_aload_n Z.1 Z.2.1 md_Mod_takeOut_13 rfl (lv_at hl 1 rfl) ?_
      refine xb_get (v := .int (Mi (0, 0) 4)) Z hw (by decide) (gm_e0 ad cI cZ) rfl tb_iMod 4 (by decide) mk_Mod_91 rfl rfl md_Mod_takeOut_14 ?_
      refine xi_re (show Mi (0, 0) 4 = nI (S.1.length - 1) from hinv.2.2.1) ?_
      refine xi_icmp_ge (tgt := 124) Z md_Mod_takeOut_17 (by decide) (by omega) (by omega) (fun h17 => by exfalso; omega) (fun h17 => ?_)
      refine lv_aload_n Z.1 Z.2.1 md_Mod_takeOut_20 rfl (lv_at hl 1 rfl) ?_
      refine xb_get (v := .ref (ad (6, 0))) Z hw (by decide) (gm_e0 ad cI cZ) rfl tb_iMod 6 (by decide) mk_Mod_13 rfl rfl md_Mod_takeOut_21 ?_
      refine lv_iload_n Z.1 Z.2.1 md_Mod_takeOut_24 rfl (lv_at hl 0 rfl) ?_
      refine lv_aload_n Z.1 Z.2.1 md_Mod_takeOut_25 rfl (lv_at hl 1 rfl) ?_
      refine xb_get (v := .ref (ad (6, 0))) Z hw (by decide) (gm_e0 ad cI cZ) rfl tb_iMod 6 (by decide) mk_Mod_13 rfl rfl md_Mod_takeOut_26 ?_
      refine lv_iload_n Z.1 Z.2.1 md_Mod_takeOut_29 rfl (lv_at hl 0 rfl) ?_
      refine lv_iconst (v := nI 1) Z.1 Z.2.1 md_Mod_takeOut_30 (by decide) ?_
      refine xi_add Z md_Mod_takeOut_31 ?_
      refine xw_iald Z hw (by decide) (gm_e6 ad cI cZ) 0 rfl (i + 1) rfl (by omega) (by omega) md_Mod_takeOut_32 ?_
      refine xb_iast Z hw (by decide) (gm_e6 ad cI cZ) 0 rfl (i) rfl (by omega) (by omega) md_Mod_takeOut_33 (fun M2 H2 locs2 e2 hw => ?_)
      refine lv_aload_n Z.1 Z.2.1 md_Mod_takeOut_34 rfl (lv_at hl 1 rfl) ?_
      refine xb_get (v := .ref (ad (7, 0))) Z hw (by decide) (gm_e0 ad cI cZ) rfl tb_iMod 7 (by decide) mk_Mod_17 rfl rfl md_Mod_takeOut_35 ?_
      refine lv_iload_n Z.1 Z.2.1 md_Mod_takeOut_38 rfl (lv_at hl 0 rfl) ?_
      refine lv_aload_n Z.1 Z.2.1 md_Mod_takeOut_39 rfl (lv_at hl 1 rfl) ?_
      refine xb_get (v := .ref (ad (7, 0))) Z hw (by decide) (gm_e0 ad cI cZ) rfl tb_iMod 7 (by decide) mk_Mod_17 rfl rfl md_Mod_takeOut_40 ?_
      refine lv_iload_n Z.1 Z.2.1 md_Mod_takeOut_43 rfl (lv_at hl 0 rfl) ?_
      refine lv_iconst (v := nI 1) Z.1 Z.2.1 md_Mod_takeOut_44 (by decide) ?_
      refine xi_add Z md_Mod_takeOut_45 ?_
      refine xw_iald Z hw (by decide) (gm_e7 ad cI cZ) 0 rfl (i + 1) rfl (by omega) (by omega) md_Mod_takeOut_46 ?_
      refine xb_iast Z hw (by decide) (gm_e7 ad cI cZ) 0 rfl (i) rfl (by omega) (by omega) md_Mod_takeOut_47 (fun M3 H3 locs3 e3 hw => ?_)
      refine lv_aload_n Z.1 Z.2.1 md_Mod_takeOut_48 rfl (lv_at hl 1 rfl) ?_
      refine xb_get (v := .ref (ad (8, 0))) Z hw (by decide) (gm_e0 ad cI cZ) rfl tb_iMod 8 (by decide) mk_Mod_20 rfl rfl md_Mod_takeOut_49 ?_
      refine lv_iload_n Z.1 Z.2.1 md_Mod_takeOut_52 rfl (lv_at hl 0 rfl) ?_
      refine lv_aload_n Z.1 Z.2.1 md_Mod_takeOut_53 rfl (lv_at hl 1 rfl) ?_
      refine xb_get (v := .ref (ad (8, 0))) Z hw (by decide) (gm_e0 ad cI cZ) rfl tb_iMod 8 (by decide) mk_Mod_20 rfl rfl md_Mod_takeOut_54 ?_
      refine lv_iload_n Z.1 Z.2.1 md_Mod_takeOut_57 rfl (lv_at hl 0 rfl) ?_
      refine lv_iconst (v := nI 1) Z.1 Z.2.1 md_Mod_takeOut_58 (by decide) ?_
      refine xi_add Z md_Mod_takeOut_59 ?_
      refine xw_iald Z hw (by decide) (gm_e8 ad cI cZ) 0 rfl (i + 1) rfl (by omega) (by omega) md_Mod_takeOut_60 ?_
      refine xb_iast Z hw (by decide) (gm_e8 ad cI cZ) 0 rfl (i) rfl (by omega) (by omega) md_Mod_takeOut_61 (fun M4 H4 locs4 e4 hw => ?_)
      refine lv_aload_n Z.1 Z.2.1 md_Mod_takeOut_62 rfl (lv_at hl 1 rfl) ?_
      refine xb_get (v := .ref (ad (10, 0))) Z hw (by decide) (gm_e0 ad cI cZ) rfl tb_iMod 10 (by decide) mk_Mod_26 rfl rfl md_Mod_takeOut_63 ?_
      refine lv_iload_n Z.1 Z.2.1 md_Mod_takeOut_66 rfl (lv_at hl 0 rfl) ?_
      refine lv_aload_n Z.1 Z.2.1 md_Mod_takeOut_67 rfl (lv_at hl 1 rfl) ?_
      refine xb_get (v := .ref (ad (10, 0))) Z hw (by decide) (gm_e0 ad cI cZ) rfl tb_iMod 10 (by decide) mk_Mod_26 rfl rfl md_Mod_takeOut_68 ?_
      refine lv_iload_n Z.1 Z.2.1 md_Mod_takeOut_71 rfl (lv_at hl 0 rfl) ?_
      refine lv_iconst (v := nI 1) Z.1 Z.2.1 md_Mod_takeOut_72 (by decide) ?_
      refine xi_add Z md_Mod_takeOut_73 ?_
      refine xw_iald Z hw (by decide) (gm_e10 ad cI cZ) 0 rfl (i + 1) rfl (by omega) (by omega) md_Mod_takeOut_74 ?_
      refine xb_iast Z hw (by decide) (gm_e10 ad cI cZ) 0 rfl (i) rfl (by omega) (by omega) md_Mod_takeOut_75 (fun M5 H5 locs5 e5 hw => ?_)
      refine lv_aload_n Z.1 Z.2.1 md_Mod_takeOut_76 rfl (lv_at hl 1 rfl) ?_
      refine xb_get (v := .ref (ad (9, 0))) Z hw (by decide) (gm_e0 ad cI cZ) rfl tb_iMod 9 (by decide) mk_Mod_23 rfl rfl md_Mod_takeOut_77 ?_
      refine lv_iload_n Z.1 Z.2.1 md_Mod_takeOut_80 rfl (lv_at hl 0 rfl) ?_
      refine lv_aload_n Z.1 Z.2.1 md_Mod_takeOut_81 rfl (lv_at hl 1 rfl) ?_
      refine xb_get (v := .ref (ad (9, 0))) Z hw (by decide) (gm_e0 ad cI cZ) rfl tb_iMod 9 (by decide) mk_Mod_23 rfl rfl md_Mod_takeOut_82 ?_
      refine lv_iload_n Z.1 Z.2.1 md_Mod_takeOut_85 rfl (lv_at hl 0 rfl) ?_
      refine lv_iconst (v := nI 1) Z.1 Z.2.1 md_Mod_takeOut_86 (by decide) ?_
      refine xi_add Z md_Mod_takeOut_87 ?_
      refine xw_iald Z hw (by decide) (gm_e9 ad cI cZ) 0 rfl (i + 1) rfl (by omega) (by omega) md_Mod_takeOut_88 ?_
      refine xb_iast Z hw (by decide) (gm_e9 ad cI cZ) 0 rfl (i) rfl (by omega) (by omega) md_Mod_takeOut_89 (fun M6 H6 locs6 e6 hw => ?_)
      refine lv_aload_n Z.1 Z.2.1 md_Mod_takeOut_90 rfl (lv_at hl 1 rfl) ?_
      refine xb_get (v := .ref (ad (11, 0))) Z hw (by decide) (gm_e0 ad cI cZ) rfl tb_iMod 11 (by decide) mk_Mod_29 rfl rfl md_Mod_takeOut_91 ?_
      refine lv_iload_n Z.1 Z.2.1 md_Mod_takeOut_94 rfl (lv_at hl 0 rfl) ?_
      refine lv_aload_n Z.1 Z.2.1 md_Mod_takeOut_95 rfl (lv_at hl 1 rfl) ?_
      refine xb_get (v := .ref (ad (11, 0))) Z hw (by decide) (gm_e0 ad cI cZ) rfl tb_iMod 11 (by decide) mk_Mod_29 rfl rfl md_Mod_takeOut_96 ?_
      refine lv_iload_n Z.1 Z.2.1 md_Mod_takeOut_99 rfl (lv_at hl 0 rfl) ?_
      refine lv_iconst (v := nI 1) Z.1 Z.2.1 md_Mod_takeOut_100 (by decide) ?_
      refine xi_add Z md_Mod_takeOut_101 ?_
      refine xw_iald Z hw (by decide) (gm_e11 ad cI cZ) 0 rfl (i + 1) rfl (by omega) (by omega) md_Mod_takeOut_102 ?_
      refine xb_iast Z hw (by decide) (gm_e11 ad cI cZ) 0 rfl (i) rfl (by omega) (by omega) md_Mod_takeOut_103 (fun M7 H7 locs7 e7 hw => ?_)
      refine lv_aload_n Z.1 Z.2.1 md_Mod_takeOut_104 rfl (lv_at hl 1 rfl) ?_
      refine xb_get (v := .ref (ad (12, 0))) Z hw (by decide) (gm_e0 ad cI cZ) rfl tb_iMod 12 (by decide) mk_Mod_32 rfl rfl md_Mod_takeOut_105 ?_
      refine lv_iload_n Z.1 Z.2.1 md_Mod_takeOut_108 rfl (lv_at hl 0 rfl) ?_
      refine lv_aload_n Z.1 Z.2.1 md_Mod_takeOut_109 rfl (lv_at hl 1 rfl) ?_
      refine xb_get (v := .ref (ad (12, 0))) Z hw (by decide) (gm_e0 ad cI cZ) rfl tb_iMod 12 (by decide) mk_Mod_32 rfl rfl md_Mod_takeOut_110 ?_
      refine lv_iload_n Z.1 Z.2.1 md_Mod_takeOut_113 rfl (lv_at hl 0 rfl) ?_
      refine lv_iconst (v := nI 1) Z.1 Z.2.1 md_Mod_takeOut_114 (by decide) ?_
      refine xi_add Z md_Mod_takeOut_115 ?_
      refine xw_iald Z hw (by decide) (gm_e12 ad cI cZ) 0 rfl (i + 1) rfl (by omega) (by omega) md_Mod_takeOut_116 ?_
      refine xb_iast Z hw (by decide) (gm_e12 ad cI cZ) 0 rfl (i) rfl (by omega) (by omega) md_Mod_takeOut_117 (fun M8 H8 locs8 e8 hw => ?_)
      refine lv_iinc Z.1 Z.2.1 md_Mod_takeOut_118 hl (k := 0) rfl (xi_inc1 (i)) (by decide) rfl (fun ls hl => ?_)
      have hl : lv_has ls 3 [(2, .int (nI (i + 1))), (0, .ref (ad (0, 0))), (1, .int (nI (j)))] := hl
      refine lv_goto (tgt := 12) Z.1 Z.2.1 md_Mod_takeOut_121 (by decide) ?_
      have eo : ∀ k, ¬ (6 ≤ k ∧ k ≤ 12) → M8 (k, 0) = Mi (k, 0) := fun k hk => by rw [e8, xw_mw_n (fr_pair (by omega)), e7, xw_mw_n (fr_pair (by omega)), e6, xw_mw_n (fr_pair (by omega)), e5, xw_mw_n (fr_pair (by omega)), e4, xw_mw_n (fr_pair (by omega)), e3, xw_mw_n (fr_pair (by omega)), e2, xw_mw_n (fr_pair (by omega))]
      have c12 : M8 (12, 0) = upd (Mi (12, 0)) i (Mi (12, 0) (i + 1)) := by rw [e8, xw_mw_s, e7, xw_mw_n (by decide), e6, xw_mw_n (by decide), e5, xw_mw_n (by decide), e4, xw_mw_n (by decide), e3, xw_mw_n (by decide), e2, xw_mw_n (by decide)]
      have c11 : M8 (11, 0) = upd (Mi (11, 0)) i (Mi (11, 0) (i + 1)) := by rw [e8, xw_mw_n (by decide), e7, xw_mw_s, e6, xw_mw_n (by decide), e5, xw_mw_n (by decide), e4, xw_mw_n (by decide), e3, xw_mw_n (by decide), e2, xw_mw_n (by decide)]
      have c9 : M8 (9, 0) = upd (Mi (9, 0)) i (Mi (9, 0) (i + 1)) := by rw [e8, xw_mw_n (by decide), e7, xw_mw_n (by decide), e6, xw_mw_s, e5, xw_mw_n (by decide), e4, xw_mw_n (by decide), e3, xw_mw_n (by decide), e2, xw_mw_n (by decide)]
      have c10 : M8 (10, 0) = upd (Mi (10, 0)) i (Mi (10, 0) (i + 1)) := by rw [e8, xw_mw_n (by decide), e7, xw_mw_n (by decide), e6, xw_mw_n (by decide), e5, xw_mw_s, e4, xw_mw_n (by decide), e3, xw_mw_n (by decide), e2, xw_mw_n (by decide)]
      have c8 : M8 (8, 0) = upd (Mi (8, 0)) i (Mi (8, 0) (i + 1)) := by rw [e8, xw_mw_n (by decide), e7, xw_mw_n (by decide), e6, xw_mw_n (by decide), e5, xw_mw_n (by decide), e4, xw_mw_s, e3, xw_mw_n (by decide), e2, xw_mw_n (by decide)]
      have c7 : M8 (7, 0) = upd (Mi (7, 0)) i (Mi (7, 0) (i + 1)) := by rw [e8, xw_mw_n (by decide), e7, xw_mw_n (by decide), e6, xw_mw_n (by decide), e5, xw_mw_n (by decide), e4, xw_mw_n (by decide), e3, xw_mw_s, e2, xw_mw_n (by decide)]
      have c6 : M8 (6, 0) = upd (Mi (6, 0)) i (Mi (6, 0) (i + 1)) := by rw [e8, xw_mw_n (by decide), e7, xw_mw_n (by decide), e6, xw_mw_n (by decide), e5, xw_mw_n (by decide), e4, xw_mw_n (by decide), e3, xw_mw_n (by decide), e2, xw_mw_s]
      have ca : ∀ k, 6 ≤ k → k ≤ 12 → M8 (k, 0) = upd (Mi (k, 0)) i (Mi (k, 0) (i + 1)) := fun k k1 k2 => by
        have ks : k = 6 ∨ k = 7 ∨ k = 8 ∨ k = 9 ∨ k = 10 ∨ k = 11 ∨ k = 12 := by omega
        rcases ks with e | e | e | e | e | e | e <;> subst e <;> first | exact c6 | exact c7 | exact c8 | exact c9 | exact c10 | exact c11 | exact c12
      refine ih (i + 1) M8 _ _ ls (by omega) (⟨fun k hk h0 => by rw [eo k hk]; exact hinv.1 k hk h0, fun t ht => by rw [eo 0 (by omega)]; exact hinv.2.1 t ht, by rw [eo 0 (by omega)]; exact hinv.2.2.1, fun k t k1 k2 ht => by rw [ca k k1 k2]; unfold upd; rw [if_neg (by have := hinv.2.2.2.2.2; omega)]; exact hinv.2.2.2.1 k t k1 k2 (by omega), fun k t k1 k2 h1 h2 => by rw [ca k k1 k2]; unfold upd; by_cases e : t = i; (rw [if_pos e, e]; exact hinv.2.2.2.1 k (i + 1) k1 k2 (by omega)); (rw [if_neg e]; exact hinv.2.2.2.2.1 k t k1 k2 h1 (by omega)), by have := hinv.2.2.2.2.2; omega⟩) hw ?_
      exact lv_sub hl [0, 1, 2] rfl
  exact loop12 (S.1.length - 1 - j) (j) M1 _ _ ls (by omega) ⟨fun k _ h0 => by rw [e1, xw_mw_n (fr_pair h0)], fun t ht => by rw [e1, xw_mw_s]; simp [upd, ht], by rw [e1, xw_mw_s]; simp [upd], fun k t _ _ _ => by rw [e1, xw_mw_n (fr_pair (by omega))], fun k t _ _ h1 h2 => by omega, Nat.le_refl _⟩ hw (lv_sub hl [0, 1, 2] rfl)
