/-! The program's small methods: tests of numbers, the mail. -/
def fr_K (n q f : Nat) (S : pz_T) (ex : Nat → Nat → Prop) (M : fr_M) : fr_M → Prop := fun M' => fr_R n q f S ex M' ∧ M' (6, 0) = M (6, 0)
theorem md_FB_isSlot_0 : decode mb_FB_isSlot 0 = .ok (.iload_n 0, 1) := by decide +kernel
theorem md_FB_isSlot_1 : decode mb_FB_isSlot 1 = .ok (.ifCond .lt 12, 3) := by decide +kernel
theorem md_FB_isSlot_4 : decode mb_FB_isSlot 4 = .ok (.iload_n 0, 1) := by decide +kernel
theorem md_FB_isSlot_5 : decode mb_FB_isSlot 5 = .ok (.iconst 3, 1) := by decide +kernel
theorem md_FB_isSlot_6 : decode mb_FB_isSlot 6 = .ok (.if_icmp .ge 7, 3) := by decide +kernel
theorem md_FB_isSlot_9 : decode mb_FB_isSlot 9 = .ok (.iconst 1, 1) := by decide +kernel
theorem md_FB_isSlot_10 : decode mb_FB_isSlot 10 = .ok (.goto 4, 3) := by decide +kernel
theorem md_FB_isSlot_13 : decode mb_FB_isSlot 13 = .ok (.iconst 0, 1) := by decide +kernel
theorem md_FB_isSlot_14 : decode mb_FB_isSlot 14 = .ok (.ireturn, 1) := by decide +kernel
theorem md_FB_isRound_0 : decode mb_FB_isRound 0 = .ok (.iload_n 0, 1) := by decide +kernel
theorem md_FB_isRound_1 : decode mb_FB_isRound 1 = .ok (.iconst 1, 1) := by decide +kernel
theorem md_FB_isRound_2 : decode mb_FB_isRound 2 = .ok (.if_icmp .lt 13, 3) := by decide +kernel
theorem md_FB_isRound_5 : decode mb_FB_isRound 5 = .ok (.iload_n 0, 1) := by decide +kernel
theorem md_FB_isRound_6 : decode mb_FB_isRound 6 = .ok (.bipush 12, 2) := by decide +kernel
theorem md_FB_isRound_8 : decode mb_FB_isRound 8 = .ok (.if_icmp .gt 7, 3) := by decide +kernel
theorem md_FB_isRound_11 : decode mb_FB_isRound 11 = .ok (.iconst 1, 1) := by decide +kernel
theorem md_FB_isRound_12 : decode mb_FB_isRound 12 = .ok (.goto 4, 3) := by decide +kernel
theorem md_FB_isRound_15 : decode mb_FB_isRound 15 = .ok (.iconst 0, 1) := by decide +kernel
theorem md_FB_isRound_16 : decode mb_FB_isRound 16 = .ok (.ireturn, 1) := by decide +kernel
theorem md_FB_isValue_0 : decode mb_FB_isValue 0 = .ok (.iload_n 0, 1) := by decide +kernel
theorem md_FB_isValue_1 : decode mb_FB_isValue 1 = .ok (.iconst 1, 1) := by decide +kernel
theorem md_FB_isValue_2 : decode mb_FB_isValue 2 = .ok (.if_icmp .lt 14, 3) := by decide +kernel
theorem md_FB_isValue_5 : decode mb_FB_isValue 5 = .ok (.iload_n 0, 1) := by decide +kernel
theorem md_FB_isValue_6 : decode mb_FB_isValue 6 = .ok (.sipush 1000, 3) := by decide +kernel
theorem md_FB_isValue_9 : decode mb_FB_isValue 9 = .ok (.if_icmp .gt 7, 3) := by decide +kernel
theorem md_FB_isValue_12 : decode mb_FB_isValue 12 = .ok (.iconst 1, 1) := by decide +kernel
theorem md_FB_isValue_13 : decode mb_FB_isValue 13 = .ok (.goto 4, 3) := by decide +kernel
theorem md_FB_isValue_16 : decode mb_FB_isValue 16 = .ok (.iconst 0, 1) := by decide +kernel
theorem md_FB_isValue_17 : decode mb_FB_isValue 17 = .ok (.ireturn, 1) := by decide +kernel
theorem md_FB_isFast_0 : decode mb_FB_isFast 0 = .ok (.iload_n 0, 1) := by decide +kernel
theorem md_FB_isFast_1 : decode mb_FB_isFast 1 = .ok (.iconst 2, 1) := by decide +kernel
theorem md_FB_isFast_2 : decode mb_FB_isFast 2 = .ok (.irem, 1) := by decide +kernel
theorem md_FB_isFast_3 : decode mb_FB_isFast 3 = .ok (.iconst 1, 1) := by decide +kernel
theorem md_FB_isFast_4 : decode mb_FB_isFast 4 = .ok (.if_icmp .ne 7, 3) := by decide +kernel
theorem md_FB_isFast_7 : decode mb_FB_isFast 7 = .ok (.iconst 1, 1) := by decide +kernel
theorem md_FB_isFast_8 : decode mb_FB_isFast 8 = .ok (.goto 4, 3) := by decide +kernel
theorem md_FB_isFast_11 : decode mb_FB_isFast 11 = .ok (.iconst 0, 1) := by decide +kernel
theorem md_FB_isFast_12 : decode mb_FB_isFast 12 = .ok (.ireturn, 1) := by decide +kernel
theorem md_FB_coordinatorOf_0 : decode mb_FB_coordinatorOf 0 = .ok (.iload_n 0, 1) := by decide +kernel
theorem md_FB_coordinatorOf_1 : decode mb_FB_coordinatorOf 1 = .ok (.iconst 1, 1) := by decide +kernel
theorem md_FB_coordinatorOf_2 : decode mb_FB_coordinatorOf 2 = .ok (.isub, 1) := by decide +kernel
theorem md_FB_coordinatorOf_3 : decode mb_FB_coordinatorOf 3 = .ok (.iconst 2, 1) := by decide +kernel
theorem md_FB_coordinatorOf_4 : decode mb_FB_coordinatorOf 4 = .ok (.idiv, 1) := by decide +kernel
theorem md_FB_coordinatorOf_5 : decode mb_FB_coordinatorOf 5 = .ok (.iconst 2, 1) := by decide +kernel
theorem md_FB_coordinatorOf_6 : decode mb_FB_coordinatorOf 6 = .ok (.irem, 1) := by decide +kernel
theorem md_FB_coordinatorOf_7 : decode mb_FB_coordinatorOf 7 = .ok (.ifCond .ne 8, 3) := by decide +kernel
theorem md_FB_coordinatorOf_10 : decode mb_FB_coordinatorOf 10 = .ok (.bipush 8, 2) := by decide +kernel
theorem md_FB_coordinatorOf_12 : decode mb_FB_coordinatorOf 12 = .ok (.goto 5, 3) := by decide +kernel
theorem md_FB_coordinatorOf_15 : decode mb_FB_coordinatorOf 15 = .ok (.bipush 9, 2) := by decide +kernel
theorem md_FB_coordinatorOf_17 : decode mb_FB_coordinatorOf 17 = .ok (.ireturn, 1) := by decide +kernel
theorem md_FB_isCoordinator_0 : decode mb_FB_isCoordinator 0 = .ok (.iload_n 0, 1) := by decide +kernel
theorem md_FB_isCoordinator_1 : decode mb_FB_isCoordinator 1 = .ok (.bipush 8, 2) := by decide +kernel
theorem md_FB_isCoordinator_3 : decode mb_FB_isCoordinator 3 = .ok (.if_icmp .eq 9, 3) := by decide +kernel
theorem md_FB_isCoordinator_6 : decode mb_FB_isCoordinator 6 = .ok (.iload_n 0, 1) := by decide +kernel
theorem md_FB_isCoordinator_7 : decode mb_FB_isCoordinator 7 = .ok (.bipush 9, 2) := by decide +kernel
theorem md_FB_isCoordinator_9 : decode mb_FB_isCoordinator 9 = .ok (.if_icmp .ne 7, 3) := by decide +kernel
theorem md_FB_isCoordinator_12 : decode mb_FB_isCoordinator 12 = .ok (.iconst 1, 1) := by decide +kernel
theorem md_FB_isCoordinator_13 : decode mb_FB_isCoordinator 13 = .ok (.goto 4, 3) := by decide +kernel
theorem md_FB_isCoordinator_16 : decode mb_FB_isCoordinator 16 = .ok (.iconst 0, 1) := by decide +kernel
theorem md_FB_isCoordinator_17 : decode mb_FB_isCoordinator 17 = .ok (.ireturn, 1) := by decide +kernel
theorem md_FB_isAcceptor_0 : decode mb_FB_isAcceptor 0 = .ok (.iload_n 1, 1) := by decide +kernel
theorem md_FB_isAcceptor_1 : decode mb_FB_isAcceptor 1 = .ok (.ifCond .lt 18, 3) := by decide +kernel
theorem md_FB_isAcceptor_4 : decode mb_FB_isAcceptor 4 = .ok (.iload_n 1, 1) := by decide +kernel
theorem md_FB_isAcceptor_5 : decode mb_FB_isAcceptor 5 = .ok (.aload_n 0, 1) := by decide +kernel
theorem md_FB_isAcceptor_6 : decode mb_FB_isAcceptor 6 = .ok (.getfield 12, 3) := by decide +kernel
theorem md_FB_isAcceptor_9 : decode mb_FB_isAcceptor 9 = .ok (.getfield 45, 3) := by decide +kernel
theorem md_FB_isAcceptor_12 : decode mb_FB_isAcceptor 12 = .ok (.if_icmp .ge 7, 3) := by decide +kernel
theorem md_FB_isAcceptor_15 : decode mb_FB_isAcceptor 15 = .ok (.iconst 1, 1) := by decide +kernel
theorem md_FB_isAcceptor_16 : decode mb_FB_isAcceptor 16 = .ok (.goto 4, 3) := by decide +kernel
theorem md_FB_isAcceptor_19 : decode mb_FB_isAcceptor 19 = .ok (.iconst 0, 1) := by decide +kernel
theorem md_FB_isAcceptor_20 : decode mb_FB_isAcceptor 20 = .ok (.ireturn, 1) := by decide +kernel
theorem md_Mail_has_0 : decode mb_Mail_has 0 = .ok (.iload_n 1, 1) := by decide +kernel
theorem md_Mail_has_1 : decode mb_Mail_has 1 = .ok (.ifCond .lt 15, 3) := by decide +kernel
theorem md_Mail_has_4 : decode mb_Mail_has 4 = .ok (.iload_n 1, 1) := by decide +kernel
theorem md_Mail_has_5 : decode mb_Mail_has 5 = .ok (.aload_n 0, 1) := by decide +kernel
theorem md_Mail_has_6 : decode mb_Mail_has 6 = .ok (.getfield 20, 3) := by decide +kernel
theorem md_Mail_has_9 : decode mb_Mail_has 9 = .ok (.if_icmp .ge 7, 3) := by decide +kernel
theorem md_Mail_has_12 : decode mb_Mail_has 12 = .ok (.iconst 1, 1) := by decide +kernel
theorem md_Mail_has_13 : decode mb_Mail_has 13 = .ok (.goto 4, 3) := by decide +kernel
theorem md_Mail_has_16 : decode mb_Mail_has 16 = .ok (.iconst 0, 1) := by decide +kernel
theorem md_Mail_has_17 : decode mb_Mail_has 17 = .ok (.ireturn, 1) := by decide +kernel
theorem md_Mail_send_0 : decode mb_Mail_send 0 = .ok (.aload_n 0, 1) := by decide +kernel
theorem md_Mail_send_1 : decode mb_Mail_send 1 = .ok (.getfield 20, 3) := by decide +kernel
theorem md_Mail_send_4 : decode mb_Mail_send 4 = .ok (.bipush 60, 2) := by decide +kernel
theorem md_Mail_send_6 : decode mb_Mail_send 6 = .ok (.if_icmp .lt 14, 3) := by decide +kernel
theorem md_Mail_send_9 : decode mb_Mail_send 9 = .ok (.aload_n 0, 1) := by decide +kernel
theorem md_Mail_send_10 : decode mb_Mail_send 10 = .ok (.dup, 1) := by decide +kernel
theorem md_Mail_send_11 : decode mb_Mail_send 11 = .ok (.getfield 24, 3) := by decide +kernel
theorem md_Mail_send_14 : decode mb_Mail_send 14 = .ok (.iconst 1, 1) := by decide +kernel
theorem md_Mail_send_15 : decode mb_Mail_send 15 = .ok (.iadd, 1) := by decide +kernel
theorem md_Mail_send_16 : decode mb_Mail_send 16 = .ok (.putfield 24, 3) := by decide +kernel
theorem md_Mail_send_19 : decode mb_Mail_send 19 = .ok (.return_, 1) := by decide +kernel
theorem md_Mail_send_20 : decode mb_Mail_send 20 = .ok (.aload_n 0, 1) := by decide +kernel
theorem md_Mail_send_21 : decode mb_Mail_send 21 = .ok (.getfield 20, 3) := by decide +kernel
theorem md_Mail_send_24 : decode mb_Mail_send 24 = .ok (.bipush 7, 2) := by decide +kernel
theorem md_Mail_send_26 : decode mb_Mail_send 26 = .ok (.imul, 1) := by decide +kernel
theorem md_Mail_send_27 : decode mb_Mail_send 27 = .ok (.istore 8, 2) := by decide +kernel
theorem md_Mail_send_29 : decode mb_Mail_send 29 = .ok (.aload_n 0, 1) := by decide +kernel
theorem md_Mail_send_30 : decode mb_Mail_send 30 = .ok (.getfield 9, 3) := by decide +kernel
theorem md_Mail_send_33 : decode mb_Mail_send 33 = .ok (.iload 8, 2) := by decide +kernel
theorem md_Mail_send_35 : decode mb_Mail_send 35 = .ok (.iconst 0, 1) := by decide +kernel
theorem md_Mail_send_36 : decode mb_Mail_send 36 = .ok (.iadd, 1) := by decide +kernel
theorem md_Mail_send_37 : decode mb_Mail_send 37 = .ok (.iload_n 1, 1) := by decide +kernel
theorem md_Mail_send_38 : decode mb_Mail_send 38 = .ok (.iastore, 1) := by decide +kernel
theorem md_Mail_send_39 : decode mb_Mail_send 39 = .ok (.aload_n 0, 1) := by decide +kernel
theorem md_Mail_send_40 : decode mb_Mail_send 40 = .ok (.getfield 9, 3) := by decide +kernel
theorem md_Mail_send_43 : decode mb_Mail_send 43 = .ok (.iload 8, 2) := by decide +kernel
theorem md_Mail_send_45 : decode mb_Mail_send 45 = .ok (.iconst 1, 1) := by decide +kernel
theorem md_Mail_send_46 : decode mb_Mail_send 46 = .ok (.iadd, 1) := by decide +kernel
theorem md_Mail_send_47 : decode mb_Mail_send 47 = .ok (.iload_n 2, 1) := by decide +kernel
theorem md_Mail_send_48 : decode mb_Mail_send 48 = .ok (.iastore, 1) := by decide +kernel
theorem md_Mail_send_49 : decode mb_Mail_send 49 = .ok (.aload_n 0, 1) := by decide +kernel
theorem md_Mail_send_50 : decode mb_Mail_send 50 = .ok (.getfield 9, 3) := by decide +kernel
theorem md_Mail_send_53 : decode mb_Mail_send 53 = .ok (.iload 8, 2) := by decide +kernel
theorem md_Mail_send_55 : decode mb_Mail_send 55 = .ok (.iconst 2, 1) := by decide +kernel
theorem md_Mail_send_56 : decode mb_Mail_send 56 = .ok (.iadd, 1) := by decide +kernel
theorem md_Mail_send_57 : decode mb_Mail_send 57 = .ok (.iload_n 3, 1) := by decide +kernel
theorem md_Mail_send_58 : decode mb_Mail_send 58 = .ok (.iastore, 1) := by decide +kernel
theorem md_Mail_send_59 : decode mb_Mail_send 59 = .ok (.aload_n 0, 1) := by decide +kernel
theorem md_Mail_send_60 : decode mb_Mail_send 60 = .ok (.getfield 9, 3) := by decide +kernel
theorem md_Mail_send_63 : decode mb_Mail_send 63 = .ok (.iload 8, 2) := by decide +kernel
theorem md_Mail_send_65 : decode mb_Mail_send 65 = .ok (.iconst 3, 1) := by decide +kernel
theorem md_Mail_send_66 : decode mb_Mail_send 66 = .ok (.iadd, 1) := by decide +kernel
theorem md_Mail_send_67 : decode mb_Mail_send 67 = .ok (.iload 4, 2) := by decide +kernel
theorem md_Mail_send_69 : decode mb_Mail_send 69 = .ok (.iastore, 1) := by decide +kernel
theorem md_Mail_send_70 : decode mb_Mail_send 70 = .ok (.aload_n 0, 1) := by decide +kernel
theorem md_Mail_send_71 : decode mb_Mail_send 71 = .ok (.getfield 9, 3) := by decide +kernel
theorem md_Mail_send_74 : decode mb_Mail_send 74 = .ok (.iload 8, 2) := by decide +kernel
theorem md_Mail_send_76 : decode mb_Mail_send 76 = .ok (.iconst 4, 1) := by decide +kernel
theorem md_Mail_send_77 : decode mb_Mail_send 77 = .ok (.iadd, 1) := by decide +kernel
theorem md_Mail_send_78 : decode mb_Mail_send 78 = .ok (.iload 5, 2) := by decide +kernel
theorem md_Mail_send_80 : decode mb_Mail_send 80 = .ok (.iastore, 1) := by decide +kernel
theorem md_Mail_send_81 : decode mb_Mail_send 81 = .ok (.aload_n 0, 1) := by decide +kernel
theorem md_Mail_send_82 : decode mb_Mail_send 82 = .ok (.getfield 9, 3) := by decide +kernel
theorem md_Mail_send_85 : decode mb_Mail_send 85 = .ok (.iload 8, 2) := by decide +kernel
theorem md_Mail_send_87 : decode mb_Mail_send 87 = .ok (.iconst 5, 1) := by decide +kernel
theorem md_Mail_send_88 : decode mb_Mail_send 88 = .ok (.iadd, 1) := by decide +kernel
theorem md_Mail_send_89 : decode mb_Mail_send 89 = .ok (.iload 6, 2) := by decide +kernel
theorem md_Mail_send_91 : decode mb_Mail_send 91 = .ok (.iastore, 1) := by decide +kernel
theorem md_Mail_send_92 : decode mb_Mail_send 92 = .ok (.aload_n 0, 1) := by decide +kernel
theorem md_Mail_send_93 : decode mb_Mail_send 93 = .ok (.getfield 9, 3) := by decide +kernel
theorem md_Mail_send_96 : decode mb_Mail_send 96 = .ok (.iload 8, 2) := by decide +kernel
theorem md_Mail_send_98 : decode mb_Mail_send 98 = .ok (.bipush 6, 2) := by decide +kernel
theorem md_Mail_send_100 : decode mb_Mail_send 100 = .ok (.iadd, 1) := by decide +kernel
theorem md_Mail_send_101 : decode mb_Mail_send 101 = .ok (.iload 7, 2) := by decide +kernel
theorem md_Mail_send_103 : decode mb_Mail_send 103 = .ok (.iastore, 1) := by decide +kernel
theorem md_Mail_send_104 : decode mb_Mail_send 104 = .ok (.aload_n 0, 1) := by decide +kernel
theorem md_Mail_send_105 : decode mb_Mail_send 105 = .ok (.dup, 1) := by decide +kernel
theorem md_Mail_send_106 : decode mb_Mail_send 106 = .ok (.getfield 20, 3) := by decide +kernel
theorem md_Mail_send_109 : decode mb_Mail_send 109 = .ok (.iconst 1, 1) := by decide +kernel
theorem md_Mail_send_110 : decode mb_Mail_send 110 = .ok (.iadd, 1) := by decide +kernel
theorem md_Mail_send_111 : decode mb_Mail_send 111 = .ok (.putfield 20, 3) := by decide +kernel
theorem md_Mail_send_114 : decode mb_Mail_send 114 = .ok (.return_, 1) := by decide +kernel
theorem md_Mail_valueIn_0 : decode mb_Mail_valueIn 0 = .ok (.aload_n 0, 1) := by decide +kernel
theorem md_Mail_valueIn_1 : decode mb_Mail_valueIn 1 = .ok (.getfield 9, 3) := by decide +kernel
theorem md_Mail_valueIn_4 : decode mb_Mail_valueIn 4 = .ok (.iload_n 1, 1) := by decide +kernel
theorem md_Mail_valueIn_5 : decode mb_Mail_valueIn 5 = .ok (.bipush 7, 2) := by decide +kernel
theorem md_Mail_valueIn_7 : decode mb_Mail_valueIn 7 = .ok (.imul, 1) := by decide +kernel
theorem md_Mail_valueIn_8 : decode mb_Mail_valueIn 8 = .ok (.iconst 5, 1) := by decide +kernel
theorem md_Mail_valueIn_9 : decode mb_Mail_valueIn 9 = .ok (.iadd, 1) := by decide +kernel
theorem md_Mail_valueIn_10 : decode mb_Mail_valueIn 10 = .ok (.iaload, 1) := by decide +kernel
theorem md_Mail_valueIn_11 : decode mb_Mail_valueIn 11 = .ok (.ireturn, 1) := by decide +kernel
theorem md_Mail_label_0 : decode mb_Mail_label 0 = .ok (.iload_n 1, 1) := by decide +kernel
theorem md_Mail_label_1 : decode mb_Mail_label 1 = .ok (.bipush 7, 2) := by decide +kernel
theorem md_Mail_label_3 : decode mb_Mail_label 3 = .ok (.imul, 1) := by decide +kernel
theorem md_Mail_label_4 : decode mb_Mail_label 4 = .ok (.istore_n 2, 1) := by decide +kernel
theorem md_Mail_label_5 : decode mb_Mail_label 5 = .ok (.ldc 58, 2) := by decide +kernel
theorem md_Mail_label_7 : decode mb_Mail_label 7 = .ok (.aload_n 0, 1) := by decide +kernel
theorem md_Mail_label_8 : decode mb_Mail_label 8 = .ok (.getfield 9, 3) := by decide +kernel
theorem md_Mail_label_11 : decode mb_Mail_label 11 = .ok (.iload_n 2, 1) := by decide +kernel
theorem md_Mail_label_12 : decode mb_Mail_label 12 = .ok (.iconst 0, 1) := by decide +kernel
theorem md_Mail_label_13 : decode mb_Mail_label 13 = .ok (.iadd, 1) := by decide +kernel
theorem md_Mail_label_14 : decode mb_Mail_label 14 = .ok (.iaload, 1) := by decide +kernel
theorem md_Mail_label_15 : decode mb_Mail_label 15 = .ok (.imul, 1) := by decide +kernel
theorem md_Mail_label_16 : decode mb_Mail_label 16 = .ok (.sipush 10000, 3) := by decide +kernel
theorem md_Mail_label_19 : decode mb_Mail_label 19 = .ok (.aload_n 0, 1) := by decide +kernel
theorem md_Mail_label_20 : decode mb_Mail_label 20 = .ok (.getfield 9, 3) := by decide +kernel
theorem md_Mail_label_23 : decode mb_Mail_label 23 = .ok (.iload_n 2, 1) := by decide +kernel
theorem md_Mail_label_24 : decode mb_Mail_label 24 = .ok (.iconst 1, 1) := by decide +kernel
theorem md_Mail_label_25 : decode mb_Mail_label 25 = .ok (.iadd, 1) := by decide +kernel
theorem md_Mail_label_26 : decode mb_Mail_label 26 = .ok (.iaload, 1) := by decide +kernel
theorem md_Mail_label_27 : decode mb_Mail_label 27 = .ok (.imul, 1) := by decide +kernel
theorem md_Mail_label_28 : decode mb_Mail_label 28 = .ok (.iadd, 1) := by decide +kernel
theorem md_Mail_label_29 : decode mb_Mail_label 29 = .ok (.istore_n 3, 1) := by decide +kernel
theorem md_Mail_label_30 : decode mb_Mail_label 30 = .ok (.iload_n 3, 1) := by decide +kernel
theorem md_Mail_label_31 : decode mb_Mail_label 31 = .ok (.bipush 100, 2) := by decide +kernel
theorem md_Mail_label_33 : decode mb_Mail_label 33 = .ok (.aload_n 0, 1) := by decide +kernel
theorem md_Mail_label_34 : decode mb_Mail_label 34 = .ok (.getfield 9, 3) := by decide +kernel
theorem md_Mail_label_37 : decode mb_Mail_label 37 = .ok (.iload_n 2, 1) := by decide +kernel
theorem md_Mail_label_38 : decode mb_Mail_label 38 = .ok (.iconst 2, 1) := by decide +kernel
theorem md_Mail_label_39 : decode mb_Mail_label 39 = .ok (.iadd, 1) := by decide +kernel
theorem md_Mail_label_40 : decode mb_Mail_label 40 = .ok (.iaload, 1) := by decide +kernel
theorem md_Mail_label_41 : decode mb_Mail_label 41 = .ok (.imul, 1) := by decide +kernel
theorem md_Mail_label_42 : decode mb_Mail_label 42 = .ok (.iadd, 1) := by decide +kernel
theorem md_Mail_label_43 : decode mb_Mail_label 43 = .ok (.aload_n 0, 1) := by decide +kernel
theorem md_Mail_label_44 : decode mb_Mail_label 44 = .ok (.getfield 9, 3) := by decide +kernel
theorem md_Mail_label_47 : decode mb_Mail_label 47 = .ok (.iload_n 2, 1) := by decide +kernel
theorem md_Mail_label_48 : decode mb_Mail_label 48 = .ok (.iconst 4, 1) := by decide +kernel
theorem md_Mail_label_49 : decode mb_Mail_label 49 = .ok (.iadd, 1) := by decide +kernel
theorem md_Mail_label_50 : decode mb_Mail_label 50 = .ok (.iaload, 1) := by decide +kernel
theorem md_Mail_label_51 : decode mb_Mail_label 51 = .ok (.iadd, 1) := by decide +kernel
theorem md_Mail_label_52 : decode mb_Mail_label 52 = .ok (.ireturn, 1) := by decide +kernel
set_option maxHeartbeats 4000000 in
theorem k_isSlot1 (l : Launch) (D : va_G) {n : Nat} (ad : Nat × Nat → Nat) (cI cZ cS cA : ClassId) {M : fr_M} {j : Nat} (hj : j < 3) : fb_C l D n ad cI cZ cS cA my_FB_isSlot mb_FB_isSlot 1 (some .boolean) 0 0 M [.int (nI (j))] (some (.int (nI 1))) (fun M' => M' = M) := by
  refine xw_start [.int (nI (j))] (by decide) (Nat.le_of_ble_eq_true rfl) ?_
  intro p e st m below meth cd0 ls Z hml hr hlk hN hl hw
  have hl : lv_has ls 1 [(0, .int (nI (j)))] := hl
  refine lv_iload_n Z.1 Z.2.1 md_FB_isSlot_0 rfl (lv_at hl 0 rfl) ?_
  refine lv_if_lt (tgt := 13) Z.1 Z.2.1 md_FB_isSlot_1 (by decide) (fun h1 => by exfalso; exact nI_pos (by omega) h1) (fun h1 => ?_)
  refine lv_iload_n Z.1 Z.2.1 md_FB_isSlot_4 rfl (lv_at hl 0 rfl) ?_
  refine lv_iconst (v := nI 3) Z.1 Z.2.1 md_FB_isSlot_5 (by decide) ?_
  refine xi_icmp_ge (tgt := 13) Z md_FB_isSlot_6 (by decide) (by omega) (by omega) (fun h6 => by exfalso; omega) (fun h6 => ?_)
  refine lv_iconst (v := nI 1) Z.1 Z.2.1 md_FB_isSlot_9 (by decide) ?_
  refine lv_goto (tgt := 14) Z.1 Z.2.1 md_FB_isSlot_10 (by decide) ?_
  exact xw_zret Z hr hlk hw md_FB_isSlot_14 rfl rfl rfl
set_option maxHeartbeats 4000000 in
theorem k_isSlot0 (l : Launch) (D : va_G) {n : Nat} (ad : Nat × Nat → Nat) (cI cZ cS cA : ClassId) {M : fr_M} {x : Int32} (hx : x < 0 ∨ nI 3 ≤ x) : fb_C l D n ad cI cZ cS cA my_FB_isSlot mb_FB_isSlot 1 (some .boolean) 0 0 M [.int (x)] (some (.int (nI 0))) (fun M' => M' = M) := by
  refine xw_start [.int (x)] (by decide) (Nat.le_of_ble_eq_true rfl) ?_
  intro p e st m below meth cd0 ls Z hml hr hlk hN hl hw
  have hl : lv_has ls 1 [(0, .int (x))] := hl
  refine lv_iload_n Z.1 Z.2.1 md_FB_isSlot_0 rfl (lv_at hl 0 rfl) ?_
  refine lv_if_lt (tgt := 13) Z.1 Z.2.1 md_FB_isSlot_1 (by decide) (fun h1 => ?_) (fun h1 => ?_)
  · refine lv_iconst (v := nI 0) Z.1 Z.2.1 md_FB_isSlot_13 (by decide) ?_
    exact xw_zret Z hr hlk hw md_FB_isSlot_14 rfl rfl rfl
  · refine lv_iload_n Z.1 Z.2.1 md_FB_isSlot_4 rfl (lv_at hl 0 rfl) ?_
    refine lv_iconst (v := nI 3) Z.1 Z.2.1 md_FB_isSlot_5 (by decide) ?_
    refine lv_icmp_ge (tgt := 13) Z.1 Z.2.1 md_FB_isSlot_6 (by decide) (fun h6 => ?_) (fun h6 => by exfalso; exact hx.elim h1 h6)
    refine lv_iconst (v := nI 0) Z.1 Z.2.1 md_FB_isSlot_13 (by decide) ?_
    exact xw_zret Z hr hlk hw md_FB_isSlot_14 rfl rfl rfl
set_option maxHeartbeats 4000000 in
theorem k_isRound1 (l : Launch) (D : va_G) {n : Nat} (ad : Nat × Nat → Nat) (cI cZ cS cA : ClassId) {M : fr_M} {j : Nat} (hj : 1 ≤ j) (hj2 : j ≤ 12) : fb_C l D n ad cI cZ cS cA my_FB_isRound mb_FB_isRound 1 (some .boolean) 0 0 M [.int (nI (j))] (some (.int (nI 1))) (fun M' => M' = M) := by
  refine xw_start [.int (nI (j))] (by decide) (Nat.le_of_ble_eq_true rfl) ?_
  intro p e st m below meth cd0 ls Z hml hr hlk hN hl hw
  have hl : lv_has ls 1 [(0, .int (nI (j)))] := hl
  refine lv_iload_n Z.1 Z.2.1 md_FB_isRound_0 rfl (lv_at hl 0 rfl) ?_
  refine lv_iconst (v := nI 1) Z.1 Z.2.1 md_FB_isRound_1 (by decide) ?_
  refine xi_icmp_lt (tgt := 15) Z md_FB_isRound_2 (by decide) (by omega) (by omega) (fun h2 => by exfalso; omega) (fun h2 => ?_)
  refine lv_iload_n Z.1 Z.2.1 md_FB_isRound_5 rfl (lv_at hl 0 rfl) ?_
  refine lv_bipush (v := nI 12) Z.1 Z.2.1 md_FB_isRound_6 (by decide) ?_
  refine xi_icmp_gt (tgt := 15) Z md_FB_isRound_8 (by decide) (by omega) (by omega) (fun h8 => by exfalso; omega) (fun h8 => ?_)
  refine lv_iconst (v := nI 1) Z.1 Z.2.1 md_FB_isRound_11 (by decide) ?_
  refine lv_goto (tgt := 16) Z.1 Z.2.1 md_FB_isRound_12 (by decide) ?_
  exact xw_zret Z hr hlk hw md_FB_isRound_16 rfl rfl rfl
set_option maxHeartbeats 4000000 in
theorem k_isRound0 (l : Launch) (D : va_G) {n : Nat} (ad : Nat × Nat → Nat) (cI cZ cS cA : ClassId) {M : fr_M} {x : Int32} (hx : x < nI 1 ∨ nI 12 < x) : fb_C l D n ad cI cZ cS cA my_FB_isRound mb_FB_isRound 1 (some .boolean) 0 0 M [.int (x)] (some (.int (nI 0))) (fun M' => M' = M) := by
  refine xw_start [.int (x)] (by decide) (Nat.le_of_ble_eq_true rfl) ?_
  intro p e st m below meth cd0 ls Z hml hr hlk hN hl hw
  have hl : lv_has ls 1 [(0, .int (x))] := hl
  refine lv_iload_n Z.1 Z.2.1 md_FB_isRound_0 rfl (lv_at hl 0 rfl) ?_
  refine lv_iconst (v := nI 1) Z.1 Z.2.1 md_FB_isRound_1 (by decide) ?_
  refine lv_icmp_lt (tgt := 15) Z.1 Z.2.1 md_FB_isRound_2 (by decide) (fun h2 => ?_) (fun h2 => ?_)
  · refine lv_iconst (v := nI 0) Z.1 Z.2.1 md_FB_isRound_15 (by decide) ?_
    exact xw_zret Z hr hlk hw md_FB_isRound_16 rfl rfl rfl
  · refine lv_iload_n Z.1 Z.2.1 md_FB_isRound_5 rfl (lv_at hl 0 rfl) ?_
    refine lv_bipush (v := nI 12) Z.1 Z.2.1 md_FB_isRound_6 (by decide) ?_
    refine lv_icmp_gt (tgt := 15) Z.1 Z.2.1 md_FB_isRound_8 (by decide) (fun h8 => ?_) (fun h8 => by exfalso; exact hx.elim h2 h8)
    refine lv_iconst (v := nI 0) Z.1 Z.2.1 md_FB_isRound_15 (by decide) ?_
    exact xw_zret Z hr hlk hw md_FB_isRound_16 rfl rfl rfl
set_option maxHeartbeats 4000000 in
theorem k_isValue1 (l : Launch) (D : va_G) {n : Nat} (ad : Nat × Nat → Nat) (cI cZ cS cA : ClassId) {M : fr_M} {j : Nat} (hj : 1 ≤ j) (hj2 : j ≤ 1000) : fb_C l D n ad cI cZ cS cA my_FB_isValue mb_FB_isValue 1 (some .boolean) 0 0 M [.int (nI (j))] (some (.int (nI 1))) (fun M' => M' = M) := by
  refine xw_start [.int (nI (j))] (by decide) (Nat.le_of_ble_eq_true rfl) ?_
  intro p e st m below meth cd0 ls Z hml hr hlk hN hl hw
  have hl : lv_has ls 1 [(0, .int (nI (j)))] := hl
  refine lv_iload_n Z.1 Z.2.1 md_FB_isValue_0 rfl (lv_at hl 0 rfl) ?_
  refine lv_iconst (v := nI 1) Z.1 Z.2.1 md_FB_isValue_1 (by decide) ?_
  refine xi_icmp_lt (tgt := 16) Z md_FB_isValue_2 (by decide) (by omega) (by omega) (fun h2 => by exfalso; omega) (fun h2 => ?_)
  refine lv_iload_n Z.1 Z.2.1 md_FB_isValue_5 rfl (lv_at hl 0 rfl) ?_
  refine lv_sipush (v := nI 1000) Z.1 Z.2.1 md_FB_isValue_6 (by decide) ?_
  refine xi_icmp_gt (tgt := 16) Z md_FB_isValue_9 (by decide) (by omega) (by omega) (fun h9 => by exfalso; omega) (fun h9 => ?_)
  refine lv_iconst (v := nI 1) Z.1 Z.2.1 md_FB_isValue_12 (by decide) ?_
  refine lv_goto (tgt := 17) Z.1 Z.2.1 md_FB_isValue_13 (by decide) ?_
  exact xw_zret Z hr hlk hw md_FB_isValue_17 rfl rfl rfl
set_option maxHeartbeats 4000000 in
theorem k_isValue0 (l : Launch) (D : va_G) {n : Nat} (ad : Nat × Nat → Nat) (cI cZ cS cA : ClassId) {M : fr_M} {x : Int32} (hx : x < nI 1 ∨ nI 1000 < x) : fb_C l D n ad cI cZ cS cA my_FB_isValue mb_FB_isValue 1 (some .boolean) 0 0 M [.int (x)] (some (.int (nI 0))) (fun M' => M' = M) := by
  refine xw_start [.int (x)] (by decide) (Nat.le_of_ble_eq_true rfl) ?_
  intro p e st m below meth cd0 ls Z hml hr hlk hN hl hw
  have hl : lv_has ls 1 [(0, .int (x))] := hl
  refine lv_iload_n Z.1 Z.2.1 md_FB_isValue_0 rfl (lv_at hl 0 rfl) ?_
  refine lv_iconst (v := nI 1) Z.1 Z.2.1 md_FB_isValue_1 (by decide) ?_
  refine lv_icmp_lt (tgt := 16) Z.1 Z.2.1 md_FB_isValue_2 (by decide) (fun h2 => ?_) (fun h2 => ?_)
  · refine lv_iconst (v := nI 0) Z.1 Z.2.1 md_FB_isValue_16 (by decide) ?_
    exact xw_zret Z hr hlk hw md_FB_isValue_17 rfl rfl rfl
  · refine lv_iload_n Z.1 Z.2.1 md_FB_isValue_5 rfl (lv_at hl 0 rfl) ?_
    refine lv_sipush (v := nI 1000) Z.1 Z.2.1 md_FB_isValue_6 (by decide) ?_
    refine lv_icmp_gt (tgt := 16) Z.1 Z.2.1 md_FB_isValue_9 (by decide) (fun h9 => ?_) (fun h9 => by exfalso; exact hx.elim h2 h9)
    refine lv_iconst (v := nI 0) Z.1 Z.2.1 md_FB_isValue_16 (by decide) ?_
    exact xw_zret Z hr hlk hw md_FB_isValue_17 rfl rfl rfl
set_option maxHeartbeats 4000000 in
theorem k_isFast (l : Launch) (D : va_G) {n : Nat} (ad : Nat × Nat → Nat) (cI cZ cS cA : ClassId) {M : fr_M} {j : Nat} (hj : j < 2 ^ 31) : fb_C l D n ad cI cZ cS cA my_FB_isFast mb_FB_isFast 1 (some .boolean) 0 0 M [.int (nI (j))] (some (.int (nI (j % 2)))) (fun M' => M' = M) := by
  refine xw_start [.int (nI (j))] (by decide) (Nat.le_of_ble_eq_true rfl) ?_
  intro p e st m below meth cd0 ls Z hml hr hlk hN hl hw
  have hl : lv_has ls 1 [(0, .int (nI (j)))] := hl
  refine lv_iload_n Z.1 Z.2.1 md_FB_isFast_0 rfl (lv_at hl 0 rfl) ?_
  refine lv_iconst (v := nI 2) Z.1 Z.2.1 md_FB_isFast_1 (by decide) ?_
  refine xi_rem Z md_FB_isFast_2 (by omega) (by omega) (by omega) ?_
  refine lv_iconst (v := nI 1) Z.1 Z.2.1 md_FB_isFast_3 (by decide) ?_
  refine xi_icmp_ne (tgt := 11) Z md_FB_isFast_4 (by decide) (by omega) (by omega) (fun h4 => ?_) (fun h4 => ?_)
  · refine lv_iconst (v := nI 0) Z.1 Z.2.1 md_FB_isFast_11 (by decide) ?_
    exact xw_zret Z hr hlk hw md_FB_isFast_12 (by first | rw [show j % 2 = 1 by omega] | rw [show j % 2 = 0 by omega]) rfl rfl
  · refine lv_iconst (v := nI 1) Z.1 Z.2.1 md_FB_isFast_7 (by decide) ?_
    refine lv_goto (tgt := 12) Z.1 Z.2.1 md_FB_isFast_8 (by decide) ?_
    exact xw_zret Z hr hlk hw md_FB_isFast_12 (by first | rw [show j % 2 = 1 by omega] | rw [show j % 2 = 0 by omega]) rfl rfl
set_option maxHeartbeats 4000000 in
theorem k_coordinatorOf (l : Launch) (D : va_G) {n : Nat} (ad : Nat × Nat → Nat) (cI cZ cS cA : ClassId) {M : fr_M} {j : Nat} (hj0 : 1 ≤ j) (hj : j < 2 ^ 31) : fb_C l D n ad cI cZ cS cA my_FB_coordinatorOf mb_FB_coordinatorOf 1 (some .int) 0 0 M [.int (nI (j))] (some (.int (nI (8 + pz_ci j)))) (fun M' => M' = M) := by
  refine xw_start [.int (nI (j))] (by decide) (Nat.le_of_ble_eq_true rfl) ?_
  intro p e st m below meth cd0 ls Z hml hr hlk hN hl hw
  have hl : lv_has ls 1 [(0, .int (nI (j)))] := hl
  refine lv_iload_n Z.1 Z.2.1 md_FB_coordinatorOf_0 rfl (lv_at hl 0 rfl) ?_
  refine lv_iconst (v := nI 1) Z.1 Z.2.1 md_FB_coordinatorOf_1 (by decide) ?_
  refine xi_sub Z md_FB_coordinatorOf_2 (by omega) ?_
  refine lv_iconst (v := nI 2) Z.1 Z.2.1 md_FB_coordinatorOf_3 (by decide) ?_
  refine xi_div Z md_FB_coordinatorOf_4 (by omega) (by omega) (by omega) ?_
  refine lv_iconst (v := nI 2) Z.1 Z.2.1 md_FB_coordinatorOf_5 (by decide) ?_
  refine xi_rem Z md_FB_coordinatorOf_6 (by omega) (by omega) (by omega) ?_
  refine xi_if_ne (tgt := 15) Z md_FB_coordinatorOf_7 (by decide) (by omega) (fun h7 => ?_) (fun h7 => ?_)
  · refine lv_bipush (v := nI 9) Z.1 Z.2.1 md_FB_coordinatorOf_15 (by decide) ?_
    exact xw_iret Z hr hlk hw md_FB_coordinatorOf_17 (by unfold pz_ci; first | rw [if_pos (by omega)] | rw [if_neg (by omega)]) rfl
  · refine lv_bipush (v := nI 8) Z.1 Z.2.1 md_FB_coordinatorOf_10 (by decide) ?_
    refine lv_goto (tgt := 17) Z.1 Z.2.1 md_FB_coordinatorOf_12 (by decide) ?_
    exact xw_iret Z hr hlk hw md_FB_coordinatorOf_17 (by unfold pz_ci; first | rw [if_pos (by omega)] | rw [if_neg (by omega)]) rfl
set_option maxHeartbeats 4000000 in
theorem k_isCoordinator1 (l : Launch) (D : va_G) {n : Nat} (ad : Nat × Nat → Nat) (cI cZ cS cA : ClassId) {M : fr_M} {j : Nat} (hj : j = 8 ∨ j = 9) : fb_C l D n ad cI cZ cS cA my_FB_isCoordinator mb_FB_isCoordinator 1 (some .boolean) 0 0 M [.int (nI (j))] (some (.int (nI 1))) (fun M' => M' = M) := by
  refine xw_start [.int (nI (j))] (by decide) (Nat.le_of_ble_eq_true rfl) ?_
  intro p e st m below meth cd0 ls Z hml hr hlk hN hl hw
  have hl : lv_has ls 1 [(0, .int (nI (j)))] := hl
  refine lv_iload_n Z.1 Z.2.1 md_FB_isCoordinator_0 rfl (lv_at hl 0 rfl) ?_
  refine lv_bipush (v := nI 8) Z.1 Z.2.1 md_FB_isCoordinator_1 (by decide) ?_
  refine xi_icmp_eq (tgt := 12) Z md_FB_isCoordinator_3 (by decide) (by omega) (by omega) (fun h3 => ?_) (fun h3 => ?_)
  · refine lv_iconst (v := nI 1) Z.1 Z.2.1 md_FB_isCoordinator_12 (by decide) ?_
    refine lv_goto (tgt := 17) Z.1 Z.2.1 md_FB_isCoordinator_13 (by decide) ?_
    exact xw_zret Z hr hlk hw md_FB_isCoordinator_17 rfl rfl rfl
  · refine lv_iload_n Z.1 Z.2.1 md_FB_isCoordinator_6 rfl (lv_at hl 0 rfl) ?_
    refine lv_bipush (v := nI 9) Z.1 Z.2.1 md_FB_isCoordinator_7 (by decide) ?_
    refine xi_icmp_ne (tgt := 16) Z md_FB_isCoordinator_9 (by decide) (by omega) (by omega) (fun h9 => by exfalso; omega) (fun h9 => ?_)
    refine lv_iconst (v := nI 1) Z.1 Z.2.1 md_FB_isCoordinator_12 (by decide) ?_
    refine lv_goto (tgt := 17) Z.1 Z.2.1 md_FB_isCoordinator_13 (by decide) ?_
    exact xw_zret Z hr hlk hw md_FB_isCoordinator_17 rfl rfl rfl
set_option maxHeartbeats 4000000 in
theorem k_isCoordinator0 (l : Launch) (D : va_G) {n : Nat} (ad : Nat × Nat → Nat) (cI cZ cS cA : ClassId) {M : fr_M} {x : Int32} (hx8 : ¬ x = nI 8) (hx9 : ¬ x = nI 9) : fb_C l D n ad cI cZ cS cA my_FB_isCoordinator mb_FB_isCoordinator 1 (some .boolean) 0 0 M [.int (x)] (some (.int (nI 0))) (fun M' => M' = M) := by
  refine xw_start [.int (x)] (by decide) (Nat.le_of_ble_eq_true rfl) ?_
  intro p e st m below meth cd0 ls Z hml hr hlk hN hl hw
  have hl : lv_has ls 1 [(0, .int (x))] := hl
  refine lv_iload_n Z.1 Z.2.1 md_FB_isCoordinator_0 rfl (lv_at hl 0 rfl) ?_
  refine lv_bipush (v := nI 8) Z.1 Z.2.1 md_FB_isCoordinator_1 (by decide) ?_
  refine lv_icmp_eq (tgt := 12) Z.1 Z.2.1 md_FB_isCoordinator_3 (by decide) (fun h3 => by exfalso; exact hx8 h3) (fun h3 => ?_)
  refine lv_iload_n Z.1 Z.2.1 md_FB_isCoordinator_6 rfl (lv_at hl 0 rfl) ?_
  refine lv_bipush (v := nI 9) Z.1 Z.2.1 md_FB_isCoordinator_7 (by decide) ?_
  refine lv_icmp_ne (tgt := 16) Z.1 Z.2.1 md_FB_isCoordinator_9 (by decide) (fun h9 => ?_) (fun h9 => by exfalso; exact hx9 h9)
  refine lv_iconst (v := nI 0) Z.1 Z.2.1 md_FB_isCoordinator_16 (by decide) ?_
  exact xw_zret Z hr hlk hw md_FB_isCoordinator_17 rfl rfl rfl
set_option maxHeartbeats 4000000 in
theorem k_isAcceptor1 (l : Launch) (D : va_G) {n : Nat} (ad : Nat × Nat → Nat) (cI cZ cS cA : ClassId) {M : fr_M} {q f j : Nat} (hn : n ≤ 5) (h : fr_1 n q f M) (hj : j < n) : fb_C l D n ad cI cZ cS cA my_FB_isAcceptor mb_FB_isAcceptor 2 (some .boolean) 0 0 M [.ref (ad (0, 0)), .int (nI (j))] (some (.int (nI 1))) (fun M' => M' = M) := by
  refine xw_start [.ref (ad (0, 0)), .int (nI (j))] (by decide) (Nat.le_of_ble_eq_true rfl) ?_
  intro p e st m below meth cd0 ls Z hml hr hlk hN hl hw
  have hl : lv_has ls 2 [(0, .ref (ad (0, 0))), (1, .int (nI (j)))] := hl
  refine lv_iload_n Z.1 Z.2.1 md_FB_isAcceptor_0 rfl (lv_at hl 1 rfl) ?_
  refine lv_if_lt (tgt := 19) Z.1 Z.2.1 md_FB_isAcceptor_1 (by decide) (fun h1 => by exfalso; exact nI_pos (by omega) h1) (fun h1 => ?_)
  refine lv_iload_n Z.1 Z.2.1 md_FB_isAcceptor_4 rfl (lv_at hl 1 rfl) ?_
  refine lv_aload_n Z.1 Z.2.1 md_FB_isAcceptor_5 rfl (lv_at hl 0 rfl) ?_
  refine xb_get (v := .ref (ad (1, 0))) Z hw (fb_in0 n) (fb_e0 n ad cI cZ cS cA) rfl tb_iFB 0 (by decide) mk_FB_12 rfl rfl md_FB_isAcceptor_6 ?_
  refine xb_get (v := .int (M (1, 0) 0)) Z hw (fb_in1 n) (fb_e1 n ad cI cZ cS cA) rfl tb_iSiz 0 (by decide) mk_FB_45 rfl rfl md_FB_isAcceptor_9 ?_
  refine xi_re (show M (1, 0) 0 = nI (n) from h.1) ?_
  refine xi_icmp_ge (tgt := 19) Z md_FB_isAcceptor_12 (by decide) (by omega) (by omega) (fun h12 => by exfalso; omega) (fun h12 => ?_)
  refine lv_iconst (v := nI 1) Z.1 Z.2.1 md_FB_isAcceptor_15 (by decide) ?_
  refine lv_goto (tgt := 20) Z.1 Z.2.1 md_FB_isAcceptor_16 (by decide) ?_
  exact xw_zret Z hr hlk hw md_FB_isAcceptor_20 rfl rfl rfl
set_option maxHeartbeats 4000000 in
theorem k_isAcceptor0 (l : Launch) (D : va_G) {n : Nat} (ad : Nat × Nat → Nat) (cI cZ cS cA : ClassId) {M : fr_M} {q f : Nat} {x : Int32} (h : fr_1 n q f M) (hx : x < 0 ∨ nI n ≤ x) : fb_C l D n ad cI cZ cS cA my_FB_isAcceptor mb_FB_isAcceptor 2 (some .boolean) 0 0 M [.ref (ad (0, 0)), .int (x)] (some (.int (nI 0))) (fun M' => M' = M) := by
  refine xw_start [.ref (ad (0, 0)), .int (x)] (by decide) (Nat.le_of_ble_eq_true rfl) ?_
  intro p e st m below meth cd0 ls Z hml hr hlk hN hl hw
  have hl : lv_has ls 2 [(0, .ref (ad (0, 0))), (1, .int (x))] := hl
  refine lv_iload_n Z.1 Z.2.1 md_FB_isAcceptor_0 rfl (lv_at hl 1 rfl) ?_
  refine lv_if_lt (tgt := 19) Z.1 Z.2.1 md_FB_isAcceptor_1 (by decide) (fun h1 => ?_) (fun h1 => ?_)
  · refine lv_iconst (v := nI 0) Z.1 Z.2.1 md_FB_isAcceptor_19 (by decide) ?_
    exact xw_zret Z hr hlk hw md_FB_isAcceptor_20 rfl rfl rfl
  · refine lv_iload_n Z.1 Z.2.1 md_FB_isAcceptor_4 rfl (lv_at hl 1 rfl) ?_
    refine lv_aload_n Z.1 Z.2.1 md_FB_isAcceptor_5 rfl (lv_at hl 0 rfl) ?_
    refine xb_get (v := .ref (ad (1, 0))) Z hw (fb_in0 n) (fb_e0 n ad cI cZ cS cA) rfl tb_iFB 0 (by decide) mk_FB_12 rfl rfl md_FB_isAcceptor_6 ?_
    refine xb_get (v := .int (M (1, 0) 0)) Z hw (fb_in1 n) (fb_e1 n ad cI cZ cS cA) rfl tb_iSiz 0 (by decide) mk_FB_45 rfl rfl md_FB_isAcceptor_9 ?_
    refine xi_re (show M (1, 0) 0 = nI (n) from h.1) ?_
    refine lv_icmp_ge (tgt := 19) Z.1 Z.2.1 md_FB_isAcceptor_12 (by decide) (fun h12 => ?_) (fun h12 => by exfalso; exact hx.elim h1 h12)
    refine lv_iconst (v := nI 0) Z.1 Z.2.1 md_FB_isAcceptor_19 (by decide) ?_
    exact xw_zret Z hr hlk hw md_FB_isAcceptor_20 rfl rfl rfl
set_option maxHeartbeats 4000000 in
theorem k_has1 (l : Launch) (D : va_G) {n : Nat} (ad : Nat × Nat → Nat) (cI cZ cS cA : ClassId) {M : fr_M} {S : pz_T} {j : Nat} (h : fr_2 S M) (h60 : S.1.length ≤ 60) (hj : j < S.1.length) : fb_C l D n ad cI cZ cS cA my_Mail_has mb_Mail_has 2 (some .boolean) 0 0 M [.ref (ad (2, 0)), .int (nI (j))] (some (.int (nI 1))) (fun M' => M' = M) := by
  refine xw_start [.ref (ad (2, 0)), .int (nI (j))] (by decide) (Nat.le_of_ble_eq_true rfl) ?_
  intro p e st m below meth cd0 ls Z hml hr hlk hN hl hw
  have hl : lv_has ls 2 [(0, .ref (ad (2, 0))), (1, .int (nI (j)))] := hl
  refine lv_iload_n Z.1 Z.2.1 md_Mail_has_0 rfl (lv_at hl 1 rfl) ?_
  refine lv_if_lt (tgt := 16) Z.1 Z.2.1 md_Mail_has_1 (by decide) (fun h1 => by exfalso; exact nI_pos (by omega) h1) (fun h1 => ?_)
  refine lv_iload_n Z.1 Z.2.1 md_Mail_has_4 rfl (lv_at hl 1 rfl) ?_
  refine lv_aload_n Z.1 Z.2.1 md_Mail_has_5 rfl (lv_at hl 0 rfl) ?_
  refine xb_get (v := .int (M (2, 0) 2)) Z hw (fb_in2 n) (fb_e2 n ad cI cZ cS cA) rfl tb_iMail 2 (by decide) mk_Mail_20 rfl rfl md_Mail_has_6 ?_
  refine xi_re (show M (2, 0) 2 = nI (S.1.length) from h.1) ?_
  refine xi_icmp_ge (tgt := 16) Z md_Mail_has_9 (by decide) (by omega) (by omega) (fun h9 => by exfalso; omega) (fun h9 => ?_)
  refine lv_iconst (v := nI 1) Z.1 Z.2.1 md_Mail_has_12 (by decide) ?_
  refine lv_goto (tgt := 17) Z.1 Z.2.1 md_Mail_has_13 (by decide) ?_
  exact xw_zret Z hr hlk hw md_Mail_has_17 rfl rfl rfl
set_option maxHeartbeats 4000000 in
theorem k_has0 (l : Launch) (D : va_G) {n : Nat} (ad : Nat × Nat → Nat) (cI cZ cS cA : ClassId) {M : fr_M} {S : pz_T} {x : Int32} (h : fr_2 S M) (hx : x < 0 ∨ nI S.1.length ≤ x) : fb_C l D n ad cI cZ cS cA my_Mail_has mb_Mail_has 2 (some .boolean) 0 0 M [.ref (ad (2, 0)), .int (x)] (some (.int (nI 0))) (fun M' => M' = M) := by
  refine xw_start [.ref (ad (2, 0)), .int (x)] (by decide) (Nat.le_of_ble_eq_true rfl) ?_
  intro p e st m below meth cd0 ls Z hml hr hlk hN hl hw
  have hl : lv_has ls 2 [(0, .ref (ad (2, 0))), (1, .int (x))] := hl
  refine lv_iload_n Z.1 Z.2.1 md_Mail_has_0 rfl (lv_at hl 1 rfl) ?_
  refine lv_if_lt (tgt := 16) Z.1 Z.2.1 md_Mail_has_1 (by decide) (fun h1 => ?_) (fun h1 => ?_)
  · refine lv_iconst (v := nI 0) Z.1 Z.2.1 md_Mail_has_16 (by decide) ?_
    exact xw_zret Z hr hlk hw md_Mail_has_17 rfl rfl rfl
  · refine lv_iload_n Z.1 Z.2.1 md_Mail_has_4 rfl (lv_at hl 1 rfl) ?_
    refine lv_aload_n Z.1 Z.2.1 md_Mail_has_5 rfl (lv_at hl 0 rfl) ?_
    refine xb_get (v := .int (M (2, 0) 2)) Z hw (fb_in2 n) (fb_e2 n ad cI cZ cS cA) rfl tb_iMail 2 (by decide) mk_Mail_20 rfl rfl md_Mail_has_6 ?_
    refine xi_re (show M (2, 0) 2 = nI (S.1.length) from h.1) ?_
    refine lv_icmp_ge (tgt := 16) Z.1 Z.2.1 md_Mail_has_9 (by decide) (fun h9 => ?_) (fun h9 => by exfalso; exact hx.elim h1 h9)
    refine lv_iconst (v := nI 0) Z.1 Z.2.1 md_Mail_has_16 (by decide) ?_
    exact xw_zret Z hr hlk hw md_Mail_has_17 rfl rfl rfl
set_option maxHeartbeats 4000000 in
theorem k_send (l : Launch) (D : va_G) {n : Nat} (ad : Nat × Nat → Nat) (cI cZ cS cA : ClassId) {M : fr_M} {q f : Nat} {S : pz_T} {ex : Nat → Nat → Prop} {g : pz_M} {x : Int32} (h : fr_R n q f S ex M) (h60 : S.1.length ≤ 60) (hx : g 0 = 3 ∨ g 0 = 5 → x = nI (g 3)) : fb_C l D n ad cI cZ cS cA my_Mail_send mb_Mail_send 9 none 0 0 M [.ref (ad (2, 0)), .int (nI (g 0)), .int (nI (g 1)), .int (nI (g 2)), .int (x), .int (nI (g 4)), .int (nI (g 5)), .int (nI (g 6))] (none) (fr_K n q f (pz_sd S g) ex M) := by
  refine xw_start [.ref (ad (2, 0)), .int (nI (g 0)), .int (nI (g 1)), .int (nI (g 2)), .int (x), .int (nI (g 4)), .int (nI (g 5)), .int (nI (g 6))] (by decide) (Nat.le_of_ble_eq_true rfl) ?_
  intro p e st m below meth cd0 ls Z hml hr hlk hN hl hw
  have hl : lv_has ls 9 [(0, .ref (ad (2, 0))), (1, .int (nI (g 0))), (2, .int (nI (g 1))), (3, .int (nI (g 2))), (4, .int (x)), (5, .int (nI (g 4))), (6, .int (nI (g 5))), (7, .int (nI (g 6)))] := hl
  refine lv_aload_n Z.1 Z.2.1 md_Mail_send_0 rfl (lv_at hl 0 rfl) ?_
  refine xb_get (v := .int (M (2, 0) 2)) Z hw (fb_in2 n) (fb_e2 n ad cI cZ cS cA) rfl tb_iMail 2 (by decide) mk_Mail_20 rfl rfl md_Mail_send_1 ?_
  refine xi_re (show M (2, 0) 2 = nI (S.1.length) from h.2.1.1) ?_
  refine lv_bipush (v := nI 60) Z.1 Z.2.1 md_Mail_send_4 (by decide) ?_
  refine xi_icmp_lt (tgt := 20) Z md_Mail_send_6 (by decide) (by omega) (by omega) (fun h6 => ?_) (fun h6 => ?_)
  · refine lv_aload_n Z.1 Z.2.1 md_Mail_send_20 rfl (lv_at hl 0 rfl) ?_
    refine xb_get (v := .int (M (2, 0) 2)) Z hw (fb_in2 n) (fb_e2 n ad cI cZ cS cA) rfl tb_iMail 2 (by decide) mk_Mail_20 rfl rfl md_Mail_send_21 ?_
    refine xi_re (show M (2, 0) 2 = nI (S.1.length) from h.2.1.1) ?_
    refine lv_bipush (v := nI 7) Z.1 Z.2.1 md_Mail_send_24 (by decide) ?_
    refine xi_mul Z md_Mail_send_26 ?_
    refine lv_istore Z.1 Z.2.1 md_Mail_send_27 hl (by decide) rfl (fun ls hl => ?_)
    have hl : lv_has ls 9 [(8, .int (nI ((S.1.length) * 7))), (0, .ref (ad (2, 0))), (1, .int (nI (g 0))), (2, .int (nI (g 1))), (3, .int (nI (g 2))), (4, .int (x)), (5, .int (nI (g 4))), (6, .int (nI (g 5))), (7, .int (nI (g 6)))] := hl
    refine lv_aload_n Z.1 Z.2.1 md_Mail_send_29 rfl (lv_at hl 1 rfl) ?_
    refine xb_get (v := .ref (ad (5, 0))) Z hw (fb_in2 n) (fb_e2 n ad cI cZ cS cA) rfl tb_iMail 0 (by decide) mk_Mail_9 rfl rfl md_Mail_send_30 ?_
    refine lv_iload Z.1 Z.2.1 md_Mail_send_33 (lv_at hl 0 rfl) ?_
    refine lv_iconst (v := nI 0) Z.1 Z.2.1 md_Mail_send_35 (by decide) ?_
    refine xi_add Z md_Mail_send_36 ?_
    refine lv_iload_n Z.1 Z.2.1 md_Mail_send_37 rfl (lv_at hl 2 rfl) ?_
    refine xb_iast Z hw (fb_in5 n) (fb_e5 n ad cI cZ cS cA) 0 rfl (((S.1.length) * 7) + 0) rfl (by omega) (by omega) md_Mail_send_38 (fun M1 H1 locs1 e1 hw => ?_)
    refine lv_aload_n Z.1 Z.2.1 md_Mail_send_39 rfl (lv_at hl 1 rfl) ?_
    refine xb_get (v := .ref (ad (5, 0))) Z hw (fb_in2 n) (fb_e2 n ad cI cZ cS cA) rfl tb_iMail 0 (by decide) mk_Mail_9 rfl rfl md_Mail_send_40 ?_
    refine lv_iload Z.1 Z.2.1 md_Mail_send_43 (lv_at hl 0 rfl) ?_
    refine lv_iconst (v := nI 1) Z.1 Z.2.1 md_Mail_send_45 (by decide) ?_
    refine xi_add Z md_Mail_send_46 ?_
    refine lv_iload_n Z.1 Z.2.1 md_Mail_send_47 rfl (lv_at hl 3 rfl) ?_
    refine xb_iast Z hw (fb_in5 n) (fb_e5 n ad cI cZ cS cA) 0 rfl (((S.1.length) * 7) + 1) rfl (by omega) (by omega) md_Mail_send_48 (fun M2 H2 locs2 e2 hw => ?_)
    refine lv_aload_n Z.1 Z.2.1 md_Mail_send_49 rfl (lv_at hl 1 rfl) ?_
    refine xb_get (v := .ref (ad (5, 0))) Z hw (fb_in2 n) (fb_e2 n ad cI cZ cS cA) rfl tb_iMail 0 (by decide) mk_Mail_9 rfl rfl md_Mail_send_50 ?_
    refine lv_iload Z.1 Z.2.1 md_Mail_send_53 (lv_at hl 0 rfl) ?_
    refine lv_iconst (v := nI 2) Z.1 Z.2.1 md_Mail_send_55 (by decide) ?_
    refine xi_add Z md_Mail_send_56 ?_
    refine lv_iload_n Z.1 Z.2.1 md_Mail_send_57 rfl (lv_at hl 4 rfl) ?_
    refine xb_iast Z hw (fb_in5 n) (fb_e5 n ad cI cZ cS cA) 0 rfl (((S.1.length) * 7) + 2) rfl (by omega) (by omega) md_Mail_send_58 (fun M3 H3 locs3 e3 hw => ?_)
    refine lv_aload_n Z.1 Z.2.1 md_Mail_send_59 rfl (lv_at hl 1 rfl) ?_
    refine xb_get (v := .ref (ad (5, 0))) Z hw (fb_in2 n) (fb_e2 n ad cI cZ cS cA) rfl tb_iMail 0 (by decide) mk_Mail_9 rfl rfl md_Mail_send_60 ?_
    refine lv_iload Z.1 Z.2.1 md_Mail_send_63 (lv_at hl 0 rfl) ?_
    refine lv_iconst (v := nI 3) Z.1 Z.2.1 md_Mail_send_65 (by decide) ?_
    refine xi_add Z md_Mail_send_66 ?_
    refine lv_iload Z.1 Z.2.1 md_Mail_send_67 (lv_at hl 5 rfl) ?_
    refine xb_iast Z hw (fb_in5 n) (fb_e5 n ad cI cZ cS cA) 0 rfl (((S.1.length) * 7) + 3) rfl (by omega) (by omega) md_Mail_send_69 (fun M4 H4 locs4 e4 hw => ?_)
    refine lv_aload_n Z.1 Z.2.1 md_Mail_send_70 rfl (lv_at hl 1 rfl) ?_
    refine xb_get (v := .ref (ad (5, 0))) Z hw (fb_in2 n) (fb_e2 n ad cI cZ cS cA) rfl tb_iMail 0 (by decide) mk_Mail_9 rfl rfl md_Mail_send_71 ?_
    refine lv_iload Z.1 Z.2.1 md_Mail_send_74 (lv_at hl 0 rfl) ?_
    refine lv_iconst (v := nI 4) Z.1 Z.2.1 md_Mail_send_76 (by decide) ?_
    refine xi_add Z md_Mail_send_77 ?_
    refine lv_iload Z.1 Z.2.1 md_Mail_send_78 (lv_at hl 6 rfl) ?_
    refine xb_iast Z hw (fb_in5 n) (fb_e5 n ad cI cZ cS cA) 0 rfl (((S.1.length) * 7) + 4) rfl (by omega) (by omega) md_Mail_send_80 (fun M5 H5 locs5 e5 hw => ?_)
    refine lv_aload_n Z.1 Z.2.1 md_Mail_send_81 rfl (lv_at hl 1 rfl) ?_
    refine xb_get (v := .ref (ad (5, 0))) Z hw (fb_in2 n) (fb_e2 n ad cI cZ cS cA) rfl tb_iMail 0 (by decide) mk_Mail_9 rfl rfl md_Mail_send_82 ?_
    refine lv_iload Z.1 Z.2.1 md_Mail_send_85 (lv_at hl 0 rfl) ?_
    refine lv_iconst (v := nI 5) Z.1 Z.2.1 md_Mail_send_87 (by decide) ?_
    refine xi_add Z md_Mail_send_88 ?_
    refine lv_iload Z.1 Z.2.1 md_Mail_send_89 (lv_at hl 7 rfl) ?_
    refine xb_iast Z hw (fb_in5 n) (fb_e5 n ad cI cZ cS cA) 0 rfl (((S.1.length) * 7) + 5) rfl (by omega) (by omega) md_Mail_send_91 (fun M6 H6 locs6 e6 hw => ?_)
    refine lv_aload_n Z.1 Z.2.1 md_Mail_send_92 rfl (lv_at hl 1 rfl) ?_
    refine xb_get (v := .ref (ad (5, 0))) Z hw (fb_in2 n) (fb_e2 n ad cI cZ cS cA) rfl tb_iMail 0 (by decide) mk_Mail_9 rfl rfl md_Mail_send_93 ?_
    refine lv_iload Z.1 Z.2.1 md_Mail_send_96 (lv_at hl 0 rfl) ?_
    refine lv_bipush (v := nI 6) Z.1 Z.2.1 md_Mail_send_98 (by decide) ?_
    refine xi_add Z md_Mail_send_100 ?_
    refine lv_iload Z.1 Z.2.1 md_Mail_send_101 (lv_at hl 8 rfl) ?_
    refine xb_iast Z hw (fb_in5 n) (fb_e5 n ad cI cZ cS cA) 0 rfl (((S.1.length) * 7) + 6) rfl (by omega) (by omega) md_Mail_send_103 (fun M7 H7 locs7 e7 hw => ?_)
    have h2 : M7 (2, 0) = M (2, 0) := by rw [e7, xw_mw_n (by decide), e6, xw_mw_n (by decide), e5, xw_mw_n (by decide), e4, xw_mw_n (by decide), e3, xw_mw_n (by decide), e2, xw_mw_n (by decide), e1, xw_mw_n (by decide)]
    refine lv_aload_n Z.1 Z.2.1 md_Mail_send_104 rfl (lv_at hl 1 rfl) ?_
    refine lv_dup Z.1 Z.2.1 md_Mail_send_105 rfl ?_
    refine xb_get (v := .int (M7 (2, 0) 2)) Z hw (fb_in2 n) (fb_e2 n ad cI cZ cS cA) rfl tb_iMail 2 (by decide) mk_Mail_20 rfl rfl md_Mail_send_106 ?_
    refine xi_re (show M7 (2, 0) 2 = nI (S.1.length) from (by rw [h2]; exact h.2.1.1)) ?_
    refine lv_iconst (v := nI 1) Z.1 Z.2.1 md_Mail_send_109 (by decide) ?_
    refine xi_add Z md_Mail_send_110 ?_
    refine xb_put Z hw (fb_in2 n) (fb_e2 n ad cI cZ cS cA) rfl tb_iMail tb_tMail tb_yMail tb_nMail 2 (by decide) mk_Mail_20 rfl rfl rfl (fb_s2_2 ad _) md_Mail_send_111 (fun M8 H8 locs8 e8 hw => ?_)
    have hk : ∀ k, k ≠ (5, 0) → k ≠ (2, 0) → M8 k = M k := fun k h5 h2 => by rw [e8, xw_mw_n h2, e7, xw_mw_n h5, e6, xw_mw_n h5, e5, xw_mw_n h5, e4, xw_mw_n h5, e3, xw_mw_n h5, e2, xw_mw_n h5, e1, xw_mw_n h5]
    have c5 : M8 (5, 0) = upd (upd (upd (upd (upd (upd (upd (M (5, 0)) (S.1.length * 7 + 0) (nI (g 0))) (S.1.length * 7 + 1) (nI (g 1))) (S.1.length * 7 + 2) (nI (g 2))) (S.1.length * 7 + 3) x) (S.1.length * 7 + 4) (nI (g 4))) (S.1.length * 7 + 5) (nI (g 5))) (S.1.length * 7 + 6) (nI (g 6)) := by rw [e8, xw_mw_n (by decide), e7, xw_mw_s, e6, xw_mw_s, e5, xw_mw_s, e4, xw_mw_s, e3, xw_mw_s, e2, xw_mw_s, e1, xw_mw_s]
    refine xw_vret Z hr hlk hw md_Mail_send_114 ⟨fr_send1 h (by omega) hk (fun i hi => ?_) ?_ ?_ ?_, hk _ (by decide) (by decide)⟩
    · rw [c5]; simp only [upd]; repeat rw [if_neg (by omega)]
    · refine ⟨?_, ?_, ?_, fun z => ?_, ?_, ?_, ?_⟩ <;> (rw [c5]; simp only [upd]) <;> first | (simp; done) | (simp; exact hx z)
    · rw [e8, xw_mw_s]; simp [upd]
    · rw [e8, xw_mw_s]; simp only [upd]; rw [if_neg (by decide), h2]
  · refine lv_aload_n Z.1 Z.2.1 md_Mail_send_9 rfl (lv_at hl 0 rfl) ?_
    refine lv_dup Z.1 Z.2.1 md_Mail_send_10 rfl ?_
    refine xb_get (v := .int (M (2, 0) 3)) Z hw (fb_in2 n) (fb_e2 n ad cI cZ cS cA) rfl tb_iMail 3 (by decide) mk_Mail_24 rfl rfl md_Mail_send_11 ?_
    refine xi_re (show M (2, 0) 3 = nI (S.2 3 15 0 0) from h.2.1.2) ?_
    refine lv_iconst (v := nI 1) Z.1 Z.2.1 md_Mail_send_14 (by decide) ?_
    refine xi_add Z md_Mail_send_15 ?_
    refine xb_put Z hw (fb_in2 n) (fb_e2 n ad cI cZ cS cA) rfl tb_iMail tb_tMail tb_yMail tb_nMail 3 (by decide) mk_Mail_24 rfl rfl rfl (fb_s2_3 ad _) md_Mail_send_16 (fun M9 H9 locs9 e9 hw => ?_)
    refine xw_vret Z hr hlk hw md_Mail_send_19 ⟨fr_send2 h (by omega) (fun k hk => by rw [e9, xw_mw_n hk]) ?_ ?_, by rw [e9, xw_mw_n (by decide)]⟩
    · rw [e9, xw_mw_s]; simp [upd]
    · rw [e9, xw_mw_s]; simp [upd]
