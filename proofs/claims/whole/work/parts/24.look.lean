/-! The coordinators: what they look up. -/
theorem md_Cor_votedIn_0 : decode mb_Cor_votedIn 0 = .ok (.aload_n 0, 1) := by decide +kernel
theorem md_Cor_votedIn_1 : decode mb_Cor_votedIn 1 = .ok (.getfield 28, 3) := by decide +kernel
theorem md_Cor_votedIn_4 : decode mb_Cor_votedIn 4 = .ok (.iload_n 1, 1) := by decide +kernel
theorem md_Cor_votedIn_5 : decode mb_Cor_votedIn 5 = .ok (.baload, 1) := by decide +kernel
theorem md_Cor_votedIn_6 : decode mb_Cor_votedIn 6 = .ok (.ifCond .eq 17, 3) := by decide +kernel
theorem md_Cor_votedIn_9 : decode mb_Cor_votedIn 9 = .ok (.aload_n 0, 1) := by decide +kernel
theorem md_Cor_votedIn_10 : decode mb_Cor_votedIn 10 = .ok (.getfield 36, 3) := by decide +kernel
theorem md_Cor_votedIn_13 : decode mb_Cor_votedIn 13 = .ok (.iload_n 1, 1) := by decide +kernel
theorem md_Cor_votedIn_14 : decode mb_Cor_votedIn 14 = .ok (.iaload, 1) := by decide +kernel
theorem md_Cor_votedIn_15 : decode mb_Cor_votedIn 15 = .ok (.iload_n 2, 1) := by decide +kernel
theorem md_Cor_votedIn_16 : decode mb_Cor_votedIn 16 = .ok (.if_icmp .ne 7, 3) := by decide +kernel
theorem md_Cor_votedIn_19 : decode mb_Cor_votedIn 19 = .ok (.iconst 1, 1) := by decide +kernel
theorem md_Cor_votedIn_20 : decode mb_Cor_votedIn 20 = .ok (.goto 4, 3) := by decide +kernel
theorem md_Cor_votedIn_23 : decode mb_Cor_votedIn 23 = .ok (.iconst 0, 1) := by decide +kernel
theorem md_Cor_votedIn_24 : decode mb_Cor_votedIn 24 = .ok (.ireturn, 1) := by decide +kernel
theorem md_Cor_tallyIn_0 : decode mb_Cor_tallyIn 0 = .ok (.iconst 0, 1) := by decide +kernel
theorem md_Cor_tallyIn_1 : decode mb_Cor_tallyIn 1 = .ok (.istore_n 3, 1) := by decide +kernel
theorem md_Cor_tallyIn_2 : decode mb_Cor_tallyIn 2 = .ok (.iconst 0, 1) := by decide +kernel
theorem md_Cor_tallyIn_3 : decode mb_Cor_tallyIn 3 = .ok (.istore 4, 2) := by decide +kernel
theorem md_Cor_tallyIn_5 : decode mb_Cor_tallyIn 5 = .ok (.iload 4, 2) := by decide +kernel
theorem md_Cor_tallyIn_7 : decode mb_Cor_tallyIn 7 = .ok (.aload_n 0, 1) := by decide +kernel
theorem md_Cor_tallyIn_8 : decode mb_Cor_tallyIn 8 = .ok (.getfield 15, 3) := by decide +kernel
theorem md_Cor_tallyIn_11 : decode mb_Cor_tallyIn 11 = .ok (.getfield 23, 3) := by decide +kernel
theorem md_Cor_tallyIn_14 : decode mb_Cor_tallyIn 14 = .ok (.if_icmp .ge 33, 3) := by decide +kernel
theorem md_Cor_tallyIn_17 : decode mb_Cor_tallyIn 17 = .ok (.aload_n 0, 1) := by decide +kernel
theorem md_Cor_tallyIn_18 : decode mb_Cor_tallyIn 18 = .ok (.iload 4, 2) := by decide +kernel
theorem md_Cor_tallyIn_20 : decode mb_Cor_tallyIn 20 = .ok (.iload_n 1, 1) := by decide +kernel
theorem md_Cor_tallyIn_21 : decode mb_Cor_tallyIn 21 = .ok (.invokevirtual 127, 3) := by decide +kernel
theorem md_Cor_tallyIn_24 : decode mb_Cor_tallyIn 24 = .ok (.ifCond .eq 17, 3) := by decide +kernel
theorem md_Cor_tallyIn_27 : decode mb_Cor_tallyIn 27 = .ok (.aload_n 0, 1) := by decide +kernel
theorem md_Cor_tallyIn_28 : decode mb_Cor_tallyIn 28 = .ok (.getfield 32, 3) := by decide +kernel
theorem md_Cor_tallyIn_31 : decode mb_Cor_tallyIn 31 = .ok (.iload 4, 2) := by decide +kernel
theorem md_Cor_tallyIn_33 : decode mb_Cor_tallyIn 33 = .ok (.iaload, 1) := by decide +kernel
theorem md_Cor_tallyIn_34 : decode mb_Cor_tallyIn 34 = .ok (.iload_n 2, 1) := by decide +kernel
theorem md_Cor_tallyIn_35 : decode mb_Cor_tallyIn 35 = .ok (.if_icmp .ne 6, 3) := by decide +kernel
theorem md_Cor_tallyIn_38 : decode mb_Cor_tallyIn 38 = .ok (.iinc 3 1, 3) := by decide +kernel
theorem md_Cor_tallyIn_41 : decode mb_Cor_tallyIn 41 = .ok (.iinc 4 1, 3) := by decide +kernel
theorem md_Cor_tallyIn_44 : decode mb_Cor_tallyIn 44 = .ok (.goto (-39), 3) := by decide +kernel
theorem md_Cor_tallyIn_47 : decode mb_Cor_tallyIn 47 = .ok (.iload_n 3, 1) := by decide +kernel
theorem md_Cor_tallyIn_48 : decode mb_Cor_tallyIn 48 = .ok (.ireturn, 1) := by decide +kernel
theorem md_Cor_latestRound_0 : decode mb_Cor_latestRound 0 = .ok (.iconst 0, 1) := by decide +kernel
theorem md_Cor_latestRound_1 : decode mb_Cor_latestRound 1 = .ok (.istore_n 1, 1) := by decide +kernel
theorem md_Cor_latestRound_2 : decode mb_Cor_latestRound 2 = .ok (.iconst 0, 1) := by decide +kernel
theorem md_Cor_latestRound_3 : decode mb_Cor_latestRound 3 = .ok (.istore_n 2, 1) := by decide +kernel
theorem md_Cor_latestRound_4 : decode mb_Cor_latestRound 4 = .ok (.iload_n 2, 1) := by decide +kernel
theorem md_Cor_latestRound_5 : decode mb_Cor_latestRound 5 = .ok (.aload_n 0, 1) := by decide +kernel
theorem md_Cor_latestRound_6 : decode mb_Cor_latestRound 6 = .ok (.getfield 15, 3) := by decide +kernel
theorem md_Cor_latestRound_9 : decode mb_Cor_latestRound 9 = .ok (.getfield 23, 3) := by decide +kernel
theorem md_Cor_latestRound_12 : decode mb_Cor_latestRound 12 = .ok (.if_icmp .ge 29, 3) := by decide +kernel
theorem md_Cor_latestRound_15 : decode mb_Cor_latestRound 15 = .ok (.aload_n 0, 1) := by decide +kernel
theorem md_Cor_latestRound_16 : decode mb_Cor_latestRound 16 = .ok (.getfield 28, 3) := by decide +kernel
theorem md_Cor_latestRound_19 : decode mb_Cor_latestRound 19 = .ok (.iload_n 2, 1) := by decide +kernel
theorem md_Cor_latestRound_20 : decode mb_Cor_latestRound 20 = .ok (.baload, 1) := by decide +kernel
theorem md_Cor_latestRound_21 : decode mb_Cor_latestRound 21 = .ok (.ifCond .eq 14, 3) := by decide +kernel
theorem md_Cor_latestRound_24 : decode mb_Cor_latestRound 24 = .ok (.iload_n 1, 1) := by decide +kernel
theorem md_Cor_latestRound_25 : decode mb_Cor_latestRound 25 = .ok (.aload_n 0, 1) := by decide +kernel
theorem md_Cor_latestRound_26 : decode mb_Cor_latestRound 26 = .ok (.getfield 36, 3) := by decide +kernel
theorem md_Cor_latestRound_29 : decode mb_Cor_latestRound 29 = .ok (.iload_n 2, 1) := by decide +kernel
theorem md_Cor_latestRound_30 : decode mb_Cor_latestRound 30 = .ok (.iaload, 1) := by decide +kernel
theorem md_Cor_latestRound_31 : decode mb_Cor_latestRound 31 = .ok (.invokestatic 135, 3) := by decide +kernel
theorem md_Cor_latestRound_34 : decode mb_Cor_latestRound 34 = .ok (.istore_n 1, 1) := by decide +kernel
theorem md_Cor_latestRound_35 : decode mb_Cor_latestRound 35 = .ok (.iinc 2 1, 3) := by decide +kernel
theorem md_Cor_latestRound_38 : decode mb_Cor_latestRound 38 = .ok (.goto (-34), 3) := by decide +kernel
theorem md_Cor_latestRound_41 : decode mb_Cor_latestRound 41 = .ok (.iload_n 1, 1) := by decide +kernel
theorem md_Cor_latestRound_42 : decode mb_Cor_latestRound 42 = .ok (.ireturn, 1) := by decide +kernel
theorem md_Cor_leastIn_0 : decode mb_Cor_leastIn 0 = .ok (.iconst 0, 1) := by decide +kernel
theorem md_Cor_leastIn_1 : decode mb_Cor_leastIn 1 = .ok (.istore_n 2, 1) := by decide +kernel
theorem md_Cor_leastIn_2 : decode mb_Cor_leastIn 2 = .ok (.iconst 0, 1) := by decide +kernel
theorem md_Cor_leastIn_3 : decode mb_Cor_leastIn 3 = .ok (.istore_n 3, 1) := by decide +kernel
theorem md_Cor_leastIn_4 : decode mb_Cor_leastIn 4 = .ok (.iload_n 3, 1) := by decide +kernel
theorem md_Cor_leastIn_5 : decode mb_Cor_leastIn 5 = .ok (.aload_n 0, 1) := by decide +kernel
theorem md_Cor_leastIn_6 : decode mb_Cor_leastIn 6 = .ok (.getfield 15, 3) := by decide +kernel
theorem md_Cor_leastIn_9 : decode mb_Cor_leastIn 9 = .ok (.getfield 23, 3) := by decide +kernel
theorem md_Cor_leastIn_12 : decode mb_Cor_leastIn 12 = .ok (.if_icmp .ge 39, 3) := by decide +kernel
theorem md_Cor_leastIn_15 : decode mb_Cor_leastIn 15 = .ok (.aload_n 0, 1) := by decide +kernel
theorem md_Cor_leastIn_16 : decode mb_Cor_leastIn 16 = .ok (.iload_n 3, 1) := by decide +kernel
theorem md_Cor_leastIn_17 : decode mb_Cor_leastIn 17 = .ok (.iload_n 1, 1) := by decide +kernel
theorem md_Cor_leastIn_18 : decode mb_Cor_leastIn 18 = .ok (.invokevirtual 127, 3) := by decide +kernel
theorem md_Cor_leastIn_21 : decode mb_Cor_leastIn 21 = .ok (.ifCond .eq 24, 3) := by decide +kernel
theorem md_Cor_leastIn_24 : decode mb_Cor_leastIn 24 = .ok (.iload_n 2, 1) := by decide +kernel
theorem md_Cor_leastIn_25 : decode mb_Cor_leastIn 25 = .ok (.ifCond .eq 13, 3) := by decide +kernel
theorem md_Cor_leastIn_28 : decode mb_Cor_leastIn 28 = .ok (.aload_n 0, 1) := by decide +kernel
theorem md_Cor_leastIn_29 : decode mb_Cor_leastIn 29 = .ok (.getfield 32, 3) := by decide +kernel
theorem md_Cor_leastIn_32 : decode mb_Cor_leastIn 32 = .ok (.iload_n 3, 1) := by decide +kernel
theorem md_Cor_leastIn_33 : decode mb_Cor_leastIn 33 = .ok (.iaload, 1) := by decide +kernel
theorem md_Cor_leastIn_34 : decode mb_Cor_leastIn 34 = .ok (.iload_n 2, 1) := by decide +kernel
theorem md_Cor_leastIn_35 : decode mb_Cor_leastIn 35 = .ok (.if_icmp .ge 10, 3) := by decide +kernel
theorem md_Cor_leastIn_38 : decode mb_Cor_leastIn 38 = .ok (.aload_n 0, 1) := by decide +kernel
theorem md_Cor_leastIn_39 : decode mb_Cor_leastIn 39 = .ok (.getfield 32, 3) := by decide +kernel
theorem md_Cor_leastIn_42 : decode mb_Cor_leastIn 42 = .ok (.iload_n 3, 1) := by decide +kernel
theorem md_Cor_leastIn_43 : decode mb_Cor_leastIn 43 = .ok (.iaload, 1) := by decide +kernel
theorem md_Cor_leastIn_44 : decode mb_Cor_leastIn 44 = .ok (.istore_n 2, 1) := by decide +kernel
theorem md_Cor_leastIn_45 : decode mb_Cor_leastIn 45 = .ok (.iinc 3 1, 3) := by decide +kernel
theorem md_Cor_leastIn_48 : decode mb_Cor_leastIn 48 = .ok (.goto (-44), 3) := by decide +kernel
theorem md_Cor_leastIn_51 : decode mb_Cor_leastIn 51 = .ok (.iload_n 2, 1) := by decide +kernel
theorem md_Cor_leastIn_52 : decode mb_Cor_leastIn 52 = .ok (.ireturn, 1) := by decide +kernel
theorem md_Cor_mostIn_0 : decode mb_Cor_mostIn 0 = .ok (.iconst 0, 1) := by decide +kernel
theorem md_Cor_mostIn_1 : decode mb_Cor_mostIn 1 = .ok (.istore_n 2, 1) := by decide +kernel
theorem md_Cor_mostIn_2 : decode mb_Cor_mostIn 2 = .ok (.iconst 0, 1) := by decide +kernel
theorem md_Cor_mostIn_3 : decode mb_Cor_mostIn 3 = .ok (.istore_n 3, 1) := by decide +kernel
theorem md_Cor_mostIn_4 : decode mb_Cor_mostIn 4 = .ok (.iload_n 3, 1) := by decide +kernel
theorem md_Cor_mostIn_5 : decode mb_Cor_mostIn 5 = .ok (.aload_n 0, 1) := by decide +kernel
theorem md_Cor_mostIn_6 : decode mb_Cor_mostIn 6 = .ok (.getfield 15, 3) := by decide +kernel
theorem md_Cor_mostIn_9 : decode mb_Cor_mostIn 9 = .ok (.getfield 23, 3) := by decide +kernel
theorem md_Cor_mostIn_12 : decode mb_Cor_mostIn 12 = .ok (.if_icmp .ge 34, 3) := by decide +kernel
theorem md_Cor_mostIn_15 : decode mb_Cor_mostIn 15 = .ok (.aload_n 0, 1) := by decide +kernel
theorem md_Cor_mostIn_16 : decode mb_Cor_mostIn 16 = .ok (.iload_n 3, 1) := by decide +kernel
theorem md_Cor_mostIn_17 : decode mb_Cor_mostIn 17 = .ok (.iload_n 1, 1) := by decide +kernel
theorem md_Cor_mostIn_18 : decode mb_Cor_mostIn 18 = .ok (.invokevirtual 127, 3) := by decide +kernel
theorem md_Cor_mostIn_21 : decode mb_Cor_mostIn 21 = .ok (.ifCond .eq 19, 3) := by decide +kernel
theorem md_Cor_mostIn_24 : decode mb_Cor_mostIn 24 = .ok (.iload_n 2, 1) := by decide +kernel
theorem md_Cor_mostIn_25 : decode mb_Cor_mostIn 25 = .ok (.aload_n 0, 1) := by decide +kernel
theorem md_Cor_mostIn_26 : decode mb_Cor_mostIn 26 = .ok (.iload_n 1, 1) := by decide +kernel
theorem md_Cor_mostIn_27 : decode mb_Cor_mostIn 27 = .ok (.aload_n 0, 1) := by decide +kernel
theorem md_Cor_mostIn_28 : decode mb_Cor_mostIn 28 = .ok (.getfield 32, 3) := by decide +kernel
theorem md_Cor_mostIn_31 : decode mb_Cor_mostIn 31 = .ok (.iload_n 3, 1) := by decide +kernel
theorem md_Cor_mostIn_32 : decode mb_Cor_mostIn 32 = .ok (.iaload, 1) := by decide +kernel
theorem md_Cor_mostIn_33 : decode mb_Cor_mostIn 33 = .ok (.invokevirtual 131, 3) := by decide +kernel
theorem md_Cor_mostIn_36 : decode mb_Cor_mostIn 36 = .ok (.invokestatic 135, 3) := by decide +kernel
theorem md_Cor_mostIn_39 : decode mb_Cor_mostIn 39 = .ok (.istore_n 2, 1) := by decide +kernel
theorem md_Cor_mostIn_40 : decode mb_Cor_mostIn 40 = .ok (.iinc 3 1, 3) := by decide +kernel
theorem md_Cor_mostIn_43 : decode mb_Cor_mostIn 43 = .ok (.goto (-39), 3) := by decide +kernel
theorem md_Cor_mostIn_46 : decode mb_Cor_mostIn 46 = .ok (.iload_n 2, 1) := by decide +kernel
theorem md_Cor_mostIn_47 : decode mb_Cor_mostIn 47 = .ok (.ireturn, 1) := by decide +kernel
theorem md_Cor_canStillBeChosen_0 : decode mb_Cor_canStillBeChosen 0 = .ok (.aload_n 0, 1) := by decide +kernel
theorem md_Cor_canStillBeChosen_1 : decode mb_Cor_canStillBeChosen 1 = .ok (.getfield 15, 3) := by decide +kernel
theorem md_Cor_canStillBeChosen_4 : decode mb_Cor_canStillBeChosen 4 = .ok (.getfield 23, 3) := by decide +kernel
theorem md_Cor_canStillBeChosen_7 : decode mb_Cor_canStillBeChosen 7 = .ok (.aload_n 0, 1) := by decide +kernel
theorem md_Cor_canStillBeChosen_8 : decode mb_Cor_canStillBeChosen 8 = .ok (.getfield 90, 3) := by decide +kernel
theorem md_Cor_canStillBeChosen_11 : decode mb_Cor_canStillBeChosen 11 = .ok (.isub, 1) := by decide +kernel
theorem md_Cor_canStillBeChosen_12 : decode mb_Cor_canStillBeChosen 12 = .ok (.istore_n 1, 1) := by decide +kernel
theorem md_Cor_canStillBeChosen_13 : decode mb_Cor_canStillBeChosen 13 = .ok (.aload_n 0, 1) := by decide +kernel
theorem md_Cor_canStillBeChosen_14 : decode mb_Cor_canStillBeChosen 14 = .ok (.aload_n 0, 1) := by decide +kernel
theorem md_Cor_canStillBeChosen_15 : decode mb_Cor_canStillBeChosen 15 = .ok (.getfield 39, 3) := by decide +kernel
theorem md_Cor_canStillBeChosen_18 : decode mb_Cor_canStillBeChosen 18 = .ok (.invokevirtual 115, 3) := by decide +kernel
theorem md_Cor_canStillBeChosen_21 : decode mb_Cor_canStillBeChosen 21 = .ok (.iload_n 1, 1) := by decide +kernel
theorem md_Cor_canStillBeChosen_22 : decode mb_Cor_canStillBeChosen 22 = .ok (.iadd, 1) := by decide +kernel
theorem md_Cor_canStillBeChosen_23 : decode mb_Cor_canStillBeChosen 23 = .ok (.aload_n 0, 1) := by decide +kernel
theorem md_Cor_canStillBeChosen_24 : decode mb_Cor_canStillBeChosen 24 = .ok (.getfield 15, 3) := by decide +kernel
theorem md_Cor_canStillBeChosen_27 : decode mb_Cor_canStillBeChosen 27 = .ok (.getfield 118, 3) := by decide +kernel
theorem md_Cor_canStillBeChosen_30 : decode mb_Cor_canStillBeChosen 30 = .ok (.if_icmp .lt 7, 3) := by decide +kernel
theorem md_Cor_canStillBeChosen_33 : decode mb_Cor_canStillBeChosen 33 = .ok (.iconst 1, 1) := by decide +kernel
theorem md_Cor_canStillBeChosen_34 : decode mb_Cor_canStillBeChosen 34 = .ok (.goto 4, 3) := by decide +kernel
theorem md_Cor_canStillBeChosen_37 : decode mb_Cor_canStillBeChosen 37 = .ok (.iconst 0, 1) := by decide +kernel
theorem md_Cor_canStillBeChosen_38 : decode mb_Cor_canStillBeChosen 38 = .ok (.ireturn, 1) := by decide +kernel
theorem md_Cor_maybeChosenIn_0 : decode mb_Cor_maybeChosenIn 0 = .ok (.aload_n 0, 1) := by decide +kernel
theorem md_Cor_maybeChosenIn_1 : decode mb_Cor_maybeChosenIn 1 = .ok (.getfield 90, 3) := by decide +kernel
theorem md_Cor_maybeChosenIn_4 : decode mb_Cor_maybeChosenIn 4 = .ok (.aload_n 0, 1) := by decide +kernel
theorem md_Cor_maybeChosenIn_5 : decode mb_Cor_maybeChosenIn 5 = .ok (.getfield 15, 3) := by decide +kernel
theorem md_Cor_maybeChosenIn_8 : decode mb_Cor_maybeChosenIn 8 = .ok (.getfield 23, 3) := by decide +kernel
theorem md_Cor_maybeChosenIn_11 : decode mb_Cor_maybeChosenIn 11 = .ok (.aload_n 0, 1) := by decide +kernel
theorem md_Cor_maybeChosenIn_12 : decode mb_Cor_maybeChosenIn 12 = .ok (.getfield 15, 3) := by decide +kernel
theorem md_Cor_maybeChosenIn_15 : decode mb_Cor_maybeChosenIn 15 = .ok (.getfield 118, 3) := by decide +kernel
theorem md_Cor_maybeChosenIn_18 : decode mb_Cor_maybeChosenIn 18 = .ok (.isub, 1) := by decide +kernel
theorem md_Cor_maybeChosenIn_19 : decode mb_Cor_maybeChosenIn 19 = .ok (.isub, 1) := by decide +kernel
theorem md_Cor_maybeChosenIn_20 : decode mb_Cor_maybeChosenIn 20 = .ok (.istore_n 2, 1) := by decide +kernel
theorem md_Cor_maybeChosenIn_21 : decode mb_Cor_maybeChosenIn 21 = .ok (.iconst 0, 1) := by decide +kernel
theorem md_Cor_maybeChosenIn_22 : decode mb_Cor_maybeChosenIn 22 = .ok (.istore_n 3, 1) := by decide +kernel
theorem md_Cor_maybeChosenIn_23 : decode mb_Cor_maybeChosenIn 23 = .ok (.iload_n 3, 1) := by decide +kernel
theorem md_Cor_maybeChosenIn_24 : decode mb_Cor_maybeChosenIn 24 = .ok (.aload_n 0, 1) := by decide +kernel
theorem md_Cor_maybeChosenIn_25 : decode mb_Cor_maybeChosenIn 25 = .ok (.getfield 15, 3) := by decide +kernel
theorem md_Cor_maybeChosenIn_28 : decode mb_Cor_maybeChosenIn 28 = .ok (.getfield 23, 3) := by decide +kernel
theorem md_Cor_maybeChosenIn_31 : decode mb_Cor_maybeChosenIn 31 = .ok (.if_icmp .ge 40, 3) := by decide +kernel
theorem md_Cor_maybeChosenIn_34 : decode mb_Cor_maybeChosenIn 34 = .ok (.aload_n 0, 1) := by decide +kernel
theorem md_Cor_maybeChosenIn_35 : decode mb_Cor_maybeChosenIn 35 = .ok (.iload_n 3, 1) := by decide +kernel
theorem md_Cor_maybeChosenIn_36 : decode mb_Cor_maybeChosenIn 36 = .ok (.iload_n 1, 1) := by decide +kernel
theorem md_Cor_maybeChosenIn_37 : decode mb_Cor_maybeChosenIn 37 = .ok (.invokevirtual 127, 3) := by decide +kernel
theorem md_Cor_maybeChosenIn_40 : decode mb_Cor_maybeChosenIn 40 = .ok (.ifCond .eq 25, 3) := by decide +kernel
theorem md_Cor_maybeChosenIn_43 : decode mb_Cor_maybeChosenIn 43 = .ok (.aload_n 0, 1) := by decide +kernel
theorem md_Cor_maybeChosenIn_44 : decode mb_Cor_maybeChosenIn 44 = .ok (.iload_n 1, 1) := by decide +kernel
theorem md_Cor_maybeChosenIn_45 : decode mb_Cor_maybeChosenIn 45 = .ok (.aload_n 0, 1) := by decide +kernel
theorem md_Cor_maybeChosenIn_46 : decode mb_Cor_maybeChosenIn 46 = .ok (.getfield 32, 3) := by decide +kernel
theorem md_Cor_maybeChosenIn_49 : decode mb_Cor_maybeChosenIn 49 = .ok (.iload_n 3, 1) := by decide +kernel
theorem md_Cor_maybeChosenIn_50 : decode mb_Cor_maybeChosenIn 50 = .ok (.iaload, 1) := by decide +kernel
theorem md_Cor_maybeChosenIn_51 : decode mb_Cor_maybeChosenIn 51 = .ok (.invokevirtual 131, 3) := by decide +kernel
theorem md_Cor_maybeChosenIn_54 : decode mb_Cor_maybeChosenIn 54 = .ok (.iload_n 2, 1) := by decide +kernel
theorem md_Cor_maybeChosenIn_55 : decode mb_Cor_maybeChosenIn 55 = .ok (.if_icmp .lt 10, 3) := by decide +kernel
theorem md_Cor_maybeChosenIn_58 : decode mb_Cor_maybeChosenIn 58 = .ok (.aload_n 0, 1) := by decide +kernel
theorem md_Cor_maybeChosenIn_59 : decode mb_Cor_maybeChosenIn 59 = .ok (.getfield 32, 3) := by decide +kernel
theorem md_Cor_maybeChosenIn_62 : decode mb_Cor_maybeChosenIn 62 = .ok (.iload_n 3, 1) := by decide +kernel
theorem md_Cor_maybeChosenIn_63 : decode mb_Cor_maybeChosenIn 63 = .ok (.iaload, 1) := by decide +kernel
theorem md_Cor_maybeChosenIn_64 : decode mb_Cor_maybeChosenIn 64 = .ok (.ireturn, 1) := by decide +kernel
theorem md_Cor_maybeChosenIn_65 : decode mb_Cor_maybeChosenIn 65 = .ok (.iinc 3 1, 3) := by decide +kernel
theorem md_Cor_maybeChosenIn_68 : decode mb_Cor_maybeChosenIn 68 = .ok (.goto (-45), 3) := by decide +kernel
theorem md_Cor_maybeChosenIn_71 : decode mb_Cor_maybeChosenIn 71 = .ok (.iconst 0, 1) := by decide +kernel
theorem md_Cor_maybeChosenIn_72 : decode mb_Cor_maybeChosenIn 72 = .ok (.ireturn, 1) := by decide +kernel
theorem md_Cor_pick_0 : decode mb_Cor_pick 0 = .ok (.aload_n 0, 1) := by decide +kernel
theorem md_Cor_pick_1 : decode mb_Cor_pick 1 = .ok (.invokevirtual 121, 3) := by decide +kernel
theorem md_Cor_pick_4 : decode mb_Cor_pick 4 = .ok (.istore_n 1, 1) := by decide +kernel
theorem md_Cor_pick_5 : decode mb_Cor_pick 5 = .ok (.iload_n 1, 1) := by decide +kernel
theorem md_Cor_pick_6 : decode mb_Cor_pick 6 = .ok (.ifCond .ne 5, 3) := by decide +kernel
theorem md_Cor_pick_9 : decode mb_Cor_pick 9 = .ok (.iconst 0, 1) := by decide +kernel
theorem md_Cor_pick_10 : decode mb_Cor_pick 10 = .ok (.ireturn, 1) := by decide +kernel
theorem md_Cor_pick_11 : decode mb_Cor_pick 11 = .ok (.iload_n 1, 1) := by decide +kernel
theorem md_Cor_pick_12 : decode mb_Cor_pick 12 = .ok (.invokestatic 103, 3) := by decide +kernel
theorem md_Cor_pick_15 : decode mb_Cor_pick 15 = .ok (.ifCond .eq 15, 3) := by decide +kernel
theorem md_Cor_pick_18 : decode mb_Cor_pick 18 = .ok (.aload_n 0, 1) := by decide +kernel
theorem md_Cor_pick_19 : decode mb_Cor_pick 19 = .ok (.iload_n 1, 1) := by decide +kernel
theorem md_Cor_pick_20 : decode mb_Cor_pick 20 = .ok (.invokevirtual 124, 3) := by decide +kernel
theorem md_Cor_pick_23 : decode mb_Cor_pick 23 = .ok (.istore_n 2, 1) := by decide +kernel
theorem md_Cor_pick_24 : decode mb_Cor_pick 24 = .ok (.iload_n 2, 1) := by decide +kernel
theorem md_Cor_pick_25 : decode mb_Cor_pick 25 = .ok (.ifCond .eq 5, 3) := by decide +kernel
theorem md_Cor_pick_28 : decode mb_Cor_pick 28 = .ok (.iload_n 2, 1) := by decide +kernel
theorem md_Cor_pick_29 : decode mb_Cor_pick 29 = .ok (.ireturn, 1) := by decide +kernel
theorem md_Cor_pick_30 : decode mb_Cor_pick 30 = .ok (.aload_n 0, 1) := by decide +kernel
theorem md_Cor_pick_31 : decode mb_Cor_pick 31 = .ok (.iload_n 1, 1) := by decide +kernel
theorem md_Cor_pick_32 : decode mb_Cor_pick 32 = .ok (.invokevirtual 111, 3) := by decide +kernel
theorem md_Cor_pick_35 : decode mb_Cor_pick 35 = .ok (.ireturn, 1) := by decide +kernel
def fr_TB (n : Nat) (p : pz_P) (c : Nat) : Prop := ∀ a, a < n → p 11 c a ≤ 1 ∧ (p 11 c a ≠ 0 → p 12 c a < 2 ^ 31 ∧ p 13 c a < 2 ^ 31)
theorem fr_ls_lt {n : Nat} {p : pz_P} {c r : Nat} (T : fr_TB n p c) {i : Nat} (hi : i ≤ n) : pz_ls p c r i < 2 ^ 31 := by
  rcases pz_ls_ex p c r i with z | ⟨b, b1, b2, b3, b4⟩
  · omega
  · rw [← b4]; exact ((T b (by omega)).2 b2).1
theorem fr_kk_lt {n : Nat} {p : pz_P} {c : Nat} (T : fr_TB n p c) {i : Nat} (hi : i ≤ n) : pz_mx i (fun a => if p 11 c a ≠ 0 then p 13 c a else 0) < 2 ^ 31 := by
  have := pz_mx_le (g := fun a => if p 11 c a ≠ 0 then p 13 c a else 0) (b := 2 ^ 31 - 1) i (fun a ha => by
    split
    · rename_i z; have := ((T a (by omega)).2 z).2; omega
    · omega)
  omega
set_option maxHeartbeats 4000000 in
theorem k_votedIn (l : Launch) (D : va_G) {n : Nat} (ad : Nat × Nat → Nat) (cI cZ cS cA : ClassId) {M : fr_M} {q f : Nat} {S : pz_T} {ex : Nat → Nat → Prop} {s c : Nat} (hn : n ≤ 5) (h : fr_R n q f S ex M) (hs : s < 3) (hc : c < 2) (hx : ¬ ex s c) (T : fr_TB n (S.2 s) c) {a r : Nat} (ha : a < n) (hr2 : r < 2 ^ 31) : fb_C l D n ad cI cZ cS cA my_Cor_votedIn mb_Cor_votedIn 3 (some .boolean) 0 0 M [.ref (ad (9, 2 * s + c)), .int (nI (a)), .int (nI (r))] (some (.int (nI (if S.2 s 11 c a ≠ 0 ∧ S.2 s 13 c a = r then 1 else 0)))) (fun M' => M' = M) := by
  have t1 := (T a ha).1
  refine xw_start [.ref (ad (9, 2 * s + c)), .int (nI (a)), .int (nI (r))] (by decide) (Nat.le_of_ble_eq_true rfl) ?_
  intro p e st m below meth cd0 ls Z hml hr hlk hN hl hw
  have hl : lv_has ls 3 [(0, .ref (ad (9, 2 * s + c))), (1, .int (nI (a))), (2, .int (nI (r)))] := hl
  refine lv_aload_n Z.1 Z.2.1 md_Cor_votedIn_0 rfl (lv_at hl 0 rfl) ?_
  refine xb_get (v := .ref (ad (10, 2 * s + c))) Z hw (fb_in9 n hs hc) (fb_e9 n ad cI cZ cS cA (2 * s + c)) rfl tb_iCor 6 (by decide) mk_Cor_28 rfl rfl md_Cor_votedIn_1 ?_
  refine lv_iload_n Z.1 Z.2.1 md_Cor_votedIn_4 rfl (lv_at hl 1 rfl) ?_
  refine xw_zald Z hw (fb_in10 n hs hc) (fb_e10 n ad cI cZ cS cA (2 * s + c)) 1 rfl (a) rfl ha (by omega) md_Cor_votedIn_5 ?_
  refine xi_re (show M (10, 2 * s + c) (a) = nI (S.2 s 11 c a) from ((fr_t h hs hc hx).2 a ha).1) ?_
  refine xi_if_eq (tgt := 23) Z md_Cor_votedIn_6 (by decide) (by omega) (fun h6 => ?_) (fun h6 => ?_)
  · refine lv_iconst (v := nI 0) Z.1 Z.2.1 md_Cor_votedIn_23 (by decide) ?_
    exact xw_zret Z hr hlk hw md_Cor_votedIn_24 (by first | rw [if_pos (by omega)] | rw [if_neg (by omega)]) rfl rfl
  · have t2 := (T a ha).2 h6
    refine lv_aload_n Z.1 Z.2.1 md_Cor_votedIn_9 rfl (lv_at hl 0 rfl) ?_
    refine xb_get (v := .ref (ad (12, 2 * s + c))) Z hw (fb_in9 n hs hc) (fb_e9 n ad cI cZ cS cA (2 * s + c)) rfl tb_iCor 8 (by decide) mk_Cor_36 rfl rfl md_Cor_votedIn_10 ?_
    refine lv_iload_n Z.1 Z.2.1 md_Cor_votedIn_13 rfl (lv_at hl 1 rfl) ?_
    refine xw_iald Z hw (fb_in12 n hs hc) (fb_e12 n ad cI cZ cS cA (2 * s + c)) 0 rfl (a) rfl ha (by omega) md_Cor_votedIn_14 ?_
    refine xi_re (show M (12, 2 * s + c) (a) = nI (S.2 s 13 c a) from (((fr_t h hs hc hx).2 a ha).2 h6).2) ?_
    refine lv_iload_n Z.1 Z.2.1 md_Cor_votedIn_15 rfl (lv_at hl 2 rfl) ?_
    refine xi_icmp_ne (tgt := 23) Z md_Cor_votedIn_16 (by decide) (by omega) (by omega) (fun h16 => ?_) (fun h16 => ?_)
    · refine lv_iconst (v := nI 0) Z.1 Z.2.1 md_Cor_votedIn_23 (by decide) ?_
      exact xw_zret Z hr hlk hw md_Cor_votedIn_24 (by first | rw [if_pos (by omega)] | rw [if_neg (by omega)]) rfl rfl
    · refine lv_iconst (v := nI 1) Z.1 Z.2.1 md_Cor_votedIn_19 (by decide) ?_
      refine lv_goto (tgt := 24) Z.1 Z.2.1 md_Cor_votedIn_20 (by decide) ?_
      exact xw_zret Z hr hlk hw md_Cor_votedIn_24 (by first | rw [if_pos (by omega)] | rw [if_neg (by omega)]) rfl rfl
set_option maxHeartbeats 4000000 in
theorem k_tallyIn (l : Launch) (D : va_G) {n : Nat} (ad : Nat × Nat → Nat) (cI cZ cS cA : ClassId) {M : fr_M} {q f : Nat} {S : pz_T} {ex : Nat → Nat → Prop} {s c : Nat} (hn : n ≤ 5) (h : fr_R n q f S ex M) (hs : s < 3) (hc : c < 2) (hx : ¬ ex s c) (T : fr_TB n (S.2 s) c) {r v : Nat} (hr2 : r < 2 ^ 31) (hv : v < 2 ^ 31) : fb_C l D n ad cI cZ cS cA my_Cor_tallyIn mb_Cor_tallyIn 5 (some .int) 1 22 M [.ref (ad (9, 2 * s + c)), .int (nI (r)), .int (nI (v))] (some (.int (nI (pz_tf n (S.2 s) c r v)))) (fun M' => M' = M) := by
  refine xw_start [.ref (ad (9, 2 * s + c)), .int (nI (r)), .int (nI (v))] (by decide) (Nat.le_of_ble_eq_true rfl) ?_
  intro p e st m below meth cd0 ls Z hml hr hlk hN hl hw
  have hl : lv_has ls 5 [(0, .ref (ad (9, 2 * s + c))), (1, .int (nI (r))), (2, .int (nI (v)))] := hl
  refine lv_iconst (v := nI 0) Z.1 Z.2.1 md_Cor_tallyIn_0 (by decide) ?_
  refine lv_istore_n Z.1 Z.2.1 md_Cor_tallyIn_1 rfl hl (by decide) rfl (fun ls hl => ?_)
  have hl : lv_has ls 5 [(3, .int (nI (0))), (0, .ref (ad (9, 2 * s + c))), (1, .int (nI (r))), (2, .int (nI (v)))] := hl
  refine lv_iconst (v := nI 0) Z.1 Z.2.1 md_Cor_tallyIn_2 (by decide) ?_
  refine lv_istore Z.1 Z.2.1 md_Cor_tallyIn_3 hl (by decide) rfl (fun ls hl => ?_)
  have hl : lv_has ls 5 [(4, .int (nI (0))), (3, .int (nI (0))), (0, .ref (ad (9, 2 * s + c))), (1, .int (nI (r))), (2, .int (nI (v)))] := hl
  have loop5 : ∀ (d i : Nat) (Hi : Heap) (Li : List Loc) (ls : Array Slot), i + d = n → xw_H D tb_cl (xw_A (fb_ids n) ad) st.heap (fb_ids n) ad (xw_M (fb_k n ad cI cZ cS cA) M) Hi Li → lv_has ls 5 [(4, .int (nI (i))), (3, .int (nI (pz_sm i (fun a => if S.2 s 11 c a ≠ 0 ∧ S.2 s 13 c a = r ∧ S.2 s 12 c a = v then 1 else 0)))), (0, .ref (ad (9, 2 * s + c))), (1, .int (nI (r))), (2, .int (nI (v)))] → W p l e { frames := 1, cells := 0, slots := 0, locals := 22 } st m [.ref (ad (9, 2 * s + c)), .int (nI (r)), .int (nI (v))].toArray below meth cd0 Hi Li 0 0 (MQ below (xw_Qc D tb_cl (fb_ids n) ad (fb_k n ad cI cZ cS cA) (some (.int (nI (pz_tf n (S.2 s) c r v)))) (fun M' => M' = M)) [.ref (ad (9, 2 * s + c)), .int (nI (r)), .int (nI (v))].toArray st 0 0 (xw_A (fb_ids n) ad)) (F0 m 5 ls []) := by
    intro d
    induction d with
    | zero =>
      intro i Hi Li ls hi hw hl
      refine lv_iload Z.1 Z.2.1 md_Cor_tallyIn_5 (lv_at hl 0 rfl) ?_
      refine lv_aload_n Z.1 Z.2.1 md_Cor_tallyIn_7 rfl (lv_at hl 2 rfl) ?_
      refine xb_get (v := .ref (ad (1, 0))) Z hw (fb_in9 n hs hc) (fb_e9 n ad cI cZ cS cA (2 * s + c)) rfl tb_iCor 1 (by decide) mk_Cor_15 rfl rfl md_Cor_tallyIn_8 ?_
      refine xb_get (v := .int (M (1, 0) 0)) Z hw (fb_in1 n) (fb_e1 n ad cI cZ cS cA) rfl tb_iSiz 0 (by decide) mk_Cor_23 rfl rfl md_Cor_tallyIn_11 ?_
      refine xi_re (show M (1, 0) 0 = nI (n) from h.1.1) ?_
      refine xi_icmp_ge (tgt := 47) Z md_Cor_tallyIn_14 (by decide) (by omega) (by omega) (fun h14 => ?_) (fun h14 => by exfalso; omega)
      refine lv_iload_n Z.1 Z.2.1 md_Cor_tallyIn_47 rfl (lv_at hl 1 rfl) ?_
      exact xw_iret Z hr hlk hw md_Cor_tallyIn_48 (by rw [show i = n by omega]; rfl) rfl
    | succ d ih =>
      intro i Hi Li ls hi hw hl
      refine lv_iload Z.1 Z.2.1 md_Cor_tallyIn_5 (lv_at hl 0 rfl) ?_
      refine lv_aload_n Z.1 Z.2.1 md_Cor_tallyIn_7 rfl (lv_at hl 2 rfl) ?_
      refine xb_get (v := .ref (ad (1, 0))) Z hw (fb_in9 n hs hc) (fb_e9 n ad cI cZ cS cA (2 * s + c)) rfl tb_iCor 1 (by decide) mk_Cor_15 rfl rfl md_Cor_tallyIn_8 ?_
      refine xb_get (v := .int (M (1, 0) 0)) Z hw (fb_in1 n) (fb_e1 n ad cI cZ cS cA) rfl tb_iSiz 0 (by decide) mk_Cor_23 rfl rfl md_Cor_tallyIn_11 ?_
      refine xi_re (show M (1, 0) 0 = nI (n) from h.1.1) ?_
      refine xi_icmp_ge (tgt := 47) Z md_Cor_tallyIn_14 (by decide) (by omega) (by omega) (fun h14 => by exfalso; omega) (fun h14 => ?_)
      refine lv_aload_n Z.1 Z.2.1 md_Cor_tallyIn_17 rfl (lv_at hl 2 rfl) ?_
      refine lv_iload Z.1 Z.2.1 md_Cor_tallyIn_18 (lv_at hl 0 rfl) ?_
      refine lv_iload_n Z.1 Z.2.1 md_Cor_tallyIn_20 rfl (lv_at hl 3 rfl) ?_
      refine xw_cV (n := 2) (rest := []) Z hml hl.1 hN hw (k_votedIn (a := i) (r := r) l D ad cI cZ cS cA hn h hs hc hx T (by omega) hr2) tb_g mc_Cor_votedIn mk_Cor_127 mi_Cor_votedIn ms_Cor_votedIn mz_Cor ⟨by decide, by decide, by decide +kernel⟩ ⟨Nat.le_of_ble_eq_true rfl, Nat.le_of_ble_eq_true rfl⟩ (fb_in9 n hs hc) (fb_e9 n ad cI cZ cS cA (2 * s + c) _) rfl rfl rfl rfl (Nat.le_of_ble_eq_true rfl) ⟨Nat.le_refl _, Nat.le_refl _⟩ md_Cor_tallyIn_21 (fun M1 H1 locs1 e1 hw => ?_)
      have ey1 := e1.symm
      subst ey1
      refine W.eq (g2 := F0 m 24 ls [.int (nI (if S.2 s 11 c i ≠ 0 ∧ S.2 s 13 c i = r then 1 else 0))]) rfl ?_
      have lv : (if S.2 s 11 c i ≠ 0 ∧ S.2 s 13 c i = r then 1 else 0) < 2 := by split <;> omega
      refine xi_if_eq (tgt := 41) Z md_Cor_tallyIn_24 (by decide) (by omega) (fun h24 => ?_) (fun h24 => ?_)
      · refine lv_iinc Z.1 Z.2.1 md_Cor_tallyIn_41 hl (k := 0) rfl (xi_inc1 (i)) (by decide) rfl (fun ls hl => ?_)
        have hl : lv_has ls 5 [(4, .int (nI (i + 1))), (3, .int (nI (pz_sm i (fun a => if S.2 s 11 c a ≠ 0 ∧ S.2 s 13 c a = r ∧ S.2 s 12 c a = v then 1 else 0)))), (0, .ref (ad (9, 2 * s + c))), (1, .int (nI (r))), (2, .int (nI (v)))] := hl
        refine lv_goto (tgt := 5) Z.1 Z.2.1 md_Cor_tallyIn_44 (by decide) ?_
        try have vn : ¬ (S.2 s 11 c i ≠ 0 ∧ S.2 s 13 c i = r) := (fun y => by rw [if_pos y] at h24; exact absurd h24 (by decide))
        refine ih (i + 1) _ _ ls (by omega) hw ?_
        first | (rw [show pz_sm (i + 1) (fun a => if S.2 s 11 c a ≠ 0 ∧ S.2 s 13 c a = r ∧ S.2 s 12 c a = v then 1 else 0) = pz_sm i (fun a => if S.2 s 11 c a ≠ 0 ∧ S.2 s 13 c a = r ∧ S.2 s 12 c a = v then 1 else 0) + 1 from by simp only [pz_sm]; rw [if_pos (by omega)]]; exact lv_sub hl [0, 1, 2, 3, 4] rfl) | (rw [show pz_sm (i + 1) (fun a => if S.2 s 11 c a ≠ 0 ∧ S.2 s 13 c a = r ∧ S.2 s 12 c a = v then 1 else 0) = pz_sm i (fun a => if S.2 s 11 c a ≠ 0 ∧ S.2 s 13 c a = r ∧ S.2 s 12 c a = v then 1 else 0) from by simp only [pz_sm]; rw [if_neg (by omega)]; rfl]; exact lv_sub hl [0, 1, 2, 3, 4] rfl)
      · have vi : S.2 s 11 c i ≠ 0 ∧ S.2 s 13 c i = r := by
          by_cases z : S.2 s 11 c i ≠ 0 ∧ S.2 s 13 c i = r
          · exact z
          · rw [if_neg z] at h24; exact absurd rfl h24
        have t2 := (T i (by omega)).2 vi.1
        refine lv_aload_n Z.1 Z.2.1 md_Cor_tallyIn_27 rfl (lv_at hl 2 rfl) ?_
        refine xb_get (v := .ref (ad (11, 2 * s + c))) Z hw (fb_in9 n hs hc) (fb_e9 n ad cI cZ cS cA (2 * s + c)) rfl tb_iCor 7 (by decide) mk_Cor_32 rfl rfl md_Cor_tallyIn_28 ?_
        refine lv_iload Z.1 Z.2.1 md_Cor_tallyIn_31 (lv_at hl 0 rfl) ?_
        refine xw_iald Z hw (fb_in11 n hs hc) (fb_e11 n ad cI cZ cS cA (2 * s + c)) 0 rfl (i) rfl (by omega) (by omega) md_Cor_tallyIn_33 ?_
        refine xi_re (show M (11, 2 * s + c) (i) = nI (S.2 s 12 c i) from ((fr_t h hs hc hx).2 i (by omega)).2 vi.1 |>.1) ?_
        refine lv_iload_n Z.1 Z.2.1 md_Cor_tallyIn_34 rfl (lv_at hl 4 rfl) ?_
        refine xi_icmp_ne (tgt := 41) Z md_Cor_tallyIn_35 (by decide) (by omega) (by omega) (fun h35 => ?_) (fun h35 => ?_)
        · refine lv_iinc Z.1 Z.2.1 md_Cor_tallyIn_41 hl (k := 0) rfl (xi_inc1 (i)) (by decide) rfl (fun ls hl => ?_)
          have hl : lv_has ls 5 [(4, .int (nI (i + 1))), (3, .int (nI (pz_sm i (fun a => if S.2 s 11 c a ≠ 0 ∧ S.2 s 13 c a = r ∧ S.2 s 12 c a = v then 1 else 0)))), (0, .ref (ad (9, 2 * s + c))), (1, .int (nI (r))), (2, .int (nI (v)))] := hl
          refine lv_goto (tgt := 5) Z.1 Z.2.1 md_Cor_tallyIn_44 (by decide) ?_
          try have vn : ¬ (S.2 s 11 c i ≠ 0 ∧ S.2 s 13 c i = r) := (fun y => by rw [if_pos y] at h24; exact absurd h24 (by decide))
          refine ih (i + 1) _ _ ls (by omega) hw ?_
          first | (rw [show pz_sm (i + 1) (fun a => if S.2 s 11 c a ≠ 0 ∧ S.2 s 13 c a = r ∧ S.2 s 12 c a = v then 1 else 0) = pz_sm i (fun a => if S.2 s 11 c a ≠ 0 ∧ S.2 s 13 c a = r ∧ S.2 s 12 c a = v then 1 else 0) + 1 from by simp only [pz_sm]; rw [if_pos (by omega)]]; exact lv_sub hl [0, 1, 2, 3, 4] rfl) | (rw [show pz_sm (i + 1) (fun a => if S.2 s 11 c a ≠ 0 ∧ S.2 s 13 c a = r ∧ S.2 s 12 c a = v then 1 else 0) = pz_sm i (fun a => if S.2 s 11 c a ≠ 0 ∧ S.2 s 13 c a = r ∧ S.2 s 12 c a = v then 1 else 0) from by simp only [pz_sm]; rw [if_neg (by omega)]; rfl]; exact lv_sub hl [0, 1, 2, 3, 4] rfl)
        · refine lv_iinc Z.1 Z.2.1 md_Cor_tallyIn_38 hl (k := 1) rfl (xi_inc1 (pz_sm i (fun a => if S.2 s 11 c a ≠ 0 ∧ S.2 s 13 c a = r ∧ S.2 s 12 c a = v then 1 else 0))) (by decide) rfl (fun ls hl => ?_)
          have hl : lv_has ls 5 [(3, .int (nI ((pz_sm i (fun a => if S.2 s 11 c a ≠ 0 ∧ S.2 s 13 c a = r ∧ S.2 s 12 c a = v then 1 else 0)) + 1))), (4, .int (nI (i))), (0, .ref (ad (9, 2 * s + c))), (1, .int (nI (r))), (2, .int (nI (v)))] := hl
          refine lv_iinc Z.1 Z.2.1 md_Cor_tallyIn_41 hl (k := 1) rfl (xi_inc1 (i)) (by decide) rfl (fun ls hl => ?_)
          have hl : lv_has ls 5 [(4, .int (nI (i + 1))), (3, .int (nI ((pz_sm i (fun a => if S.2 s 11 c a ≠ 0 ∧ S.2 s 13 c a = r ∧ S.2 s 12 c a = v then 1 else 0)) + 1))), (0, .ref (ad (9, 2 * s + c))), (1, .int (nI (r))), (2, .int (nI (v)))] := hl
          refine lv_goto (tgt := 5) Z.1 Z.2.1 md_Cor_tallyIn_44 (by decide) ?_
          try have vn : ¬ (S.2 s 11 c i ≠ 0 ∧ S.2 s 13 c i = r) := (fun y => by rw [if_pos y] at h24; exact absurd h24 (by decide))
          refine ih (i + 1) _ _ ls (by omega) hw ?_
          first | (rw [show pz_sm (i + 1) (fun a => if S.2 s 11 c a ≠ 0 ∧ S.2 s 13 c a = r ∧ S.2 s 12 c a = v then 1 else 0) = pz_sm i (fun a => if S.2 s 11 c a ≠ 0 ∧ S.2 s 13 c a = r ∧ S.2 s 12 c a = v then 1 else 0) + 1 from by simp only [pz_sm]; rw [if_pos (by omega)]]; exact lv_sub hl [0, 1, 2, 3, 4] rfl) | (rw [show pz_sm (i + 1) (fun a => if S.2 s 11 c a ≠ 0 ∧ S.2 s 13 c a = r ∧ S.2 s 12 c a = v then 1 else 0) = pz_sm i (fun a => if S.2 s 11 c a ≠ 0 ∧ S.2 s 13 c a = r ∧ S.2 s 12 c a = v then 1 else 0) from by simp only [pz_sm]; rw [if_neg (by omega)]; rfl]; exact lv_sub hl [0, 1, 2, 3, 4] rfl)
  exact loop5 n (0) _ _ ls (by omega) hw (lv_sub hl [0, 1, 2, 3, 4] rfl)
set_option maxHeartbeats 4000000 in
theorem k_latestRound (l : Launch) (D : va_G) {n : Nat} (ad : Nat × Nat → Nat) (cI cZ cS cA : ClassId) {M : fr_M} {q f : Nat} {S : pz_T} {ex : Nat → Nat → Prop} {s c : Nat} (hn : n ≤ 5) (h : fr_R n q f S ex M) (hs : s < 3) (hc : c < 2) (hx : ¬ ex s c) (T : fr_TB n (S.2 s) c) : fb_C l D n ad cI cZ cS cA my_Cor_latestRound mb_Cor_latestRound 3 (some .int) 1 13 M [.ref (ad (9, 2 * s + c))] (some (.int (nI (pz_kk n (S.2 s) c)))) (fun M' => M' = M) := by
  refine xw_start [.ref (ad (9, 2 * s + c))] (by decide) (Nat.le_of_ble_eq_true rfl) ?_
  intro p e st m below meth cd0 ls Z hml hr hlk hN hl hw
  have hl : lv_has ls 3 [(0, .ref (ad (9, 2 * s + c)))] := hl
  refine lv_iconst (v := nI 0) Z.1 Z.2.1 md_Cor_latestRound_0 (by decide) ?_
  refine lv_istore_n Z.1 Z.2.1 md_Cor_latestRound_1 rfl hl (by decide) rfl (fun ls hl => ?_)
  have hl : lv_has ls 3 [(1, .int (nI (0))), (0, .ref (ad (9, 2 * s + c)))] := hl
  refine lv_iconst (v := nI 0) Z.1 Z.2.1 md_Cor_latestRound_2 (by decide) ?_
  refine lv_istore_n Z.1 Z.2.1 md_Cor_latestRound_3 rfl hl (by decide) rfl (fun ls hl => ?_)
  have hl : lv_has ls 3 [(2, .int (nI (0))), (1, .int (nI (0))), (0, .ref (ad (9, 2 * s + c)))] := hl
  have loop4 : ∀ (d i : Nat) (Hi : Heap) (Li : List Loc) (ls : Array Slot), i + d = n → xw_H D tb_cl (xw_A (fb_ids n) ad) st.heap (fb_ids n) ad (xw_M (fb_k n ad cI cZ cS cA) M) Hi Li → lv_has ls 3 [(2, .int (nI (i))), (1, .int (nI (pz_mx i (fun a => if S.2 s 11 c a ≠ 0 then S.2 s 13 c a else 0)))), (0, .ref (ad (9, 2 * s + c)))] → W p l e { frames := 1, cells := 0, slots := 0, locals := 13 } st m [.ref (ad (9, 2 * s + c))].toArray below meth cd0 Hi Li 0 0 (MQ below (xw_Qc D tb_cl (fb_ids n) ad (fb_k n ad cI cZ cS cA) (some (.int (nI (pz_kk n (S.2 s) c)))) (fun M' => M' = M)) [.ref (ad (9, 2 * s + c))].toArray st 0 0 (xw_A (fb_ids n) ad)) (F0 m 4 ls []) := by
    intro d
    induction d with
    | zero =>
      intro i Hi Li ls hi hw hl
      refine lv_iload_n Z.1 Z.2.1 md_Cor_latestRound_4 rfl (lv_at hl 0 rfl) ?_
      refine lv_aload_n Z.1 Z.2.1 md_Cor_latestRound_5 rfl (lv_at hl 2 rfl) ?_
      refine xb_get (v := .ref (ad (1, 0))) Z hw (fb_in9 n hs hc) (fb_e9 n ad cI cZ cS cA (2 * s + c)) rfl tb_iCor 1 (by decide) mk_Cor_15 rfl rfl md_Cor_latestRound_6 ?_
      refine xb_get (v := .int (M (1, 0) 0)) Z hw (fb_in1 n) (fb_e1 n ad cI cZ cS cA) rfl tb_iSiz 0 (by decide) mk_Cor_23 rfl rfl md_Cor_latestRound_9 ?_
      refine xi_re (show M (1, 0) 0 = nI (n) from h.1.1) ?_
      refine xi_icmp_ge (tgt := 41) Z md_Cor_latestRound_12 (by decide) (by omega) (by omega) (fun h12 => ?_) (fun h12 => by exfalso; omega)
      refine lv_iload_n Z.1 Z.2.1 md_Cor_latestRound_41 rfl (lv_at hl 1 rfl) ?_
      exact xw_iret Z hr hlk hw md_Cor_latestRound_42 (by rw [show i = n by omega]; rfl) rfl
    | succ d ih =>
      intro i Hi Li ls hi hw hl
      refine lv_iload_n Z.1 Z.2.1 md_Cor_latestRound_4 rfl (lv_at hl 0 rfl) ?_
      refine lv_aload_n Z.1 Z.2.1 md_Cor_latestRound_5 rfl (lv_at hl 2 rfl) ?_
      refine xb_get (v := .ref (ad (1, 0))) Z hw (fb_in9 n hs hc) (fb_e9 n ad cI cZ cS cA (2 * s + c)) rfl tb_iCor 1 (by decide) mk_Cor_15 rfl rfl md_Cor_latestRound_6 ?_
      refine xb_get (v := .int (M (1, 0) 0)) Z hw (fb_in1 n) (fb_e1 n ad cI cZ cS cA) rfl tb_iSiz 0 (by decide) mk_Cor_23 rfl rfl md_Cor_latestRound_9 ?_
      refine xi_re (show M (1, 0) 0 = nI (n) from h.1.1) ?_
      refine xi_icmp_ge (tgt := 41) Z md_Cor_latestRound_12 (by decide) (by omega) (by omega) (fun h12 => by exfalso; omega) (fun h12 => ?_)
      refine lv_aload_n Z.1 Z.2.1 md_Cor_latestRound_15 rfl (lv_at hl 2 rfl) ?_
      refine xb_get (v := .ref (ad (10, 2 * s + c))) Z hw (fb_in9 n hs hc) (fb_e9 n ad cI cZ cS cA (2 * s + c)) rfl tb_iCor 6 (by decide) mk_Cor_28 rfl rfl md_Cor_latestRound_16 ?_
      refine lv_iload_n Z.1 Z.2.1 md_Cor_latestRound_19 rfl (lv_at hl 0 rfl) ?_
      refine xw_zald Z hw (fb_in10 n hs hc) (fb_e10 n ad cI cZ cS cA (2 * s + c)) 1 rfl (i) rfl (by omega) (by omega) md_Cor_latestRound_20 ?_
      refine xi_re (show M (10, 2 * s + c) (i) = nI (S.2 s 11 c i) from ((fr_t h hs hc hx).2 i (by omega)).1) ?_
      have t1 := (T i (by omega)).1
      refine xi_if_eq (tgt := 35) Z md_Cor_latestRound_21 (by decide) (by omega) (fun h21 => ?_) (fun h21 => ?_)
      · refine lv_iinc Z.1 Z.2.1 md_Cor_latestRound_35 hl (k := 0) rfl (xi_inc1 (i)) (by decide) rfl (fun ls hl => ?_)
        have hl : lv_has ls 3 [(2, .int (nI (i + 1))), (1, .int (nI (pz_mx i (fun a => if S.2 s 11 c a ≠ 0 then S.2 s 13 c a else 0)))), (0, .ref (ad (9, 2 * s + c)))] := hl
        refine lv_goto (tgt := 4) Z.1 Z.2.1 md_Cor_latestRound_38 (by decide) ?_
        refine ih (i + 1) _ _ ls (by omega) hw ?_
        first | (rw [show pz_mx (i + 1) (fun a => if S.2 s 11 c a ≠ 0 then S.2 s 13 c a else 0) = if pz_mx i (fun a => if S.2 s 11 c a ≠ 0 then S.2 s 13 c a else 0) < S.2 s 13 c i then S.2 s 13 c i else pz_mx i (fun a => if S.2 s 11 c a ≠ 0 then S.2 s 13 c a else 0) from by simp only [pz_mx]; rw [if_pos (c := S.2 s 11 c i ≠ 0) (by omega)]]; exact lv_sub hl [0, 1, 2] rfl) | (rw [show pz_mx (i + 1) (fun a => if S.2 s 11 c a ≠ 0 then S.2 s 13 c a else 0) = pz_mx i (fun a => if S.2 s 11 c a ≠ 0 then S.2 s 13 c a else 0) from by simp only [pz_mx]; rw [if_neg (c := S.2 s 11 c i ≠ 0) (by omega), if_neg (Nat.not_lt_zero _)]]; exact lv_sub hl [0, 1, 2] rfl)
      · have t2 := (T i (by omega)).2 h21
        have lk := fr_kk_lt T (show i ≤ n by omega)
        refine lv_iload_n Z.1 Z.2.1 md_Cor_latestRound_24 rfl (lv_at hl 1 rfl) ?_
        refine lv_aload_n Z.1 Z.2.1 md_Cor_latestRound_25 rfl (lv_at hl 2 rfl) ?_
        refine xb_get (v := .ref (ad (12, 2 * s + c))) Z hw (fb_in9 n hs hc) (fb_e9 n ad cI cZ cS cA (2 * s + c)) rfl tb_iCor 8 (by decide) mk_Cor_36 rfl rfl md_Cor_latestRound_26 ?_
        refine lv_iload_n Z.1 Z.2.1 md_Cor_latestRound_29 rfl (lv_at hl 0 rfl) ?_
        refine xw_iald Z hw (fb_in12 n hs hc) (fb_e12 n ad cI cZ cS cA (2 * s + c)) 0 rfl (i) rfl (by omega) (by omega) md_Cor_latestRound_30 ?_
        refine xi_re (show M (12, 2 * s + c) (i) = nI (S.2 s 13 c i) from (((fr_t h hs hc hx).2 i (by omega)).2 h21).2) ?_
        refine va_mmax Z.1 Z.2.1 (hml.trans hl.1.symm) Z.2.2.2.1 (Z.2.2.1 _ (List.mem_cons_of_mem _ mk_Cor_135)) (Z.2.2.1 _ (List.mem_cons_of_mem _ mt_max)) (Z.2.2.1 _ (List.mem_cons_of_mem _ mz_Math)) (Z.2.2.1 _ (List.mem_cons_of_mem _ mc_max)) (Nat.le_of_ble_eq_true rfl) (Nat.le_of_ble_eq_true rfl) (Nat.le_refl _) (Nat.le_refl _) md_Cor_latestRound_31 ?_
        refine xi_re (show _ = nI (if pz_mx i (fun a => if S.2 s 11 c a ≠ 0 then S.2 s 13 c a else 0) < S.2 s 13 c i then S.2 s 13 c i else pz_mx i (fun a => if S.2 s 11 c a ≠ 0 then S.2 s 13 c a else 0)) from xi_max lk t2.2) ?_
        refine lv_istore_n Z.1 Z.2.1 md_Cor_latestRound_34 rfl hl (by decide) rfl (fun ls hl => ?_)
        have hl : lv_has ls 3 [(1, .int (nI (if pz_mx i (fun a => if S.2 s 11 c a ≠ 0 then S.2 s 13 c a else 0) < S.2 s 13 c i then S.2 s 13 c i else pz_mx i (fun a => if S.2 s 11 c a ≠ 0 then S.2 s 13 c a else 0)))), (2, .int (nI (i))), (0, .ref (ad (9, 2 * s + c)))] := hl
        refine lv_iinc Z.1 Z.2.1 md_Cor_latestRound_35 hl (k := 1) rfl (xi_inc1 (i)) (by decide) rfl (fun ls hl => ?_)
        have hl : lv_has ls 3 [(2, .int (nI (i + 1))), (1, .int (nI (if pz_mx i (fun a => if S.2 s 11 c a ≠ 0 then S.2 s 13 c a else 0) < S.2 s 13 c i then S.2 s 13 c i else pz_mx i (fun a => if S.2 s 11 c a ≠ 0 then S.2 s 13 c a else 0)))), (0, .ref (ad (9, 2 * s + c)))] := hl
        refine lv_goto (tgt := 4) Z.1 Z.2.1 md_Cor_latestRound_38 (by decide) ?_
        refine ih (i + 1) _ _ ls (by omega) hw ?_
        first | (rw [show pz_mx (i + 1) (fun a => if S.2 s 11 c a ≠ 0 then S.2 s 13 c a else 0) = if pz_mx i (fun a => if S.2 s 11 c a ≠ 0 then S.2 s 13 c a else 0) < S.2 s 13 c i then S.2 s 13 c i else pz_mx i (fun a => if S.2 s 11 c a ≠ 0 then S.2 s 13 c a else 0) from by simp only [pz_mx]; rw [if_pos (c := S.2 s 11 c i ≠ 0) (by omega)]]; exact lv_sub hl [0, 1, 2] rfl) | (rw [show pz_mx (i + 1) (fun a => if S.2 s 11 c a ≠ 0 then S.2 s 13 c a else 0) = pz_mx i (fun a => if S.2 s 11 c a ≠ 0 then S.2 s 13 c a else 0) from by simp only [pz_mx]; rw [if_neg (c := S.2 s 11 c i ≠ 0) (by omega), if_neg (Nat.not_lt_zero _)]]; exact lv_sub hl [0, 1, 2] rfl)
  exact loop4 n (0) _ _ ls (by omega) hw (lv_sub hl [0, 1, 2] rfl)
set_option maxHeartbeats 4000000 in
theorem k_leastIn (l : Launch) (D : va_G) {n : Nat} (ad : Nat × Nat → Nat) (cI cZ cS cA : ClassId) {M : fr_M} {q f : Nat} {S : pz_T} {ex : Nat → Nat → Prop} {s c : Nat} (hn : n ≤ 5) (h : fr_R n q f S ex M) (hs : s < 3) (hc : c < 2) (hx : ¬ ex s c) (T : fr_TB n (S.2 s) c) {r : Nat} (hr2 : r < 2 ^ 31) : fb_C l D n ad cI cZ cS cA my_Cor_leastIn mb_Cor_leastIn 4 (some .int) 1 22 M [.ref (ad (9, 2 * s + c)), .int (nI (r))] (some (.int (nI (pz_ls (S.2 s) c r n)))) (fun M' => M' = M) := by
  refine xw_start [.ref (ad (9, 2 * s + c)), .int (nI (r))] (by decide) (Nat.le_of_ble_eq_true rfl) ?_
  intro p e st m below meth cd0 ls Z hml hr hlk hN hl hw
  have hl : lv_has ls 4 [(0, .ref (ad (9, 2 * s + c))), (1, .int (nI (r)))] := hl
  refine lv_iconst (v := nI 0) Z.1 Z.2.1 md_Cor_leastIn_0 (by decide) ?_
  refine lv_istore_n Z.1 Z.2.1 md_Cor_leastIn_1 rfl hl (by decide) rfl (fun ls hl => ?_)
  have hl : lv_has ls 4 [(2, .int (nI (0))), (0, .ref (ad (9, 2 * s + c))), (1, .int (nI (r)))] := hl
  refine lv_iconst (v := nI 0) Z.1 Z.2.1 md_Cor_leastIn_2 (by decide) ?_
  refine lv_istore_n Z.1 Z.2.1 md_Cor_leastIn_3 rfl hl (by decide) rfl (fun ls hl => ?_)
  have hl : lv_has ls 4 [(3, .int (nI (0))), (2, .int (nI (0))), (0, .ref (ad (9, 2 * s + c))), (1, .int (nI (r)))] := hl
  have loop4 : ∀ (d i : Nat) (Hi : Heap) (Li : List Loc) (ls : Array Slot), i + d = n → xw_H D tb_cl (xw_A (fb_ids n) ad) st.heap (fb_ids n) ad (xw_M (fb_k n ad cI cZ cS cA) M) Hi Li → lv_has ls 4 [(3, .int (nI (i))), (2, .int (nI (pz_ls (S.2 s) c r i))), (0, .ref (ad (9, 2 * s + c))), (1, .int (nI (r)))] → W p l e { frames := 1, cells := 0, slots := 0, locals := 22 } st m [.ref (ad (9, 2 * s + c)), .int (nI (r))].toArray below meth cd0 Hi Li 0 0 (MQ below (xw_Qc D tb_cl (fb_ids n) ad (fb_k n ad cI cZ cS cA) (some (.int (nI (pz_ls (S.2 s) c r n)))) (fun M' => M' = M)) [.ref (ad (9, 2 * s + c)), .int (nI (r))].toArray st 0 0 (xw_A (fb_ids n) ad)) (F0 m 4 ls []) := by
    intro d
    induction d with
    | zero =>
      intro i Hi Li ls hi hw hl
      refine lv_iload_n Z.1 Z.2.1 md_Cor_leastIn_4 rfl (lv_at hl 0 rfl) ?_
      refine lv_aload_n Z.1 Z.2.1 md_Cor_leastIn_5 rfl (lv_at hl 2 rfl) ?_
      refine xb_get (v := .ref (ad (1, 0))) Z hw (fb_in9 n hs hc) (fb_e9 n ad cI cZ cS cA (2 * s + c)) rfl tb_iCor 1 (by decide) mk_Cor_15 rfl rfl md_Cor_leastIn_6 ?_
      refine xb_get (v := .int (M (1, 0) 0)) Z hw (fb_in1 n) (fb_e1 n ad cI cZ cS cA) rfl tb_iSiz 0 (by decide) mk_Cor_23 rfl rfl md_Cor_leastIn_9 ?_
      refine xi_re (show M (1, 0) 0 = nI (n) from h.1.1) ?_
      refine xi_icmp_ge (tgt := 51) Z md_Cor_leastIn_12 (by decide) (by omega) (by omega) (fun h12 => ?_) (fun h12 => by exfalso; omega)
      refine lv_iload_n Z.1 Z.2.1 md_Cor_leastIn_51 rfl (lv_at hl 1 rfl) ?_
      exact xw_iret Z hr hlk hw md_Cor_leastIn_52 (by rw [show i = n by omega]) rfl
    | succ d ih =>
      intro i Hi Li ls hi hw hl
      refine lv_iload_n Z.1 Z.2.1 md_Cor_leastIn_4 rfl (lv_at hl 0 rfl) ?_
      refine lv_aload_n Z.1 Z.2.1 md_Cor_leastIn_5 rfl (lv_at hl 2 rfl) ?_
      refine xb_get (v := .ref (ad (1, 0))) Z hw (fb_in9 n hs hc) (fb_e9 n ad cI cZ cS cA (2 * s + c)) rfl tb_iCor 1 (by decide) mk_Cor_15 rfl rfl md_Cor_leastIn_6 ?_
      refine xb_get (v := .int (M (1, 0) 0)) Z hw (fb_in1 n) (fb_e1 n ad cI cZ cS cA) rfl tb_iSiz 0 (by decide) mk_Cor_23 rfl rfl md_Cor_leastIn_9 ?_
      refine xi_re (show M (1, 0) 0 = nI (n) from h.1.1) ?_
      refine xi_icmp_ge (tgt := 51) Z md_Cor_leastIn_12 (by decide) (by omega) (by omega) (fun h12 => by exfalso; omega) (fun h12 => ?_)
      refine lv_aload_n Z.1 Z.2.1 md_Cor_leastIn_15 rfl (lv_at hl 2 rfl) ?_
      refine lv_iload_n Z.1 Z.2.1 md_Cor_leastIn_16 rfl (lv_at hl 0 rfl) ?_
      refine lv_iload_n Z.1 Z.2.1 md_Cor_leastIn_17 rfl (lv_at hl 3 rfl) ?_
      refine xw_cV (n := 2) (rest := []) Z hml hl.1 hN hw (k_votedIn (a := i) (r := r) l D ad cI cZ cS cA hn h hs hc hx T (by omega) hr2) tb_g mc_Cor_votedIn mk_Cor_127 mi_Cor_votedIn ms_Cor_votedIn mz_Cor ⟨by decide, by decide, by decide +kernel⟩ ⟨Nat.le_of_ble_eq_true rfl, Nat.le_of_ble_eq_true rfl⟩ (fb_in9 n hs hc) (fb_e9 n ad cI cZ cS cA (2 * s + c) _) rfl rfl rfl rfl (Nat.le_of_ble_eq_true rfl) ⟨Nat.le_refl _, Nat.le_refl _⟩ md_Cor_leastIn_18 (fun M1 H1 locs1 e1 hw => ?_)
      have ey1 := e1.symm
      subst ey1
      refine W.eq (g2 := F0 m 21 ls [.int (nI (if S.2 s 11 c i ≠ 0 ∧ S.2 s 13 c i = r then 1 else 0))]) rfl ?_
      have lv : (if S.2 s 11 c i ≠ 0 ∧ S.2 s 13 c i = r then 1 else 0) < 2 := by split <;> omega
      have ll := fr_ls_lt (r := r) T (show i ≤ n by omega)
      refine xi_if_eq (tgt := 45) Z md_Cor_leastIn_21 (by decide) (by omega) (fun h21 => ?_) (fun h21 => ?_)
      · refine lv_iinc Z.1 Z.2.1 md_Cor_leastIn_45 hl (k := 0) rfl (xi_inc1 (i)) (by decide) rfl (fun ls hl => ?_)
        have hl : lv_has ls 4 [(3, .int (nI (i + 1))), (2, .int (nI (pz_ls (S.2 s) c r i))), (0, .ref (ad (9, 2 * s + c))), (1, .int (nI (r)))] := hl
        refine lv_goto (tgt := 4) Z.1 Z.2.1 md_Cor_leastIn_48 (by decide) ?_
        try have vn : ¬ (S.2 s 11 c i ≠ 0 ∧ S.2 s 13 c i = r) := (fun y => by rw [if_pos y] at h21; exact absurd h21 (by decide))
        refine ih (i + 1) _ _ ls (by omega) hw ?_
        first | (rw [show pz_ls (S.2 s) c r (i + 1) = S.2 s 12 c i from by simp only [pz_ls]; rw [if_pos (by omega)]]; exact lv_sub hl [0, 1, 2, 3] rfl) | (rw [show pz_ls (S.2 s) c r (i + 1) = pz_ls (S.2 s) c r i from by simp only [pz_ls]; rw [if_neg (by omega)]]; exact lv_sub hl [0, 1, 2, 3] rfl)
      · have vi : S.2 s 11 c i ≠ 0 ∧ S.2 s 13 c i = r := by
          by_cases z : S.2 s 11 c i ≠ 0 ∧ S.2 s 13 c i = r
          · exact z
          · rw [if_neg z] at h21; exact absurd rfl h21
        have t2 := (T i (by omega)).2 vi.1
        refine lv_iload_n Z.1 Z.2.1 md_Cor_leastIn_24 rfl (lv_at hl 1 rfl) ?_
        refine xi_if_eq (tgt := 38) Z md_Cor_leastIn_25 (by decide) (by omega) (fun h25 => ?_) (fun h25 => ?_)
        · refine lv_aload_n Z.1 Z.2.1 md_Cor_leastIn_38 rfl (lv_at hl 2 rfl) ?_
          refine xb_get (v := .ref (ad (11, 2 * s + c))) Z hw (fb_in9 n hs hc) (fb_e9 n ad cI cZ cS cA (2 * s + c)) rfl tb_iCor 7 (by decide) mk_Cor_32 rfl rfl md_Cor_leastIn_39 ?_
          refine lv_iload_n Z.1 Z.2.1 md_Cor_leastIn_42 rfl (lv_at hl 0 rfl) ?_
          refine xw_iald Z hw (fb_in11 n hs hc) (fb_e11 n ad cI cZ cS cA (2 * s + c)) 0 rfl (i) rfl (by omega) (by omega) md_Cor_leastIn_43 ?_
          refine xi_re (show M (11, 2 * s + c) (i) = nI (S.2 s 12 c i) from ((fr_t h hs hc hx).2 i (by omega)).2 vi.1 |>.1) ?_
          refine lv_istore_n Z.1 Z.2.1 md_Cor_leastIn_44 rfl hl (by decide) rfl (fun ls hl => ?_)
          have hl : lv_has ls 4 [(2, .int (nI (S.2 s 12 c i))), (3, .int (nI (i))), (0, .ref (ad (9, 2 * s + c))), (1, .int (nI (r)))] := hl
          refine lv_iinc Z.1 Z.2.1 md_Cor_leastIn_45 hl (k := 1) rfl (xi_inc1 (i)) (by decide) rfl (fun ls hl => ?_)
          have hl : lv_has ls 4 [(3, .int (nI (i + 1))), (2, .int (nI (S.2 s 12 c i))), (0, .ref (ad (9, 2 * s + c))), (1, .int (nI (r)))] := hl
          refine lv_goto (tgt := 4) Z.1 Z.2.1 md_Cor_leastIn_48 (by decide) ?_
          try have vn : ¬ (S.2 s 11 c i ≠ 0 ∧ S.2 s 13 c i = r) := (fun y => by rw [if_pos y] at h21; exact absurd h21 (by decide))
          refine ih (i + 1) _ _ ls (by omega) hw ?_
          first | (rw [show pz_ls (S.2 s) c r (i + 1) = S.2 s 12 c i from by simp only [pz_ls]; rw [if_pos (by omega)]]; exact lv_sub hl [0, 1, 2, 3] rfl) | (rw [show pz_ls (S.2 s) c r (i + 1) = pz_ls (S.2 s) c r i from by simp only [pz_ls]; rw [if_neg (by omega)]]; exact lv_sub hl [0, 1, 2, 3] rfl)
        · refine lv_aload_n Z.1 Z.2.1 md_Cor_leastIn_28 rfl (lv_at hl 2 rfl) ?_
          refine xb_get (v := .ref (ad (11, 2 * s + c))) Z hw (fb_in9 n hs hc) (fb_e9 n ad cI cZ cS cA (2 * s + c)) rfl tb_iCor 7 (by decide) mk_Cor_32 rfl rfl md_Cor_leastIn_29 ?_
          refine lv_iload_n Z.1 Z.2.1 md_Cor_leastIn_32 rfl (lv_at hl 0 rfl) ?_
          refine xw_iald Z hw (fb_in11 n hs hc) (fb_e11 n ad cI cZ cS cA (2 * s + c)) 0 rfl (i) rfl (by omega) (by omega) md_Cor_leastIn_33 ?_
          refine xi_re (show M (11, 2 * s + c) (i) = nI (S.2 s 12 c i) from ((fr_t h hs hc hx).2 i (by omega)).2 vi.1 |>.1) ?_
          refine lv_iload_n Z.1 Z.2.1 md_Cor_leastIn_34 rfl (lv_at hl 1 rfl) ?_
          refine xi_icmp_ge (tgt := 45) Z md_Cor_leastIn_35 (by decide) (by omega) (by omega) (fun h35 => ?_) (fun h35 => ?_)
          · refine lv_iinc Z.1 Z.2.1 md_Cor_leastIn_45 hl (k := 0) rfl (xi_inc1 (i)) (by decide) rfl (fun ls hl => ?_)
            have hl : lv_has ls 4 [(3, .int (nI (i + 1))), (2, .int (nI (pz_ls (S.2 s) c r i))), (0, .ref (ad (9, 2 * s + c))), (1, .int (nI (r)))] := hl
            refine lv_goto (tgt := 4) Z.1 Z.2.1 md_Cor_leastIn_48 (by decide) ?_
            try have vn : ¬ (S.2 s 11 c i ≠ 0 ∧ S.2 s 13 c i = r) := (fun y => by rw [if_pos y] at h21; exact absurd h21 (by decide))
            refine ih (i + 1) _ _ ls (by omega) hw ?_
            first | (rw [show pz_ls (S.2 s) c r (i + 1) = S.2 s 12 c i from by simp only [pz_ls]; rw [if_pos (by omega)]]; exact lv_sub hl [0, 1, 2, 3] rfl) | (rw [show pz_ls (S.2 s) c r (i + 1) = pz_ls (S.2 s) c r i from by simp only [pz_ls]; rw [if_neg (by omega)]]; exact lv_sub hl [0, 1, 2, 3] rfl)
          · refine lv_aload_n Z.1 Z.2.1 md_Cor_leastIn_38 rfl (lv_at hl 2 rfl) ?_
            refine xb_get (v := .ref (ad (11, 2 * s + c))) Z hw (fb_in9 n hs hc) (fb_e9 n ad cI cZ cS cA (2 * s + c)) rfl tb_iCor 7 (by decide) mk_Cor_32 rfl rfl md_Cor_leastIn_39 ?_
            refine lv_iload_n Z.1 Z.2.1 md_Cor_leastIn_42 rfl (lv_at hl 0 rfl) ?_
            refine xw_iald Z hw (fb_in11 n hs hc) (fb_e11 n ad cI cZ cS cA (2 * s + c)) 0 rfl (i) rfl (by omega) (by omega) md_Cor_leastIn_43 ?_
            refine xi_re (show M (11, 2 * s + c) (i) = nI (S.2 s 12 c i) from ((fr_t h hs hc hx).2 i (by omega)).2 vi.1 |>.1) ?_
            refine lv_istore_n Z.1 Z.2.1 md_Cor_leastIn_44 rfl hl (by decide) rfl (fun ls hl => ?_)
            have hl : lv_has ls 4 [(2, .int (nI (S.2 s 12 c i))), (3, .int (nI (i))), (0, .ref (ad (9, 2 * s + c))), (1, .int (nI (r)))] := hl
            refine lv_iinc Z.1 Z.2.1 md_Cor_leastIn_45 hl (k := 1) rfl (xi_inc1 (i)) (by decide) rfl (fun ls hl => ?_)
            have hl : lv_has ls 4 [(3, .int (nI (i + 1))), (2, .int (nI (S.2 s 12 c i))), (0, .ref (ad (9, 2 * s + c))), (1, .int (nI (r)))] := hl
            refine lv_goto (tgt := 4) Z.1 Z.2.1 md_Cor_leastIn_48 (by decide) ?_
            try have vn : ¬ (S.2 s 11 c i ≠ 0 ∧ S.2 s 13 c i = r) := (fun y => by rw [if_pos y] at h21; exact absurd h21 (by decide))
            refine ih (i + 1) _ _ ls (by omega) hw ?_
            first | (rw [show pz_ls (S.2 s) c r (i + 1) = S.2 s 12 c i from by simp only [pz_ls]; rw [if_pos (by omega)]]; exact lv_sub hl [0, 1, 2, 3] rfl) | (rw [show pz_ls (S.2 s) c r (i + 1) = pz_ls (S.2 s) c r i from by simp only [pz_ls]; rw [if_neg (by omega)]]; exact lv_sub hl [0, 1, 2, 3] rfl)
  exact loop4 n (0) _ _ ls (by omega) hw (lv_sub hl [0, 1, 2, 3] rfl)
set_option maxHeartbeats 4000000 in
theorem k_mostIn (l : Launch) (D : va_G) {n : Nat} (ad : Nat × Nat → Nat) (cI cZ cS cA : ClassId) {M : fr_M} {q f : Nat} {S : pz_T} {ex : Nat → Nat → Prop} {s c : Nat} (hn : n ≤ 5) (h : fr_R n q f S ex M) (hs : s < 3) (hc : c < 2) (hx : ¬ ex s c) (T : fr_TB n (S.2 s) c) {r : Nat} (hr2 : r < 2 ^ 31) : fb_C l D n ad cI cZ cS cA my_Cor_mostIn mb_Cor_mostIn 4 (some .int) 2 46 M [.ref (ad (9, 2 * s + c)), .int (nI (r))] (some (.int (nI (pz_mo n (S.2 s) c r)))) (fun M' => M' = M) := by
  refine xw_start [.ref (ad (9, 2 * s + c)), .int (nI (r))] (by decide) (Nat.le_of_ble_eq_true rfl) ?_
  intro p e st m below meth cd0 ls Z hml hr hlk hN hl hw
  have hl : lv_has ls 4 [(0, .ref (ad (9, 2 * s + c))), (1, .int (nI (r)))] := hl
  refine lv_iconst (v := nI 0) Z.1 Z.2.1 md_Cor_mostIn_0 (by decide) ?_
  refine lv_istore_n Z.1 Z.2.1 md_Cor_mostIn_1 rfl hl (by decide) rfl (fun ls hl => ?_)
  have hl : lv_has ls 4 [(2, .int (nI (0))), (0, .ref (ad (9, 2 * s + c))), (1, .int (nI (r)))] := hl
  refine lv_iconst (v := nI 0) Z.1 Z.2.1 md_Cor_mostIn_2 (by decide) ?_
  refine lv_istore_n Z.1 Z.2.1 md_Cor_mostIn_3 rfl hl (by decide) rfl (fun ls hl => ?_)
  have hl : lv_has ls 4 [(3, .int (nI (0))), (2, .int (nI (0))), (0, .ref (ad (9, 2 * s + c))), (1, .int (nI (r)))] := hl
  have loop4 : ∀ (d i : Nat) (Hi : Heap) (Li : List Loc) (ls : Array Slot), i + d = n → xw_H D tb_cl (xw_A (fb_ids n) ad) st.heap (fb_ids n) ad (xw_M (fb_k n ad cI cZ cS cA) M) Hi Li → lv_has ls 4 [(3, .int (nI (i))), (2, .int (nI (pz_mx i (fun a => if S.2 s 11 c a ≠ 0 ∧ S.2 s 13 c a = r then pz_tf n (S.2 s) c r (S.2 s 12 c a) else 0)))), (0, .ref (ad (9, 2 * s + c))), (1, .int (nI (r)))] → W p l e { frames := 2, cells := 0, slots := 0, locals := 46 } st m [.ref (ad (9, 2 * s + c)), .int (nI (r))].toArray below meth cd0 Hi Li 0 0 (MQ below (xw_Qc D tb_cl (fb_ids n) ad (fb_k n ad cI cZ cS cA) (some (.int (nI (pz_mo n (S.2 s) c r)))) (fun M' => M' = M)) [.ref (ad (9, 2 * s + c)), .int (nI (r))].toArray st 0 0 (xw_A (fb_ids n) ad)) (F0 m 4 ls []) := by
    intro d
    induction d with
    | zero =>
      intro i Hi Li ls hi hw hl
      refine lv_iload_n Z.1 Z.2.1 md_Cor_mostIn_4 rfl (lv_at hl 0 rfl) ?_
      refine lv_aload_n Z.1 Z.2.1 md_Cor_mostIn_5 rfl (lv_at hl 2 rfl) ?_
      refine xb_get (v := .ref (ad (1, 0))) Z hw (fb_in9 n hs hc) (fb_e9 n ad cI cZ cS cA (2 * s + c)) rfl tb_iCor 1 (by decide) mk_Cor_15 rfl rfl md_Cor_mostIn_6 ?_
      refine xb_get (v := .int (M (1, 0) 0)) Z hw (fb_in1 n) (fb_e1 n ad cI cZ cS cA) rfl tb_iSiz 0 (by decide) mk_Cor_23 rfl rfl md_Cor_mostIn_9 ?_
      refine xi_re (show M (1, 0) 0 = nI (n) from h.1.1) ?_
      refine xi_icmp_ge (tgt := 46) Z md_Cor_mostIn_12 (by decide) (by omega) (by omega) (fun h12 => ?_) (fun h12 => by exfalso; omega)
      refine lv_iload_n Z.1 Z.2.1 md_Cor_mostIn_46 rfl (lv_at hl 1 rfl) ?_
      exact xw_iret Z hr hlk hw md_Cor_mostIn_47 (by rw [show i = n by omega]; rfl) rfl
    | succ d ih =>
      intro i Hi Li ls hi hw hl
      refine lv_iload_n Z.1 Z.2.1 md_Cor_mostIn_4 rfl (lv_at hl 0 rfl) ?_
      refine lv_aload_n Z.1 Z.2.1 md_Cor_mostIn_5 rfl (lv_at hl 2 rfl) ?_
      refine xb_get (v := .ref (ad (1, 0))) Z hw (fb_in9 n hs hc) (fb_e9 n ad cI cZ cS cA (2 * s + c)) rfl tb_iCor 1 (by decide) mk_Cor_15 rfl rfl md_Cor_mostIn_6 ?_
      refine xb_get (v := .int (M (1, 0) 0)) Z hw (fb_in1 n) (fb_e1 n ad cI cZ cS cA) rfl tb_iSiz 0 (by decide) mk_Cor_23 rfl rfl md_Cor_mostIn_9 ?_
      refine xi_re (show M (1, 0) 0 = nI (n) from h.1.1) ?_
      refine xi_icmp_ge (tgt := 46) Z md_Cor_mostIn_12 (by decide) (by omega) (by omega) (fun h12 => by exfalso; omega) (fun h12 => ?_)
      refine lv_aload_n Z.1 Z.2.1 md_Cor_mostIn_15 rfl (lv_at hl 2 rfl) ?_
      refine lv_iload_n Z.1 Z.2.1 md_Cor_mostIn_16 rfl (lv_at hl 0 rfl) ?_
      refine lv_iload_n Z.1 Z.2.1 md_Cor_mostIn_17 rfl (lv_at hl 3 rfl) ?_
      refine xw_cV (n := 2) (rest := []) Z hml hl.1 hN hw (k_votedIn (a := i) (r := r) l D ad cI cZ cS cA hn h hs hc hx T (by omega) hr2) tb_g mc_Cor_votedIn mk_Cor_127 mi_Cor_votedIn ms_Cor_votedIn mz_Cor ⟨by decide, by decide, by decide +kernel⟩ ⟨Nat.le_of_ble_eq_true rfl, Nat.le_of_ble_eq_true rfl⟩ (fb_in9 n hs hc) (fb_e9 n ad cI cZ cS cA (2 * s + c) _) rfl rfl rfl rfl (Nat.le_of_ble_eq_true rfl) ⟨Nat.le_refl _, Nat.le_refl _⟩ md_Cor_mostIn_18 (fun M1 H1 locs1 e1 hw => ?_)
      have ey1 := e1.symm
      subst ey1
      refine W.eq (g2 := F0 m 21 ls [.int (nI (if S.2 s 11 c i ≠ 0 ∧ S.2 s 13 c i = r then 1 else 0))]) rfl ?_
      have lv : (if S.2 s 11 c i ≠ 0 ∧ S.2 s 13 c i = r then 1 else 0) < 2 := by split <;> omega
      refine xi_if_eq (tgt := 40) Z md_Cor_mostIn_21 (by decide) (by omega) (fun h21 => ?_) (fun h21 => ?_)
      · refine lv_iinc Z.1 Z.2.1 md_Cor_mostIn_40 hl (k := 0) rfl (xi_inc1 (i)) (by decide) rfl (fun ls hl => ?_)
        have hl : lv_has ls 4 [(3, .int (nI (i + 1))), (2, .int (nI (pz_mx i (fun a => if S.2 s 11 c a ≠ 0 ∧ S.2 s 13 c a = r then pz_tf n (S.2 s) c r (S.2 s 12 c a) else 0)))), (0, .ref (ad (9, 2 * s + c))), (1, .int (nI (r)))] := hl
        refine lv_goto (tgt := 4) Z.1 Z.2.1 md_Cor_mostIn_43 (by decide) ?_
        try have vn : ¬ (S.2 s 11 c i ≠ 0 ∧ S.2 s 13 c i = r) := (fun y => by rw [if_pos y] at h21; exact absurd h21 (by decide))
        refine ih (i + 1) _ _ ls (by omega) hw ?_
        first | (rw [show pz_mx (i + 1) (fun a => if S.2 s 11 c a ≠ 0 ∧ S.2 s 13 c a = r then pz_tf n (S.2 s) c r (S.2 s 12 c a) else 0) = if pz_mx i (fun a => if S.2 s 11 c a ≠ 0 ∧ S.2 s 13 c a = r then pz_tf n (S.2 s) c r (S.2 s 12 c a) else 0) < pz_tf n (S.2 s) c r (S.2 s 12 c i) then pz_tf n (S.2 s) c r (S.2 s 12 c i) else pz_mx i (fun a => if S.2 s 11 c a ≠ 0 ∧ S.2 s 13 c a = r then pz_tf n (S.2 s) c r (S.2 s 12 c a) else 0) from by simp only [pz_mx]; rw [if_pos (c := S.2 s 11 c i ≠ 0 ∧ S.2 s 13 c i = r) (by omega)]]; exact lv_sub hl [0, 1, 2, 3] rfl) | (rw [show pz_mx (i + 1) (fun a => if S.2 s 11 c a ≠ 0 ∧ S.2 s 13 c a = r then pz_tf n (S.2 s) c r (S.2 s 12 c a) else 0) = pz_mx i (fun a => if S.2 s 11 c a ≠ 0 ∧ S.2 s 13 c a = r then pz_tf n (S.2 s) c r (S.2 s 12 c a) else 0) from by simp only [pz_mx]; rw [if_neg (c := S.2 s 11 c i ≠ 0 ∧ S.2 s 13 c i = r) (by omega), if_neg (Nat.not_lt_zero _)]]; exact lv_sub hl [0, 1, 2, 3] rfl)
      · have vi : S.2 s 11 c i ≠ 0 ∧ S.2 s 13 c i = r := by
          by_cases z : S.2 s 11 c i ≠ 0 ∧ S.2 s 13 c i = r
          · exact z
          · rw [if_neg z] at h21; exact absurd rfl h21
        have t2 := (T i (by omega)).2 vi.1
        refine lv_iload_n Z.1 Z.2.1 md_Cor_mostIn_24 rfl (lv_at hl 1 rfl) ?_
        refine lv_aload_n Z.1 Z.2.1 md_Cor_mostIn_25 rfl (lv_at hl 2 rfl) ?_
        refine lv_iload_n Z.1 Z.2.1 md_Cor_mostIn_26 rfl (lv_at hl 3 rfl) ?_
        refine lv_aload_n Z.1 Z.2.1 md_Cor_mostIn_27 rfl (lv_at hl 2 rfl) ?_
        refine xb_get (v := .ref (ad (11, 2 * s + c))) Z hw (fb_in9 n hs hc) (fb_e9 n ad cI cZ cS cA (2 * s + c)) rfl tb_iCor 7 (by decide) mk_Cor_32 rfl rfl md_Cor_mostIn_28 ?_
        refine lv_iload_n Z.1 Z.2.1 md_Cor_mostIn_31 rfl (lv_at hl 0 rfl) ?_
        refine xw_iald Z hw (fb_in11 n hs hc) (fb_e11 n ad cI cZ cS cA (2 * s + c)) 0 rfl (i) rfl (by omega) (by omega) md_Cor_mostIn_32 ?_
        refine xi_re (show M (11, 2 * s + c) (i) = nI (S.2 s 12 c i) from ((fr_t h hs hc hx).2 i (by omega)).2 vi.1 |>.1) ?_
        refine xw_cV (n := 2) (rest := [.int (nI (pz_mx i (fun a => if S.2 s 11 c a ≠ 0 ∧ S.2 s 13 c a = r then pz_tf n (S.2 s) c r (S.2 s 12 c a) else 0)))]) Z hml hl.1 hN hw (k_tallyIn (r := r) (v := S.2 s 12 c i) l D ad cI cZ cS cA hn h hs hc hx T hr2 t2.1) tb_g mc_Cor_tallyIn mk_Cor_131 mi_Cor_tallyIn ms_Cor_tallyIn mz_Cor ⟨by decide, by decide, by decide +kernel⟩ ⟨Nat.le_of_ble_eq_true rfl, Nat.le_of_ble_eq_true rfl⟩ (fb_in9 n hs hc) (fb_e9 n ad cI cZ cS cA (2 * s + c) _) rfl rfl rfl rfl (Nat.le_of_ble_eq_true rfl) ⟨Nat.le_refl _, Nat.le_refl _⟩ md_Cor_mostIn_33 (fun M2 H2 locs2 e2 hw => ?_)
        have ey2 := e2.symm
        subst ey2
        refine W.eq (g2 := F0 m 36 ls [.int (nI (pz_tf n (S.2 s) c r (S.2 s 12 c i))), .int (nI (pz_mx i (fun a => if S.2 s 11 c a ≠ 0 ∧ S.2 s 13 c a = r then pz_tf n (S.2 s) c r (S.2 s 12 c a) else 0)))]) rfl ?_
        refine va_mmax Z.1 Z.2.1 (hml.trans hl.1.symm) Z.2.2.2.1 (Z.2.2.1 _ (List.mem_cons_of_mem _ mk_Cor_135)) (Z.2.2.1 _ (List.mem_cons_of_mem _ mt_max)) (Z.2.2.1 _ (List.mem_cons_of_mem _ mz_Math)) (Z.2.2.1 _ (List.mem_cons_of_mem _ mc_max)) (Nat.le_of_ble_eq_true rfl) (Nat.le_of_ble_eq_true rfl) (Nat.le_refl _) (Nat.le_refl _) md_Cor_mostIn_36 ?_
        refine xi_re (show _ = nI (if pz_mx i (fun a => if S.2 s 11 c a ≠ 0 ∧ S.2 s 13 c a = r then pz_tf n (S.2 s) c r (S.2 s 12 c a) else 0) < pz_tf n (S.2 s) c r (S.2 s 12 c i) then pz_tf n (S.2 s) c r (S.2 s 12 c i) else pz_mx i (fun a => if S.2 s 11 c a ≠ 0 ∧ S.2 s 13 c a = r then pz_tf n (S.2 s) c r (S.2 s 12 c a) else 0)) from xi_max (Nat.lt_of_le_of_lt (pz_mx_le (b := n) i (fun a _ => by split <;> first | exact pz_tf_le | omega)) (by omega)) (Nat.lt_of_le_of_lt pz_tf_le (by omega))) ?_
        refine lv_istore_n Z.1 Z.2.1 md_Cor_mostIn_39 rfl hl (by decide) rfl (fun ls hl => ?_)
        have hl : lv_has ls 4 [(2, .int (nI (if pz_mx i (fun a => if S.2 s 11 c a ≠ 0 ∧ S.2 s 13 c a = r then pz_tf n (S.2 s) c r (S.2 s 12 c a) else 0) < pz_tf n (S.2 s) c r (S.2 s 12 c i) then pz_tf n (S.2 s) c r (S.2 s 12 c i) else pz_mx i (fun a => if S.2 s 11 c a ≠ 0 ∧ S.2 s 13 c a = r then pz_tf n (S.2 s) c r (S.2 s 12 c a) else 0)))), (3, .int (nI (i))), (0, .ref (ad (9, 2 * s + c))), (1, .int (nI (r)))] := hl
        refine lv_iinc Z.1 Z.2.1 md_Cor_mostIn_40 hl (k := 1) rfl (xi_inc1 (i)) (by decide) rfl (fun ls hl => ?_)
        have hl : lv_has ls 4 [(3, .int (nI (i + 1))), (2, .int (nI (if pz_mx i (fun a => if S.2 s 11 c a ≠ 0 ∧ S.2 s 13 c a = r then pz_tf n (S.2 s) c r (S.2 s 12 c a) else 0) < pz_tf n (S.2 s) c r (S.2 s 12 c i) then pz_tf n (S.2 s) c r (S.2 s 12 c i) else pz_mx i (fun a => if S.2 s 11 c a ≠ 0 ∧ S.2 s 13 c a = r then pz_tf n (S.2 s) c r (S.2 s 12 c a) else 0)))), (0, .ref (ad (9, 2 * s + c))), (1, .int (nI (r)))] := hl
        refine lv_goto (tgt := 4) Z.1 Z.2.1 md_Cor_mostIn_43 (by decide) ?_
        try have vn : ¬ (S.2 s 11 c i ≠ 0 ∧ S.2 s 13 c i = r) := (fun y => by rw [if_pos y] at h21; exact absurd h21 (by decide))
        refine ih (i + 1) _ _ ls (by omega) hw ?_
        first | (rw [show pz_mx (i + 1) (fun a => if S.2 s 11 c a ≠ 0 ∧ S.2 s 13 c a = r then pz_tf n (S.2 s) c r (S.2 s 12 c a) else 0) = if pz_mx i (fun a => if S.2 s 11 c a ≠ 0 ∧ S.2 s 13 c a = r then pz_tf n (S.2 s) c r (S.2 s 12 c a) else 0) < pz_tf n (S.2 s) c r (S.2 s 12 c i) then pz_tf n (S.2 s) c r (S.2 s 12 c i) else pz_mx i (fun a => if S.2 s 11 c a ≠ 0 ∧ S.2 s 13 c a = r then pz_tf n (S.2 s) c r (S.2 s 12 c a) else 0) from by simp only [pz_mx]; rw [if_pos (c := S.2 s 11 c i ≠ 0 ∧ S.2 s 13 c i = r) (by omega)]]; exact lv_sub hl [0, 1, 2, 3] rfl) | (rw [show pz_mx (i + 1) (fun a => if S.2 s 11 c a ≠ 0 ∧ S.2 s 13 c a = r then pz_tf n (S.2 s) c r (S.2 s 12 c a) else 0) = pz_mx i (fun a => if S.2 s 11 c a ≠ 0 ∧ S.2 s 13 c a = r then pz_tf n (S.2 s) c r (S.2 s 12 c a) else 0) from by simp only [pz_mx]; rw [if_neg (c := S.2 s 11 c i ≠ 0 ∧ S.2 s 13 c i = r) (by omega), if_neg (Nat.not_lt_zero _)]]; exact lv_sub hl [0, 1, 2, 3] rfl)
  exact loop4 n (0) _ _ ls (by omega) hw (lv_sub hl [0, 1, 2, 3] rfl)
set_option maxHeartbeats 4000000 in
theorem k_canStill (l : Launch) (D : va_G) {n : Nat} (ad : Nat × Nat → Nat) (cI cZ cS cA : ClassId) {M : fr_M} {q f : Nat} {S : pz_T} {ex : Nat → Nat → Prop} {s c : Nat} (hn : n ≤ 5) (h : fr_R n q f S ex M) (hs : s < 3) (hc : c < 2) (hx : ¬ ex s c) (T : fr_TB n (S.2 s) c) (hf5 : f ≤ 5) (h8 : S.2 s 8 c 0 < 2 ^ 31) : fb_C l D n ad cI cZ cS cA my_Cor_canStillBeChosen mb_Cor_canStillBeChosen 2 (some .boolean) 3 69 M [.ref (ad (9, 2 * s + c))] (some (.int (nI (if f + pz_te n (S.2 s) c ≤ pz_mo n (S.2 s) c (S.2 s 8 c 0) + n then 1 else 0)))) (fun M' => M' = M) := by
  have lt := pz_te_le (fun a ha => (T a ha).1)
  refine xw_start [.ref (ad (9, 2 * s + c))] (by decide) (Nat.le_of_ble_eq_true rfl) ?_
  intro p e st m below meth cd0 ls Z hml hr hlk hN hl hw
  have hl : lv_has ls 2 [(0, .ref (ad (9, 2 * s + c)))] := hl
  refine lv_aload_n Z.1 Z.2.1 md_Cor_canStillBeChosen_0 rfl (lv_at hl 0 rfl) ?_
  refine xb_get (v := .ref (ad (1, 0))) Z hw (fb_in9 n hs hc) (fb_e9 n ad cI cZ cS cA (2 * s + c)) rfl tb_iCor 1 (by decide) mk_Cor_15 rfl rfl md_Cor_canStillBeChosen_1 ?_
  refine xb_get (v := .int (M (1, 0) 0)) Z hw (fb_in1 n) (fb_e1 n ad cI cZ cS cA) rfl tb_iSiz 0 (by decide) mk_Cor_23 rfl rfl md_Cor_canStillBeChosen_4 ?_
  refine xi_re (show M (1, 0) 0 = nI (n) from h.1.1) ?_
  refine lv_aload_n Z.1 Z.2.1 md_Cor_canStillBeChosen_7 rfl (lv_at hl 0 rfl) ?_
  refine xb_get (v := .int (M (9, 2 * s + c) 9)) Z hw (fb_in9 n hs hc) (fb_e9 n ad cI cZ cS cA (2 * s + c)) rfl tb_iCor 9 (by decide) mk_Cor_90 rfl rfl md_Cor_canStillBeChosen_8 ?_
  refine xi_re (show M (9, 2 * s + c) 9 = nI (pz_te n (S.2 s) c) from (fr_t h hs hc hx).1) ?_
  refine xi_sub Z md_Cor_canStillBeChosen_11 (by omega) ?_
  refine lv_istore_n Z.1 Z.2.1 md_Cor_canStillBeChosen_12 rfl hl (by decide) rfl (fun ls hl => ?_)
  have hl : lv_has ls 2 [(1, .int (nI (n - (pz_te n (S.2 s) c)))), (0, .ref (ad (9, 2 * s + c)))] := hl
  refine lv_aload_n Z.1 Z.2.1 md_Cor_canStillBeChosen_13 rfl (lv_at hl 1 rfl) ?_
  refine lv_aload_n Z.1 Z.2.1 md_Cor_canStillBeChosen_14 rfl (lv_at hl 1 rfl) ?_
  refine xb_get (v := .int (M (9, 2 * s + c) 3)) Z hw (fb_in9 n hs hc) (fb_e9 n ad cI cZ cS cA (2 * s + c)) rfl tb_iCor 3 (by decide) mk_Cor_39 rfl rfl md_Cor_canStillBeChosen_15 ?_
  refine xi_re (show M (9, 2 * s + c) 3 = nI (S.2 s 8 c 0) from (fr_c h hs hc).2.1) ?_
  refine xw_cV (n := 1) (rest := []) Z hml hl.1 hN hw (k_mostIn (r := S.2 s 8 c 0) l D ad cI cZ cS cA hn h hs hc hx T h8) tb_g mc_Cor_mostIn mk_Cor_115 mi_Cor_mostIn ms_Cor_mostIn mz_Cor ⟨by decide, by decide, by decide +kernel⟩ ⟨Nat.le_of_ble_eq_true rfl, Nat.le_of_ble_eq_true rfl⟩ (fb_in9 n hs hc) (fb_e9 n ad cI cZ cS cA (2 * s + c) _) rfl rfl rfl rfl (Nat.le_of_ble_eq_true rfl) ⟨Nat.le_refl _, Nat.le_refl _⟩ md_Cor_canStillBeChosen_18 (fun M1 H1 locs1 e1 hw => ?_)
  have ey1 := e1.symm
  subst ey1
  refine W.eq (g2 := F0 m 21 ls [.int (nI (pz_mo n (S.2 s) c (S.2 s 8 c 0)))]) rfl ?_
  refine lv_iload_n Z.1 Z.2.1 md_Cor_canStillBeChosen_21 rfl (lv_at hl 0 rfl) ?_
  refine xi_add Z md_Cor_canStillBeChosen_22 ?_
  refine lv_aload_n Z.1 Z.2.1 md_Cor_canStillBeChosen_23 rfl (lv_at hl 1 rfl) ?_
  refine xb_get (v := .ref (ad (1, 0))) Z hw (fb_in9 n hs hc) (fb_e9 n ad cI cZ cS cA (2 * s + c)) rfl tb_iCor 1 (by decide) mk_Cor_15 rfl rfl md_Cor_canStillBeChosen_24 ?_
  refine xb_get (v := .int (M (1, 0) 2)) Z hw (fb_in1 n) (fb_e1 n ad cI cZ cS cA) rfl tb_iSiz 2 (by decide) mk_Cor_118 rfl rfl md_Cor_canStillBeChosen_27 ?_
  refine xi_re (show M (1, 0) 2 = nI (f) from h.1.2.2) ?_
  have lm : pz_mo n (S.2 s) c (S.2 s 8 c 0) ≤ n := pz_mx_le n (fun a _ => by split <;> first | exact pz_tf_le | omega)
  refine xi_icmp_lt (tgt := 37) Z md_Cor_canStillBeChosen_30 (by decide) (by omega) (by omega) (fun h30 => ?_) (fun h30 => ?_)
  · refine lv_iconst (v := nI 0) Z.1 Z.2.1 md_Cor_canStillBeChosen_37 (by decide) ?_
    exact xw_zret Z hr hlk hw md_Cor_canStillBeChosen_38 (by first | rw [if_pos (by omega)] | rw [if_neg (by omega)]) rfl rfl
  · refine lv_iconst (v := nI 1) Z.1 Z.2.1 md_Cor_canStillBeChosen_33 (by decide) ?_
    refine lv_goto (tgt := 38) Z.1 Z.2.1 md_Cor_canStillBeChosen_34 (by decide) ?_
    exact xw_zret Z hr hlk hw md_Cor_canStillBeChosen_38 (by first | rw [if_pos (by omega)] | rw [if_neg (by omega)]) rfl rfl
set_option maxHeartbeats 4000000 in
theorem k_maybeChosen (l : Launch) (D : va_G) {n : Nat} (ad : Nat × Nat → Nat) (cI cZ cS cA : ClassId) {M : fr_M} {q f : Nat} {S : pz_T} {ex : Nat → Nat → Prop} {s c : Nat} (hn : n ≤ 5) (h : fr_R n q f S ex M) (hs : s < 3) (hc : c < 2) (hx : ¬ ex s c) (T : fr_TB n (S.2 s) c) {r : Nat} (hr2 : r < 2 ^ 31) (hfn : f ≤ n) (hte : n - f ≤ pz_te n (S.2 s) c) : fb_C l D n ad cI cZ cS cA my_Cor_maybeChosenIn mb_Cor_maybeChosenIn 4 (some .int) 2 46 M [.ref (ad (9, 2 * s + c)), .int (nI (r))] (some (.int (nI (pz_mc n f (S.2 s) c r (n) (0))))) (fun M' => M' = M) := by
  have lt := pz_te_le (fun a ha => (T a ha).1)
  refine xw_start [.ref (ad (9, 2 * s + c)), .int (nI (r))] (by decide) (Nat.le_of_ble_eq_true rfl) ?_
  intro p e st m below meth cd0 ls Z hml hr hlk hN hl hw
  have hl : lv_has ls 4 [(0, .ref (ad (9, 2 * s + c))), (1, .int (nI (r)))] := hl
  refine lv_aload_n Z.1 Z.2.1 md_Cor_maybeChosenIn_0 rfl (lv_at hl 0 rfl) ?_
  refine xb_get (v := .int (M (9, 2 * s + c) 9)) Z hw (fb_in9 n hs hc) (fb_e9 n ad cI cZ cS cA (2 * s + c)) rfl tb_iCor 9 (by decide) mk_Cor_90 rfl rfl md_Cor_maybeChosenIn_1 ?_
  refine xi_re (show M (9, 2 * s + c) 9 = nI (pz_te n (S.2 s) c) from (fr_t h hs hc hx).1) ?_
  refine lv_aload_n Z.1 Z.2.1 md_Cor_maybeChosenIn_4 rfl (lv_at hl 0 rfl) ?_
  refine xb_get (v := .ref (ad (1, 0))) Z hw (fb_in9 n hs hc) (fb_e9 n ad cI cZ cS cA (2 * s + c)) rfl tb_iCor 1 (by decide) mk_Cor_15 rfl rfl md_Cor_maybeChosenIn_5 ?_
  refine xb_get (v := .int (M (1, 0) 0)) Z hw (fb_in1 n) (fb_e1 n ad cI cZ cS cA) rfl tb_iSiz 0 (by decide) mk_Cor_23 rfl rfl md_Cor_maybeChosenIn_8 ?_
  refine xi_re (show M (1, 0) 0 = nI (n) from h.1.1) ?_
  refine lv_aload_n Z.1 Z.2.1 md_Cor_maybeChosenIn_11 rfl (lv_at hl 0 rfl) ?_
  refine xb_get (v := .ref (ad (1, 0))) Z hw (fb_in9 n hs hc) (fb_e9 n ad cI cZ cS cA (2 * s + c)) rfl tb_iCor 1 (by decide) mk_Cor_15 rfl rfl md_Cor_maybeChosenIn_12 ?_
  refine xb_get (v := .int (M (1, 0) 2)) Z hw (fb_in1 n) (fb_e1 n ad cI cZ cS cA) rfl tb_iSiz 2 (by decide) mk_Cor_118 rfl rfl md_Cor_maybeChosenIn_15 ?_
  refine xi_re (show M (1, 0) 2 = nI (f) from h.1.2.2) ?_
  refine xi_sub Z md_Cor_maybeChosenIn_18 (by omega) ?_
  refine xi_sub Z md_Cor_maybeChosenIn_19 (by omega) ?_
  refine lv_istore_n Z.1 Z.2.1 md_Cor_maybeChosenIn_20 rfl hl (by decide) rfl (fun ls hl => ?_)
  have hl : lv_has ls 4 [(2, .int (nI ((pz_te n (S.2 s) c) - (n - f)))), (0, .ref (ad (9, 2 * s + c))), (1, .int (nI (r)))] := hl
  refine lv_iconst (v := nI 0) Z.1 Z.2.1 md_Cor_maybeChosenIn_21 (by decide) ?_
  refine lv_istore_n Z.1 Z.2.1 md_Cor_maybeChosenIn_22 rfl hl (by decide) rfl (fun ls hl => ?_)
  have hl : lv_has ls 4 [(3, .int (nI (0))), (2, .int (nI ((pz_te n (S.2 s) c) - (n - f)))), (0, .ref (ad (9, 2 * s + c))), (1, .int (nI (r)))] := hl
  have loop23 : ∀ (d i : Nat) (Hi : Heap) (Li : List Loc) (ls : Array Slot), i + d = n → (pz_mc n f (S.2 s) c r (n - i) (i) = pz_mc n f (S.2 s) c r (n) (0)) → xw_H D tb_cl (xw_A (fb_ids n) ad) st.heap (fb_ids n) ad (xw_M (fb_k n ad cI cZ cS cA) M) Hi Li → lv_has ls 4 [(3, .int (nI (i))), (2, .int (nI ((pz_te n (S.2 s) c) - (n - f)))), (0, .ref (ad (9, 2 * s + c))), (1, .int (nI (r)))] → W p l e { frames := 2, cells := 0, slots := 0, locals := 46 } st m [.ref (ad (9, 2 * s + c)), .int (nI (r))].toArray below meth cd0 Hi Li 0 0 (MQ below (xw_Qc D tb_cl (fb_ids n) ad (fb_k n ad cI cZ cS cA) (some (.int (nI (pz_mc n f (S.2 s) c r (n) (0))))) (fun M' => M' = M)) [.ref (ad (9, 2 * s + c)), .int (nI (r))].toArray st 0 0 (xw_A (fb_ids n) ad)) (F0 m 23 ls []) := by
    intro d
    induction d with
    | zero =>
      intro i Hi Li ls hi hinv hw hl
      refine lv_iload_n Z.1 Z.2.1 md_Cor_maybeChosenIn_23 rfl (lv_at hl 0 rfl) ?_
      refine lv_aload_n Z.1 Z.2.1 md_Cor_maybeChosenIn_24 rfl (lv_at hl 2 rfl) ?_
      refine xb_get (v := .ref (ad (1, 0))) Z hw (fb_in9 n hs hc) (fb_e9 n ad cI cZ cS cA (2 * s + c)) rfl tb_iCor 1 (by decide) mk_Cor_15 rfl rfl md_Cor_maybeChosenIn_25 ?_
      refine xb_get (v := .int (M (1, 0) 0)) Z hw (fb_in1 n) (fb_e1 n ad cI cZ cS cA) rfl tb_iSiz 0 (by decide) mk_Cor_23 rfl rfl md_Cor_maybeChosenIn_28 ?_
      refine xi_re (show M (1, 0) 0 = nI (n) from h.1.1) ?_
      refine xi_icmp_ge (tgt := 71) Z md_Cor_maybeChosenIn_31 (by decide) (by omega) (by omega) (fun h31 => ?_) (fun h31 => by exfalso; omega)
      refine lv_iconst (v := nI 0) Z.1 Z.2.1 md_Cor_maybeChosenIn_71 (by decide) ?_
      exact xw_iret Z hr hlk hw md_Cor_maybeChosenIn_72 (by rw [← hinv, show n - i = 0 by omega]; rfl) rfl
    | succ d ih =>
      intro i Hi Li ls hi hinv hw hl
      refine lv_iload_n Z.1 Z.2.1 md_Cor_maybeChosenIn_23 rfl (lv_at hl 0 rfl) ?_
      refine lv_aload_n Z.1 Z.2.1 md_Cor_maybeChosenIn_24 rfl (lv_at hl 2 rfl) ?_
      refine xb_get (v := .ref (ad (1, 0))) Z hw (fb_in9 n hs hc) (fb_e9 n ad cI cZ cS cA (2 * s + c)) rfl tb_iCor 1 (by decide) mk_Cor_15 rfl rfl md_Cor_maybeChosenIn_25 ?_
      refine xb_get (v := .int (M (1, 0) 0)) Z hw (fb_in1 n) (fb_e1 n ad cI cZ cS cA) rfl tb_iSiz 0 (by decide) mk_Cor_23 rfl rfl md_Cor_maybeChosenIn_28 ?_
      refine xi_re (show M (1, 0) 0 = nI (n) from h.1.1) ?_
      refine xi_icmp_ge (tgt := 71) Z md_Cor_maybeChosenIn_31 (by decide) (by omega) (by omega) (fun h31 => by exfalso; omega) (fun h31 => ?_)
      refine lv_aload_n Z.1 Z.2.1 md_Cor_maybeChosenIn_34 rfl (lv_at hl 2 rfl) ?_
      refine lv_iload_n Z.1 Z.2.1 md_Cor_maybeChosenIn_35 rfl (lv_at hl 0 rfl) ?_
      refine lv_iload_n Z.1 Z.2.1 md_Cor_maybeChosenIn_36 rfl (lv_at hl 3 rfl) ?_
      refine xw_cV (n := 2) (rest := []) Z hml hl.1 hN hw (k_votedIn (a := i) (r := r) l D ad cI cZ cS cA hn h hs hc hx T (by omega) hr2) tb_g mc_Cor_votedIn mk_Cor_127 mi_Cor_votedIn ms_Cor_votedIn mz_Cor ⟨by decide, by decide, by decide +kernel⟩ ⟨Nat.le_of_ble_eq_true rfl, Nat.le_of_ble_eq_true rfl⟩ (fb_in9 n hs hc) (fb_e9 n ad cI cZ cS cA (2 * s + c) _) rfl rfl rfl rfl (Nat.le_of_ble_eq_true rfl) ⟨Nat.le_refl _, Nat.le_refl _⟩ md_Cor_maybeChosenIn_37 (fun M1 H1 locs1 e1 hw => ?_)
      have ey1 := e1.symm
      subst ey1
      refine W.eq (g2 := F0 m 40 ls [.int (nI (if S.2 s 11 c i ≠ 0 ∧ S.2 s 13 c i = r then 1 else 0))]) rfl ?_
      have lv : (if S.2 s 11 c i ≠ 0 ∧ S.2 s 13 c i = r then 1 else 0) < 2 := by split <;> omega
      refine xi_if_eq (tgt := 65) Z md_Cor_maybeChosenIn_40 (by decide) (by omega) (fun h40 => ?_) (fun h40 => ?_)
      · refine lv_iinc Z.1 Z.2.1 md_Cor_maybeChosenIn_65 hl (k := 0) rfl (xi_inc1 (i)) (by decide) rfl (fun ls hl => ?_)
        have hl : lv_has ls 4 [(3, .int (nI (i + 1))), (2, .int (nI ((pz_te n (S.2 s) c) - (n - f)))), (0, .ref (ad (9, 2 * s + c))), (1, .int (nI (r)))] := hl
        refine lv_goto (tgt := 23) Z.1 Z.2.1 md_Cor_maybeChosenIn_68 (by decide) ?_
        try have vn : ¬ (S.2 s 11 c i ≠ 0 ∧ S.2 s 13 c i = r) := (fun y => by rw [if_pos y] at h40; exact absurd h40 (by decide))
        refine ih (i + 1) _ _ ls (by omega) ((by rw [← hinv, show n - i = (n - (i + 1)) + 1 by omega]; simp only [pz_mc]; rw [if_neg (by omega)])) hw ?_
        exact lv_sub hl [0, 1, 2, 3] rfl
      · have vi : S.2 s 11 c i ≠ 0 ∧ S.2 s 13 c i = r := by
          by_cases z : S.2 s 11 c i ≠ 0 ∧ S.2 s 13 c i = r
          · exact z
          · rw [if_neg z] at h40; exact absurd rfl h40
        have t2 := (T i (by omega)).2 vi.1
        refine lv_aload_n Z.1 Z.2.1 md_Cor_maybeChosenIn_43 rfl (lv_at hl 2 rfl) ?_
        refine lv_iload_n Z.1 Z.2.1 md_Cor_maybeChosenIn_44 rfl (lv_at hl 3 rfl) ?_
        refine lv_aload_n Z.1 Z.2.1 md_Cor_maybeChosenIn_45 rfl (lv_at hl 2 rfl) ?_
        refine xb_get (v := .ref (ad (11, 2 * s + c))) Z hw (fb_in9 n hs hc) (fb_e9 n ad cI cZ cS cA (2 * s + c)) rfl tb_iCor 7 (by decide) mk_Cor_32 rfl rfl md_Cor_maybeChosenIn_46 ?_
        refine lv_iload_n Z.1 Z.2.1 md_Cor_maybeChosenIn_49 rfl (lv_at hl 0 rfl) ?_
        refine xw_iald Z hw (fb_in11 n hs hc) (fb_e11 n ad cI cZ cS cA (2 * s + c)) 0 rfl (i) rfl (by omega) (by omega) md_Cor_maybeChosenIn_50 ?_
        refine xi_re (show M (11, 2 * s + c) (i) = nI (S.2 s 12 c i) from ((fr_t h hs hc hx).2 i (by omega)).2 vi.1 |>.1) ?_
        refine xw_cV (n := 2) (rest := []) Z hml hl.1 hN hw (k_tallyIn (r := r) (v := S.2 s 12 c i) l D ad cI cZ cS cA hn h hs hc hx T hr2 t2.1) tb_g mc_Cor_tallyIn mk_Cor_131 mi_Cor_tallyIn ms_Cor_tallyIn mz_Cor ⟨by decide, by decide, by decide +kernel⟩ ⟨Nat.le_of_ble_eq_true rfl, Nat.le_of_ble_eq_true rfl⟩ (fb_in9 n hs hc) (fb_e9 n ad cI cZ cS cA (2 * s + c) _) rfl rfl rfl rfl (Nat.le_of_ble_eq_true rfl) ⟨Nat.le_refl _, Nat.le_refl _⟩ md_Cor_maybeChosenIn_51 (fun M2 H2 locs2 e2 hw => ?_)
        have ey2 := e2.symm
        subst ey2
        refine W.eq (g2 := F0 m 54 ls [.int (nI (pz_tf n (S.2 s) c r (S.2 s 12 c i)))]) rfl ?_
        refine lv_iload_n Z.1 Z.2.1 md_Cor_maybeChosenIn_54 rfl (lv_at hl 1 rfl) ?_
        have ltf : pz_tf n (S.2 s) c r (S.2 s 12 c i) ≤ n := pz_tf_le
        refine xi_icmp_lt (tgt := 65) Z md_Cor_maybeChosenIn_55 (by decide) (by omega) (by omega) (fun h55 => ?_) (fun h55 => ?_)
        · refine lv_iinc Z.1 Z.2.1 md_Cor_maybeChosenIn_65 hl (k := 0) rfl (xi_inc1 (i)) (by decide) rfl (fun ls hl => ?_)
          have hl : lv_has ls 4 [(3, .int (nI (i + 1))), (2, .int (nI ((pz_te n (S.2 s) c) - (n - f)))), (0, .ref (ad (9, 2 * s + c))), (1, .int (nI (r)))] := hl
          refine lv_goto (tgt := 23) Z.1 Z.2.1 md_Cor_maybeChosenIn_68 (by decide) ?_
          try have vn : ¬ (S.2 s 11 c i ≠ 0 ∧ S.2 s 13 c i = r) := (fun y => by rw [if_pos y] at h40; exact absurd h40 (by decide))
          refine ih (i + 1) _ _ ls (by omega) ((by rw [← hinv, show n - i = (n - (i + 1)) + 1 by omega]; simp only [pz_mc]; rw [if_neg (by omega)])) hw ?_
          exact lv_sub hl [0, 1, 2, 3] rfl
        · refine lv_aload_n Z.1 Z.2.1 md_Cor_maybeChosenIn_58 rfl (lv_at hl 2 rfl) ?_
          refine xb_get (v := .ref (ad (11, 2 * s + c))) Z hw (fb_in9 n hs hc) (fb_e9 n ad cI cZ cS cA (2 * s + c)) rfl tb_iCor 7 (by decide) mk_Cor_32 rfl rfl md_Cor_maybeChosenIn_59 ?_
          refine lv_iload_n Z.1 Z.2.1 md_Cor_maybeChosenIn_62 rfl (lv_at hl 0 rfl) ?_
          refine xw_iald Z hw (fb_in11 n hs hc) (fb_e11 n ad cI cZ cS cA (2 * s + c)) 0 rfl (i) rfl (by omega) (by omega) md_Cor_maybeChosenIn_63 ?_
          refine xi_re (show M (11, 2 * s + c) (i) = nI (S.2 s 12 c i) from ((fr_t h hs hc hx).2 i (by omega)).2 vi.1 |>.1) ?_
          exact xw_iret Z hr hlk hw md_Cor_maybeChosenIn_64 (by rw [← hinv, show n - i = (n - i - 1) + 1 by omega]; simp only [pz_mc]; rw [if_pos (by omega)]) rfl
  exact loop23 n (0) _ _ ls (by omega) rfl hw (lv_sub hl [0, 1, 2, 3] rfl)
set_option maxHeartbeats 4000000 in
theorem k_pick (l : Launch) (D : va_G) {n : Nat} (ad : Nat × Nat → Nat) (cI cZ cS cA : ClassId) {M : fr_M} {q f : Nat} {S : pz_T} {ex : Nat → Nat → Prop} {s c : Nat} (hn : n ≤ 5) (h : fr_R n q f S ex M) (hs : s < 3) (hc : c < 2) (hx : ¬ ex s c) (T : fr_TB n (S.2 s) c) (hfn : f ≤ n) (hte : n - f ≤ pz_te n (S.2 s) c) : fb_C l D n ad cI cZ cS cA my_Cor_pick mb_Cor_pick 3 (some .int) 3 69 M [.ref (ad (9, 2 * s + c))] (some (.int (nI (pz_pkC n f (S.2 s) c)))) (fun M' => M' = M) := by
  refine xw_start [.ref (ad (9, 2 * s + c))] (by decide) (Nat.le_of_ble_eq_true rfl) ?_
  intro p e st m below meth cd0 ls Z hml hr hlk hN hl hw
  have hl : lv_has ls 3 [(0, .ref (ad (9, 2 * s + c)))] := hl
  refine lv_aload_n Z.1 Z.2.1 md_Cor_pick_0 rfl (lv_at hl 0 rfl) ?_
  refine xw_cV (n := 0) (rest := []) Z hml hl.1 hN hw (k_latestRound l D ad cI cZ cS cA hn h hs hc hx T) tb_g mc_Cor_latestRound mk_Cor_121 mi_Cor_latestRound ms_Cor_latestRound mz_Cor ⟨by decide, by decide, by decide +kernel⟩ ⟨Nat.le_of_ble_eq_true rfl, Nat.le_of_ble_eq_true rfl⟩ (fb_in9 n hs hc) (fb_e9 n ad cI cZ cS cA (2 * s + c) _) rfl rfl rfl rfl (Nat.le_of_ble_eq_true rfl) ⟨Nat.le_refl _, Nat.le_refl _⟩ md_Cor_pick_1 (fun M1 H1 locs1 e1 hw => ?_)
  have ey1 := e1.symm
  subst ey1
  refine W.eq (g2 := F0 m 4 ls [.int (nI (pz_kk n (S.2 s) c))]) rfl ?_
  refine lv_istore_n Z.1 Z.2.1 md_Cor_pick_4 rfl hl (by decide) rfl (fun ls hl => ?_)
  have hl : lv_has ls 3 [(1, .int (nI (pz_kk n (S.2 s) c))), (0, .ref (ad (9, 2 * s + c)))] := hl
  have lk : pz_kk n (S.2 s) c < 2 ^ 31 := fr_kk_lt T (Nat.le_refl n)
  refine lv_iload_n Z.1 Z.2.1 md_Cor_pick_5 rfl (lv_at hl 0 rfl) ?_
  refine xi_if_ne (tgt := 11) Z md_Cor_pick_6 (by decide) (by omega) (fun h6 => ?_) (fun h6 => ?_)
  · refine lv_iload_n Z.1 Z.2.1 md_Cor_pick_11 rfl (lv_at hl 0 rfl) ?_
    refine xw_cN (n := 1) (rest := []) Z hml hl.1 hN hw (k_isFast l D ad cI cZ cS cA (M := M) lk) tb_g mc_FB_isFast (host := "FastBallots") (List.mem_of_getElem? (i := 3) rfl) mt_FB_isFast mz_FB ⟨by decide, by decide, by decide +kernel⟩ ⟨Nat.le_of_ble_eq_true rfl, Nat.le_of_ble_eq_true rfl⟩ rfl rfl (Nat.le_of_ble_eq_true rfl) ⟨Nat.le_refl _, Nat.le_refl _⟩ md_Cor_pick_12 (fun M2 H2 locs2 e2 hw => ?_)
    have ey2 := e2.symm
    subst ey2
    refine W.eq (g2 := F0 m 15 ls [.int (nI (pz_kk n (S.2 s) c % 2))]) rfl ?_
    refine xi_if_eq (tgt := 30) Z md_Cor_pick_15 (by decide) (by omega) (fun h15 => ?_) (fun h15 => ?_)
    · refine lv_aload_n Z.1 Z.2.1 md_Cor_pick_30 rfl (lv_at hl 1 rfl) ?_
      refine lv_iload_n Z.1 Z.2.1 md_Cor_pick_31 rfl (lv_at hl 0 rfl) ?_
      refine xw_cV (n := 1) (rest := []) Z hml hl.1 hN hw (k_leastIn (r := pz_kk n (S.2 s) c) l D ad cI cZ cS cA hn h hs hc hx T lk) tb_g mc_Cor_leastIn mk_Cor_111 mi_Cor_leastIn ms_Cor_leastIn mz_Cor ⟨by decide, by decide, by decide +kernel⟩ ⟨Nat.le_of_ble_eq_true rfl, Nat.le_of_ble_eq_true rfl⟩ (fb_in9 n hs hc) (fb_e9 n ad cI cZ cS cA (2 * s + c) _) rfl rfl rfl rfl (Nat.le_of_ble_eq_true rfl) ⟨Nat.le_refl _, Nat.le_refl _⟩ md_Cor_pick_32 (fun M3 H3 locs3 e3 hw => ?_)
      have ey3 := e3.symm
      subst ey3
      refine W.eq (g2 := F0 m 35 ls [.int (nI (pz_ls (S.2 s) c (pz_kk n (S.2 s) c) n))]) rfl ?_
      exact xw_iret Z hr hlk hw md_Cor_pick_35 (by unfold pz_pkC; rw [if_neg h6, if_neg (by omega)]) rfl
    · refine lv_aload_n Z.1 Z.2.1 md_Cor_pick_18 rfl (lv_at hl 1 rfl) ?_
      refine lv_iload_n Z.1 Z.2.1 md_Cor_pick_19 rfl (lv_at hl 0 rfl) ?_
      refine xw_cV (n := 1) (rest := []) Z hml hl.1 hN hw (k_maybeChosen (r := pz_kk n (S.2 s) c) l D ad cI cZ cS cA hn h hs hc hx T lk hfn hte) tb_g mc_Cor_maybeChosenIn mk_Cor_124 mi_Cor_maybeChosenIn ms_Cor_maybeChosenIn mz_Cor ⟨by decide, by decide, by decide +kernel⟩ ⟨Nat.le_of_ble_eq_true rfl, Nat.le_of_ble_eq_true rfl⟩ (fb_in9 n hs hc) (fb_e9 n ad cI cZ cS cA (2 * s + c) _) rfl rfl rfl rfl (Nat.le_of_ble_eq_true rfl) ⟨Nat.le_refl _, Nat.le_refl _⟩ md_Cor_pick_20 (fun M4 H4 locs4 e4 hw => ?_)
      have ey4 := e4.symm
      subst ey4
      refine W.eq (g2 := F0 m 23 ls [.int (nI (pz_mc n f (S.2 s) c (pz_kk n (S.2 s) c) n 0))]) rfl ?_
      refine lv_istore_n Z.1 Z.2.1 md_Cor_pick_23 rfl hl (by decide) rfl (fun ls hl => ?_)
      have hl : lv_has ls 3 [(2, .int (nI (pz_mc n f (S.2 s) c (pz_kk n (S.2 s) c) n 0))), (1, .int (nI (pz_kk n (S.2 s) c))), (0, .ref (ad (9, 2 * s + c)))] := hl
      refine lv_iload_n Z.1 Z.2.1 md_Cor_pick_24 rfl (lv_at hl 0 rfl) ?_
      have lmc : pz_mc n f (S.2 s) c (pz_kk n (S.2 s) c) n 0 < 2 ^ 31 := by
        rcases pz_mc_ex (n := n) (f := f) (p := S.2 s) (c := c) (r := pz_kk n (S.2 s) c) n 0 with z | ⟨b, b1, b2, b3, b4, b5, b6⟩
        · omega
        · rw [← b6]; exact ((T b (by omega)).2 b3).1
      refine xi_if_eq (tgt := 30) Z md_Cor_pick_25 (by decide) (by omega) (fun h25 => ?_) (fun h25 => ?_)
      · refine lv_aload_n Z.1 Z.2.1 md_Cor_pick_30 rfl (lv_at hl 2 rfl) ?_
        refine lv_iload_n Z.1 Z.2.1 md_Cor_pick_31 rfl (lv_at hl 1 rfl) ?_
        refine xw_cV (n := 1) (rest := []) Z hml hl.1 hN hw (k_leastIn (r := pz_kk n (S.2 s) c) l D ad cI cZ cS cA hn h hs hc hx T lk) tb_g mc_Cor_leastIn mk_Cor_111 mi_Cor_leastIn ms_Cor_leastIn mz_Cor ⟨by decide, by decide, by decide +kernel⟩ ⟨Nat.le_of_ble_eq_true rfl, Nat.le_of_ble_eq_true rfl⟩ (fb_in9 n hs hc) (fb_e9 n ad cI cZ cS cA (2 * s + c) _) rfl rfl rfl rfl (Nat.le_of_ble_eq_true rfl) ⟨Nat.le_refl _, Nat.le_refl _⟩ md_Cor_pick_32 (fun M5 H5 locs5 e5 hw => ?_)
        have ey5 := e5.symm
        subst ey5
        refine W.eq (g2 := F0 m 35 ls [.int (nI (pz_ls (S.2 s) c (pz_kk n (S.2 s) c) n))]) rfl ?_
        exact xw_iret Z hr hlk hw md_Cor_pick_35 (by unfold pz_pkC; rw [if_neg h6, if_neg (by omega)]) rfl
      · refine lv_iload_n Z.1 Z.2.1 md_Cor_pick_28 rfl (lv_at hl 0 rfl) ?_
        exact xw_iret Z hr hlk hw md_Cor_pick_29 (by unfold pz_pkC; rw [if_neg h6, if_pos (by omega)]) rfl
  · refine lv_iconst (v := nI 0) Z.1 Z.2.1 md_Cor_pick_9 (by decide) ?_
    exact xw_iret Z hr hlk hw md_Cor_pick_10 (by unfold pz_pkC; rw [if_pos h6]) rfl
