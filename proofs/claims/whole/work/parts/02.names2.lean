theorem dX7_knows_11 : decode cX7_knows 11 = .ok (.invokevirtual 118, 3) := by decide +kernel
theorem dX7_knows_14 : decode cX7_knows 14 = .ok (.aload_n 0, 1) := by decide +kernel
theorem dX7_knows_15 : decode cX7_knows 15 = .ok (.getfield 31, 3) := by decide +kernel
theorem dX7_knows_18 : decode cX7_knows 18 = .ok (.iload_n 1, 1) := by decide +kernel
theorem dX7_knows_19 : decode cX7_knows 19 = .ok (.invokevirtual 121, 3) := by decide +kernel
theorem dX7_knows_22 : decode cX7_knows 22 = .ok (.ireturn, 1) := by decide +kernel
theorem dX7_way_0 : decode cX7_way 0 = .ok (.aload_n 0, 1) := by decide +kernel
theorem dX7_way_1 : decode cX7_way 1 = .ok (.iload_n 1, 1) := by decide +kernel
theorem dX7_way_2 : decode cX7_way 2 = .ok (.invokevirtual 77, 3) := by decide +kernel
theorem dX7_way_5 : decode cX7_way 5 = .ok (.ifCond .ne 5, 3) := by decide +kernel
theorem dX7_way_8 : decode cX7_way 8 = .ok (.iconst (-1), 1) := by decide +kernel
theorem dX7_way_9 : decode cX7_way 9 = .ok (.ireturn, 1) := by decide +kernel
theorem dX7_way_10 : decode cX7_way 10 = .ok (.aload_n 0, 1) := by decide +kernel
theorem dX7_way_11 : decode cX7_way 11 = .ok (.getfield 31, 3) := by decide +kernel
theorem dX7_way_14 : decode cX7_way 14 = .ok (.aload_n 0, 1) := by decide +kernel
theorem dX7_way_15 : decode cX7_way 15 = .ok (.getfield 62, 3) := by decide +kernel
theorem dX7_way_18 : decode cX7_way 18 = .ok (.aload_n 0, 1) := by decide +kernel
theorem dX7_way_19 : decode cX7_way 19 = .ok (.getfield 73, 3) := by decide +kernel
theorem dX7_way_22 : decode cX7_way 22 = .ok (.invokevirtual 125, 3) := by decide +kernel
theorem dX7_way_25 : decode cX7_way 25 = .ok (.aload_n 0, 1) := by decide +kernel
theorem dX7_way_26 : decode cX7_way 26 = .ok (.getfield 31, 3) := by decide +kernel
theorem dX7_way_29 : decode cX7_way 29 = .ok (.iload_n 1, 1) := by decide +kernel
theorem dX7_way_30 : decode cX7_way 30 = .ok (.invokevirtual 129, 3) := by decide +kernel
theorem dX7_way_33 : decode cX7_way 33 = .ok (.istore_n 3, 1) := by decide +kernel
theorem dX7_way_34 : decode cX7_way 34 = .ok (.iload_n 2, 1) := by decide +kernel
theorem dX7_way_35 : decode cX7_way 35 = .ok (.iconst (-1), 1) := by decide +kernel
theorem dX7_way_36 : decode cX7_way 36 = .ok (.if_icmp .ne 5, 3) := by decide +kernel
theorem dX7_way_39 : decode cX7_way 39 = .ok (.iload_n 3, 1) := by decide +kernel
theorem dX7_way_40 : decode cX7_way 40 = .ok (.ireturn, 1) := by decide +kernel
theorem dX7_way_41 : decode cX7_way 41 = .ok (.iload_n 2, 1) := by decide +kernel
theorem dX7_way_42 : decode cX7_way 42 = .ok (.ifCond .lt 20, 3) := by decide +kernel
theorem dX7_way_45 : decode cX7_way 45 = .ok (.iload_n 2, 1) := by decide +kernel
theorem dX7_way_46 : decode cX7_way 46 = .ok (.iload_n 3, 1) := by decide +kernel
theorem dX7_way_47 : decode cX7_way 47 = .ok (.if_icmp .ge 15, 3) := by decide +kernel
theorem dX7_way_50 : decode cX7_way 50 = .ok (.aload_n 0, 1) := by decide +kernel
theorem dX7_way_51 : decode cX7_way 51 = .ok (.getfield 31, 3) := by decide +kernel
theorem dX7_way_54 : decode cX7_way 54 = .ok (.getfield 132, 3) := by decide +kernel
theorem dX7_way_57 : decode cX7_way 57 = .ok (.iload_n 2, 1) := by decide +kernel
theorem dX7_way_58 : decode cX7_way 58 = .ok (.iaload, 1) := by decide +kernel
theorem dX7_way_59 : decode cX7_way 59 = .ok (.goto 4, 3) := by decide +kernel
theorem dX7_way_62 : decode cX7_way 62 = .ok (.iconst (-1), 1) := by decide +kernel
theorem dX7_way_63 : decode cX7_way 63 = .ok (.ireturn, 1) := by decide +kernel
theorem dX7_silent_0 : decode cX7_silent 0 = .ok (.aload_n 0, 1) := by decide +kernel
theorem dX7_silent_1 : decode cX7_silent 1 = .ok (.iload_n 1, 1) := by decide +kernel
theorem dX7_silent_2 : decode cX7_silent 2 = .ok (.invokevirtual 77, 3) := by decide +kernel
theorem dX7_silent_5 : decode cX7_silent 5 = .ok (.ifCond .ne 5, 3) := by decide +kernel
theorem dX7_silent_8 : decode cX7_silent 8 = .ok (.iconst (-1), 1) := by decide +kernel
theorem dX7_silent_9 : decode cX7_silent 9 = .ok (.ireturn, 1) := by decide +kernel
theorem dX7_silent_10 : decode cX7_silent 10 = .ok (.iload_n 2, 1) := by decide +kernel
theorem dX7_silent_11 : decode cX7_silent 11 = .ok (.invokestatic 84, 3) := by decide +kernel
theorem dX7_silent_14 : decode cX7_silent 14 = .ok (.ifCond .ne 6, 3) := by decide +kernel
theorem dX7_silent_17 : decode cX7_silent 17 = .ok (.bipush (-2), 2) := by decide +kernel
theorem dX7_silent_19 : decode cX7_silent 19 = .ok (.ireturn, 1) := by decide +kernel
theorem dX7_silent_20 : decode cX7_silent 20 = .ok (.aload_n 0, 1) := by decide +kernel
theorem dX7_silent_21 : decode cX7_silent 21 = .ok (.getfield 62, 3) := by decide +kernel
theorem dX7_silent_24 : decode cX7_silent 24 = .ok (.getfield 87, 3) := by decide +kernel
theorem dX7_silent_27 : decode cX7_silent 27 = .ok (.iload_n 1, 1) := by decide +kernel
theorem dX7_silent_28 : decode cX7_silent 28 = .ok (.iaload, 1) := by decide +kernel
theorem dX7_silent_29 : decode cX7_silent 29 = .ok (.ifCond .lt 19, 3) := by decide +kernel
theorem dX7_silent_32 : decode cX7_silent 32 = .ok (.aload_n 0, 1) := by decide +kernel
theorem dX7_silent_33 : decode cX7_silent 33 = .ok (.getfield 62, 3) := by decide +kernel
theorem dX7_silent_36 : decode cX7_silent 36 = .ok (.getfield 87, 3) := by decide +kernel
theorem dX7_silent_39 : decode cX7_silent 39 = .ok (.iload_n 1, 1) := by decide +kernel
theorem dX7_silent_40 : decode cX7_silent 40 = .ok (.iaload, 1) := by decide +kernel
theorem dX7_silent_41 : decode cX7_silent 41 = .ok (.iload_n 2, 1) := by decide +kernel
theorem dX7_silent_42 : decode cX7_silent 42 = .ok (.if_icmp .gt 6, 3) := by decide +kernel
theorem dX7_silent_45 : decode cX7_silent 45 = .ok (.bipush (-5), 2) := by decide +kernel
theorem dX7_silent_47 : decode cX7_silent 47 = .ok (.ireturn, 1) := by decide +kernel
theorem dX7_silent_48 : decode cX7_silent 48 = .ok (.aload_n 0, 1) := by decide +kernel
theorem dX7_silent_49 : decode cX7_silent 49 = .ok (.getfield 31, 3) := by decide +kernel
theorem dX7_silent_52 : decode cX7_silent 52 = .ok (.aload_n 0, 1) := by decide +kernel
theorem dX7_silent_53 : decode cX7_silent 53 = .ok (.getfield 62, 3) := by decide +kernel
theorem dX7_silent_56 : decode cX7_silent 56 = .ok (.aload_n 0, 1) := by decide +kernel
theorem dX7_silent_57 : decode cX7_silent 57 = .ok (.getfield 73, 3) := by decide +kernel
theorem dX7_silent_60 : decode cX7_silent 60 = .ok (.invokevirtual 125, 3) := by decide +kernel
theorem dX7_silent_63 : decode cX7_silent 63 = .ok (.iconst 0, 1) := by decide +kernel
theorem dX7_silent_64 : decode cX7_silent 64 = .ok (.istore_n 3, 1) := by decide +kernel
theorem dX7_silent_65 : decode cX7_silent 65 = .ok (.iload_n 3, 1) := by decide +kernel
theorem dX7_silent_66 : decode cX7_silent 66 = .ok (.aload_n 0, 1) := by decide +kernel
theorem dX7_silent_67 : decode cX7_silent 67 = .ok (.getfield 73, 3) := by decide +kernel
theorem dX7_silent_70 : decode cX7_silent 70 = .ok (.if_icmp .ge 26, 3) := by decide +kernel
theorem dX7_silent_73 : decode cX7_silent 73 = .ok (.aload_n 0, 1) := by decide +kernel
theorem dX7_silent_74 : decode cX7_silent 74 = .ok (.iload_n 1, 1) := by decide +kernel
theorem dX7_silent_75 : decode cX7_silent 75 = .ok (.iload_n 2, 1) := by decide +kernel
theorem dX7_silent_76 : decode cX7_silent 76 = .ok (.iload_n 3, 1) := by decide +kernel
theorem dX7_silent_77 : decode cX7_silent 77 = .ok (.invokevirtual 135, 3) := by decide +kernel
theorem dX7_silent_80 : decode cX7_silent 80 = .ok (.istore 4, 2) := by decide +kernel
theorem dX7_silent_82 : decode cX7_silent 82 = .ok (.iload 4, 2) := by decide +kernel
theorem dX7_silent_84 : decode cX7_silent 84 = .ok (.ifCond .lt 6, 3) := by decide +kernel
theorem dX7_silent_87 : decode cX7_silent 87 = .ok (.iload 4, 2) := by decide +kernel
theorem dX7_silent_89 : decode cX7_silent 89 = .ok (.ireturn, 1) := by decide +kernel
theorem dX7_silent_90 : decode cX7_silent 90 = .ok (.iinc 3 1, 3) := by decide +kernel
theorem dX7_silent_93 : decode cX7_silent 93 = .ok (.goto (-28), 3) := by decide +kernel
theorem dX7_silent_96 : decode cX7_silent 96 = .ok (.bipush (-5), 2) := by decide +kernel
theorem dX7_silent_98 : decode cX7_silent 98 = .ok (.ireturn, 1) := by decide +kernel
theorem dX7_leastSilence_0 : decode cX7_leastSilence 0 = .ok (.iconst 1, 1) := by decide +kernel
theorem dX7_leastSilence_1 : decode cX7_leastSilence 1 = .ok (.aload_n 0, 1) := by decide +kernel
theorem dX7_leastSilence_2 : decode cX7_leastSilence 2 = .ok (.getfield 73, 3) := by decide +kernel
theorem dX7_leastSilence_5 : decode cX7_leastSilence 5 = .ok (.ishl, 1) := by decide +kernel
theorem dX7_leastSilence_6 : decode cX7_leastSilence 6 = .ok (.istore 4, 2) := by decide +kernel
theorem dX7_leastSilence_8 : decode cX7_leastSilence 8 = .ok (.iconst 0, 1) := by decide +kernel
theorem dX7_leastSilence_9 : decode cX7_leastSilence 9 = .ok (.istore 5, 2) := by decide +kernel
theorem dX7_leastSilence_11 : decode cX7_leastSilence 11 = .ok (.iload 5, 2) := by decide +kernel
theorem dX7_leastSilence_13 : decode cX7_leastSilence 13 = .ok (.iload 4, 2) := by decide +kernel
theorem dX7_leastSilence_15 : decode cX7_leastSilence 15 = .ok (.if_icmp .ge 51, 3) := by decide +kernel
theorem dX7_leastSilence_18 : decode cX7_leastSilence 18 = .ok (.iload 5, 2) := by decide +kernel
theorem dX7_leastSilence_20 : decode cX7_leastSilence 20 = .ok (.invokestatic 138, 3) := by decide +kernel
theorem dX7_leastSilence_23 : decode cX7_leastSilence 23 = .ok (.iload_n 3, 1) := by decide +kernel
theorem dX7_leastSilence_24 : decode cX7_leastSilence 24 = .ok (.if_icmp .ne 36, 3) := by decide +kernel
theorem dX7_leastSilence_27 : decode cX7_leastSilence 27 = .ok (.iload 5, 2) := by decide +kernel
theorem dX7_leastSilence_29 : decode cX7_leastSilence 29 = .ok (.iload_n 1, 1) := by decide +kernel
theorem dX7_leastSilence_30 : decode cX7_leastSilence 30 = .ok (.ishr, 1) := by decide +kernel
theorem dX7_leastSilence_31 : decode cX7_leastSilence 31 = .ok (.iconst 1, 1) := by decide +kernel
theorem dX7_leastSilence_32 : decode cX7_leastSilence 32 = .ok (.iand, 1) := by decide +kernel
theorem dX7_leastSilence_33 : decode cX7_leastSilence 33 = .ok (.ifCond .ne 27, 3) := by decide +kernel
theorem dX7_leastSilence_36 : decode cX7_leastSilence 36 = .ok (.aload_n 0, 1) := by decide +kernel
theorem dX7_leastSilence_37 : decode cX7_leastSilence 37 = .ok (.getfield 31, 3) := by decide +kernel
theorem dX7_leastSilence_40 : decode cX7_leastSilence 40 = .ok (.iload 5, 2) := by decide +kernel
theorem dX7_leastSilence_42 : decode cX7_leastSilence 42 = .ok (.invokevirtual 143, 3) := by decide +kernel
theorem dX7_leastSilence_45 : decode cX7_leastSilence 45 = .ok (.aload_n 0, 1) := by decide +kernel
theorem dX7_leastSilence_46 : decode cX7_leastSilence 46 = .ok (.getfield 31, 3) := by decide +kernel
theorem dX7_leastSilence_49 : decode cX7_leastSilence 49 = .ok (.iload_n 1, 1) := by decide +kernel
theorem dX7_leastSilence_50 : decode cX7_leastSilence 50 = .ok (.iload_n 2, 1) := by decide +kernel
theorem dX7_leastSilence_51 : decode cX7_leastSilence 51 = .ok (.invokevirtual 146, 3) := by decide +kernel
theorem dX7_leastSilence_54 : decode cX7_leastSilence 54 = .ok (.ifCond .ne 6, 3) := by decide +kernel
theorem dX7_leastSilence_57 : decode cX7_leastSilence 57 = .ok (.iload 5, 2) := by decide +kernel
theorem dX7_leastSilence_59 : decode cX7_leastSilence 59 = .ok (.ireturn, 1) := by decide +kernel
theorem dX7_leastSilence_60 : decode cX7_leastSilence 60 = .ok (.iinc 5 1, 3) := by decide +kernel
theorem dX7_leastSilence_63 : decode cX7_leastSilence 63 = .ok (.goto (-52), 3) := by decide +kernel
theorem dX7_leastSilence_66 : decode cX7_leastSilence 66 = .ok (.iconst (-1), 1) := by decide +kernel
theorem dX7_leastSilence_67 : decode cX7_leastSilence 67 = .ok (.ireturn, 1) := by decide +kernel
theorem dX7_trade_0 : decode cX7_trade 0 = .ok (.iload_n 1, 1) := by decide +kernel
theorem dX7_trade_1 : decode cX7_trade 1 = .ok (.invokestatic 150, 3) := by decide +kernel
theorem dX7_trade_4 : decode cX7_trade 4 = .ok (.ifCond .eq 18, 3) := by decide +kernel
theorem dX7_trade_7 : decode cX7_trade 7 = .ok (.aload_n 0, 1) := by decide +kernel
theorem dX7_trade_8 : decode cX7_trade 8 = .ok (.iload_n 2, 1) := by decide +kernel
theorem dX7_trade_9 : decode cX7_trade 9 = .ok (.invokevirtual 77, 3) := by decide +kernel
theorem dX7_trade_12 : decode cX7_trade 12 = .ok (.ifCond .eq 10, 3) := by decide +kernel
theorem dX7_trade_15 : decode cX7_trade 15 = .ok (.iload_n 3, 1) := by decide +kernel
theorem dX7_trade_16 : decode cX7_trade 16 = .ok (.invokestatic 112, 3) := by decide +kernel
theorem dX7_trade_19 : decode cX7_trade 19 = .ok (.ifCond .ne 5, 3) := by decide +kernel
theorem dX7_trade_22 : decode cX7_trade 22 = .ok (.iconst (-1), 1) := by decide +kernel
theorem dX7_trade_23 : decode cX7_trade 23 = .ok (.ireturn, 1) := by decide +kernel
theorem dX7_trade_24 : decode cX7_trade 24 = .ok (.iload 4, 2) := by decide +kernel
theorem dX7_trade_26 : decode cX7_trade 26 = .ok (.invokestatic 84, 3) := by decide +kernel
theorem dX7_trade_29 : decode cX7_trade 29 = .ok (.ifCond .eq 16, 3) := by decide +kernel
theorem dX7_trade_32 : decode cX7_trade 32 = .ok (.iload 5, 2) := by decide +kernel
theorem dX7_trade_34 : decode cX7_trade 34 = .ok (.iconst 1, 1) := by decide +kernel
theorem dX7_trade_35 : decode cX7_trade 35 = .ok (.if_icmp .lt 10, 3) := by decide +kernel
theorem dX7_trade_38 : decode cX7_trade 38 = .ok (.iload 5, 2) := by decide +kernel
theorem dX7_trade_40 : decode cX7_trade 40 = .ok (.bipush 99, 2) := by decide +kernel
theorem dX7_trade_42 : decode cX7_trade 42 = .ok (.if_icmp .le 6, 3) := by decide +kernel
theorem dX7_trade_45 : decode cX7_trade 45 = .ok (.bipush (-2), 2) := by decide +kernel
theorem dX7_trade_47 : decode cX7_trade 47 = .ok (.ireturn, 1) := by decide +kernel
theorem dX7_trade_48 : decode cX7_trade 48 = .ok (.aload_n 0, 1) := by decide +kernel
theorem dX7_trade_49 : decode cX7_trade 49 = .ok (.getfield 62, 3) := by decide +kernel
theorem dX7_trade_52 : decode cX7_trade 52 = .ok (.getfield 153, 3) := by decide +kernel
theorem dX7_trade_55 : decode cX7_trade 55 = .ok (.bipush 16, 2) := by decide +kernel
theorem dX7_trade_57 : decode cX7_trade 57 = .ok (.if_icmp .lt 6, 3) := by decide +kernel
theorem dX7_trade_60 : decode cX7_trade 60 = .ok (.bipush (-4), 2) := by decide +kernel
theorem dX7_trade_62 : decode cX7_trade 62 = .ok (.ireturn, 1) := by decide +kernel
theorem dX7_trade_63 : decode cX7_trade 63 = .ok (.aload_n 0, 1) := by decide +kernel
theorem dX7_trade_64 : decode cX7_trade 64 = .ok (.getfield 62, 3) := by decide +kernel
theorem dX7_trade_67 : decode cX7_trade 67 = .ok (.iload_n 1, 1) := by decide +kernel
theorem dX7_trade_68 : decode cX7_trade 68 = .ok (.iload_n 2, 1) := by decide +kernel
theorem dX7_trade_69 : decode cX7_trade 69 = .ok (.iload_n 3, 1) := by decide +kernel
theorem dX7_trade_70 : decode cX7_trade 70 = .ok (.iload 4, 2) := by decide +kernel
theorem dX7_trade_72 : decode cX7_trade 72 = .ok (.iload 5, 2) := by decide +kernel
theorem dX7_trade_74 : decode cX7_trade 74 = .ok (.invokevirtual 156, 3) := by decide +kernel
theorem dX7_trade_77 : decode cX7_trade 77 = .ok (.ireturn, 1) := by decide +kernel
theorem dX7_of_0 : decode cX7_of 0 = .ok (.aload_n 0, 1) := by decide +kernel
theorem dX7_of_1 : decode cX7_of 1 = .ok (.iload_n 1, 1) := by decide +kernel
theorem dX7_of_2 : decode cX7_of 2 = .ok (.invokevirtual 160, 3) := by decide +kernel
theorem dX7_of_5 : decode cX7_of 5 = .ok (.ifCond .ne 5, 3) := by decide +kernel
theorem dX7_of_8 : decode cX7_of 8 = .ok (.iconst (-1), 1) := by decide +kernel
theorem dX7_of_9 : decode cX7_of 9 = .ok (.ireturn, 1) := by decide +kernel
theorem dX7_of_10 : decode cX7_of 10 = .ok (.iload_n 2, 1) := by decide +kernel
theorem dX7_of_11 : decode cX7_of 11 = .ok (.tableswitch 97 0 5 #[37, 47, 57, 67, 77, 87], 37) := by decide +kernel
theorem dX7_of_48 : decode cX7_of 48 = .ok (.aload_n 0, 1) := by decide +kernel
theorem dX7_of_49 : decode cX7_of 49 = .ok (.getfield 62, 3) := by decide +kernel
theorem dX7_of_52 : decode cX7_of 52 = .ok (.getfield 163, 3) := by decide +kernel
theorem dX7_of_55 : decode cX7_of 55 = .ok (.iload_n 1, 1) := by decide +kernel
theorem dX7_of_56 : decode cX7_of 56 = .ok (.iaload, 1) := by decide +kernel
theorem dX7_of_57 : decode cX7_of 57 = .ok (.ireturn, 1) := by decide +kernel
theorem dX7_of_58 : decode cX7_of 58 = .ok (.aload_n 0, 1) := by decide +kernel
theorem dX7_of_59 : decode cX7_of 59 = .ok (.getfield 62, 3) := by decide +kernel
theorem dX7_of_62 : decode cX7_of 62 = .ok (.getfield 166, 3) := by decide +kernel
theorem dX7_of_65 : decode cX7_of 65 = .ok (.iload_n 1, 1) := by decide +kernel
theorem dX7_of_66 : decode cX7_of 66 = .ok (.iaload, 1) := by decide +kernel
theorem dX7_of_67 : decode cX7_of 67 = .ok (.ireturn, 1) := by decide +kernel
theorem dX7_of_68 : decode cX7_of 68 = .ok (.aload_n 0, 1) := by decide +kernel
theorem dX7_of_69 : decode cX7_of 69 = .ok (.getfield 62, 3) := by decide +kernel
theorem dX7_of_72 : decode cX7_of 72 = .ok (.getfield 169, 3) := by decide +kernel
theorem dX7_of_75 : decode cX7_of 75 = .ok (.iload_n 1, 1) := by decide +kernel
theorem dX7_of_76 : decode cX7_of 76 = .ok (.iaload, 1) := by decide +kernel
theorem dX7_of_77 : decode cX7_of 77 = .ok (.ireturn, 1) := by decide +kernel
theorem dX7_of_78 : decode cX7_of 78 = .ok (.aload_n 0, 1) := by decide +kernel
theorem dX7_of_79 : decode cX7_of 79 = .ok (.getfield 62, 3) := by decide +kernel
theorem dX7_of_82 : decode cX7_of 82 = .ok (.getfield 172, 3) := by decide +kernel
theorem dX7_of_85 : decode cX7_of 85 = .ok (.iload_n 1, 1) := by decide +kernel
theorem dX7_of_86 : decode cX7_of 86 = .ok (.iaload, 1) := by decide +kernel
theorem dX7_of_87 : decode cX7_of 87 = .ok (.ireturn, 1) := by decide +kernel
theorem dX7_of_88 : decode cX7_of 88 = .ok (.aload_n 0, 1) := by decide +kernel
theorem dX7_of_89 : decode cX7_of 89 = .ok (.getfield 62, 3) := by decide +kernel
theorem dX7_of_92 : decode cX7_of 92 = .ok (.getfield 175, 3) := by decide +kernel
theorem dX7_of_95 : decode cX7_of 95 = .ok (.iload_n 1, 1) := by decide +kernel
theorem dX7_of_96 : decode cX7_of 96 = .ok (.iaload, 1) := by decide +kernel
theorem dX7_of_97 : decode cX7_of 97 = .ok (.ireturn, 1) := by decide +kernel
theorem dX7_of_98 : decode cX7_of 98 = .ok (.aload_n 0, 1) := by decide +kernel
theorem dX7_of_99 : decode cX7_of 99 = .ok (.invokevirtual 118, 3) := by decide +kernel
theorem dX7_of_102 : decode cX7_of 102 = .ok (.aload_n 0, 1) := by decide +kernel
theorem dX7_of_103 : decode cX7_of 103 = .ok (.iload_n 1, 1) := by decide +kernel
theorem dX7_of_104 : decode cX7_of 104 = .ok (.invokevirtual 178, 3) := by decide +kernel
theorem dX7_of_107 : decode cX7_of 107 = .ok (.ireturn, 1) := by decide +kernel
theorem dX7_of_108 : decode cX7_of 108 = .ok (.iconst (-1), 1) := by decide +kernel
theorem dX7_of_109 : decode cX7_of 109 = .ok (.ireturn, 1) := by decide +kernel
theorem dX7_sure_0 : decode cX7_sure 0 = .ok (.iload_n 1, 1) := by decide +kernel
theorem dX7_sure_1 : decode cX7_sure 1 = .ok (.ifCond .eq 10, 3) := by decide +kernel
theorem dX7_sure_4 : decode cX7_sure 4 = .ok (.iload_n 1, 1) := by decide +kernel
theorem dX7_sure_5 : decode cX7_sure 5 = .ok (.iconst 1, 1) := by decide +kernel
theorem dX7_sure_6 : decode cX7_sure 6 = .ok (.if_icmp .eq 5, 3) := by decide +kernel
theorem dX7_sure_9 : decode cX7_sure 9 = .ok (.iconst (-1), 1) := by decide +kernel
theorem dX7_sure_10 : decode cX7_sure 10 = .ok (.ireturn, 1) := by decide +kernel
theorem dX7_sure_11 : decode cX7_sure 11 = .ok (.aload_n 0, 1) := by decide +kernel
theorem dX7_sure_12 : decode cX7_sure 12 = .ok (.invokevirtual 118, 3) := by decide +kernel
theorem dX7_sure_15 : decode cX7_sure 15 = .ok (.iconst 0, 1) := by decide +kernel
theorem dX7_sure_16 : decode cX7_sure 16 = .ok (.istore_n 2, 1) := by decide +kernel
theorem dX7_sure_17 : decode cX7_sure 17 = .ok (.iconst 0, 1) := by decide +kernel
theorem dX7_sure_18 : decode cX7_sure 18 = .ok (.istore_n 3, 1) := by decide +kernel
theorem dX7_sure_19 : decode cX7_sure 19 = .ok (.iload_n 3, 1) := by decide +kernel
theorem dX7_sure_20 : decode cX7_sure 20 = .ok (.aload_n 0, 1) := by decide +kernel
theorem dX7_sure_21 : decode cX7_sure 21 = .ok (.getfield 62, 3) := by decide +kernel
theorem dX7_sure_24 : decode cX7_sure 24 = .ok (.getfield 153, 3) := by decide +kernel
theorem dX7_sure_27 : decode cX7_sure 27 = .ok (.if_icmp .ge 63, 3) := by decide +kernel
theorem dX7_sure_30 : decode cX7_sure 30 = .ok (.aload_n 0, 1) := by decide +kernel
theorem dX7_sure_31 : decode cX7_sure 31 = .ok (.iload_n 3, 1) := by decide +kernel
theorem dX7_sure_32 : decode cX7_sure 32 = .ok (.invokevirtual 178, 3) := by decide +kernel
theorem dX7_sure_35 : decode cX7_sure 35 = .ok (.istore 4, 2) := by decide +kernel
theorem dX7_sure_37 : decode cX7_sure 37 = .ok (.iload_n 1, 1) := by decide +kernel
theorem dX7_sure_38 : decode cX7_sure 38 = .ok (.ifCond .ne 11, 3) := by decide +kernel
theorem dX7_sure_41 : decode cX7_sure 41 = .ok (.iload 4, 2) := by decide +kernel
theorem dX7_sure_43 : decode cX7_sure 43 = .ok (.invokestatic 181, 3) := by decide +kernel
theorem dX7_sure_46 : decode cX7_sure 46 = .ok (.goto 25, 3) := by decide +kernel
theorem dX7_sure_49 : decode cX7_sure 49 = .ok (.iload 4, 2) := by decide +kernel
theorem dX7_sure_51 : decode cX7_sure 51 = .ok (.aload_n 0, 1) := by decide +kernel
theorem dX7_sure_52 : decode cX7_sure 52 = .ok (.getfield 62, 3) := by decide +kernel
theorem dX7_sure_55 : decode cX7_sure 55 = .ok (.getfield 163, 3) := by decide +kernel
theorem dX7_sure_58 : decode cX7_sure 58 = .ok (.iload_n 3, 1) := by decide +kernel
theorem dX7_sure_59 : decode cX7_sure 59 = .ok (.iaload, 1) := by decide +kernel
theorem dX7_sure_60 : decode cX7_sure 60 = .ok (.ishr, 1) := by decide +kernel
theorem dX7_sure_61 : decode cX7_sure 61 = .ok (.iconst 1, 1) := by decide +kernel
theorem dX7_sure_62 : decode cX7_sure 62 = .ok (.iand, 1) := by decide +kernel
theorem dX7_sure_63 : decode cX7_sure 63 = .ok (.ifCond .ne 7, 3) := by decide +kernel
theorem dX7_sure_66 : decode cX7_sure 66 = .ok (.iconst 1, 1) := by decide +kernel
theorem dX7_sure_67 : decode cX7_sure 67 = .ok (.goto 4, 3) := by decide +kernel
theorem dX7_sure_70 : decode cX7_sure 70 = .ok (.iconst 0, 1) := by decide +kernel
theorem dX7_sure_71 : decode cX7_sure 71 = .ok (.istore 5, 2) := by decide +kernel
theorem dX7_sure_73 : decode cX7_sure 73 = .ok (.iload 5, 2) := by decide +kernel
theorem dX7_sure_75 : decode cX7_sure 75 = .ok (.ifCond .eq 9, 3) := by decide +kernel
theorem dX7_sure_78 : decode cX7_sure 78 = .ok (.iload_n 2, 1) := by decide +kernel
theorem dX7_sure_79 : decode cX7_sure 79 = .ok (.iconst 1, 1) := by decide +kernel
theorem dX7_sure_80 : decode cX7_sure 80 = .ok (.iload_n 3, 1) := by decide +kernel
theorem dX7_sure_81 : decode cX7_sure 81 = .ok (.ishl, 1) := by decide +kernel
theorem dX7_sure_82 : decode cX7_sure 82 = .ok (.ior, 1) := by decide +kernel
theorem dX7_sure_83 : decode cX7_sure 83 = .ok (.istore_n 2, 1) := by decide +kernel
theorem dX7_sure_84 : decode cX7_sure 84 = .ok (.iinc 3 1, 3) := by decide +kernel
theorem dX7_sure_87 : decode cX7_sure 87 = .ok (.goto (-68), 3) := by decide +kernel
theorem dX7_sure_90 : decode cX7_sure 90 = .ok (.iload_n 2, 1) := by decide +kernel
theorem dX7_sure_91 : decode cX7_sure 91 = .ok (.ireturn, 1) := by decide +kernel
theorem dX7_fridays_0 : decode cX7_fridays 0 = .ok (.aload_n 0, 1) := by decide +kernel
theorem dX7_fridays_1 : decode cX7_fridays 1 = .ok (.iload_n 1, 1) := by decide +kernel
theorem dX7_fridays_2 : decode cX7_fridays 2 = .ok (.invokevirtual 77, 3) := by decide +kernel
theorem dX7_fridays_5 : decode cX7_fridays 5 = .ok (.ifCond .ne 5, 3) := by decide +kernel
theorem dX7_fridays_8 : decode cX7_fridays 8 = .ok (.iconst (-1), 1) := by decide +kernel
theorem dX7_fridays_9 : decode cX7_fridays 9 = .ok (.ireturn, 1) := by decide +kernel
theorem dX7_fridays_10 : decode cX7_fridays 10 = .ok (.aload_n 0, 1) := by decide +kernel
theorem dX7_fridays_11 : decode cX7_fridays 11 = .ok (.getfield 62, 3) := by decide +kernel
theorem dX7_fridays_14 : decode cX7_fridays 14 = .ok (.iload_n 1, 1) := by decide +kernel
theorem dX7_fridays_15 : decode cX7_fridays 15 = .ok (.invokevirtual 184, 3) := by decide +kernel
theorem dX7_fridays_18 : decode cX7_fridays 18 = .ok (.ireturn, 1) := by decide +kernel
theorem dX7_again_0 : decode cX7_again 0 = .ok (.aload_n 0, 1) := by decide +kernel
theorem dX7_again_1 : decode cX7_again 1 = .ok (.iload_n 1, 1) := by decide +kernel
theorem dX7_again_2 : decode cX7_again 2 = .ok (.invokevirtual 77, 3) := by decide +kernel
theorem dX7_again_5 : decode cX7_again 5 = .ok (.ifCond .eq 33, 3) := by decide +kernel
theorem dX7_again_8 : decode cX7_again 8 = .ok (.iload_n 2, 1) := by decide +kernel
theorem dX7_again_9 : decode cX7_again 9 = .ok (.ifCond .lt 29, 3) := by decide +kernel
theorem dX7_again_12 : decode cX7_again 12 = .ok (.iload_n 2, 1) := by decide +kernel
theorem dX7_again_13 : decode cX7_again 13 = .ok (.bipush 9, 2) := by decide +kernel
theorem dX7_again_15 : decode cX7_again 15 = .ok (.if_icmp .gt 23, 3) := by decide +kernel
theorem dX7_again_18 : decode cX7_again 18 = .ok (.iload_n 3, 1) := by decide +kernel
theorem dX7_again_19 : decode cX7_again 19 = .ok (.ifCond .lt 19, 3) := by decide +kernel
theorem dX7_again_22 : decode cX7_again 22 = .ok (.iload_n 3, 1) := by decide +kernel
theorem dX7_again_23 : decode cX7_again 23 = .ok (.iconst 1, 1) := by decide +kernel
theorem dX7_again_24 : decode cX7_again 24 = .ok (.if_icmp .gt 14, 3) := by decide +kernel
theorem dX7_again_27 : decode cX7_again 27 = .ok (.iload 4, 2) := by decide +kernel
theorem dX7_again_29 : decode cX7_again 29 = .ok (.ifCond .lt 9, 3) := by decide +kernel
theorem dX7_again_32 : decode cX7_again 32 = .ok (.iload 4, 2) := by decide +kernel
theorem dX7_again_34 : decode cX7_again 34 = .ok (.iconst 1, 1) := by decide +kernel
theorem dX7_again_35 : decode cX7_again 35 = .ok (.if_icmp .le 7, 3) := by decide +kernel
theorem dX7_again_38 : decode cX7_again 38 = .ok (.ldc2_w 187, 3) := by decide +kernel
theorem dX7_again_41 : decode cX7_again 41 = .ok (.lreturn, 1) := by decide +kernel
theorem dX7_again_42 : decode cX7_again 42 = .ok (.aload_n 0, 1) := by decide +kernel
theorem dX7_again_43 : decode cX7_again 43 = .ok (.iload_n 1, 1) := by decide +kernel
theorem dX7_again_44 : decode cX7_again 44 = .ok (.iload_n 2, 1) := by decide +kernel
theorem dX7_again_45 : decode cX7_again 45 = .ok (.invokevirtual 189, 3) := by decide +kernel
theorem dX7_again_48 : decode cX7_again 48 = .ok (.iload_n 3, 1) := by decide +kernel
theorem dX7_again_49 : decode cX7_again 49 = .ok (.iconst 1, 1) := by decide +kernel
theorem dX7_again_50 : decode cX7_again 50 = .ok (.if_icmp .ne 14, 3) := by decide +kernel
theorem dX7_again_53 : decode cX7_again 53 = .ok (.aload_n 0, 1) := by decide +kernel
theorem dX7_again_54 : decode cX7_again 54 = .ok (.getfield 38, 3) := by decide +kernel
theorem dX7_again_57 : decode cX7_again 57 = .ok (.aload_n 0, 1) := by decide +kernel
theorem dX7_again_58 : decode cX7_again 58 = .ok (.getfield 73, 3) := by decide +kernel
theorem dX7_again_61 : decode cX7_again 61 = .ok (.invokevirtual 193, 3) := by decide +kernel
theorem dX7_again_64 : decode cX7_again 64 = .ok (.aload_n 0, 1) := by decide +kernel
theorem dX7_again_65 : decode cX7_again 65 = .ok (.getfield 38, 3) := by decide +kernel
theorem dX7_again_68 : decode cX7_again 68 = .ok (.invokevirtual 196, 3) := by decide +kernel
theorem dX7_again_71 : decode cX7_again 71 = .ok (.iload 4, 2) := by decide +kernel
theorem dX7_again_73 : decode cX7_again 73 = .ok (.ifCond .ne 13, 3) := by decide +kernel
theorem dX7_again_76 : decode cX7_again 76 = .ok (.aload_n 0, 1) := by decide +kernel
theorem dX7_again_77 : decode cX7_again 77 = .ok (.getfield 38, 3) := by decide +kernel
theorem dX7_again_80 : decode cX7_again 80 = .ok (.getfield 199, 3) := by decide +kernel
theorem dX7_again_83 : decode cX7_again 83 = .ok (.goto 10, 3) := by decide +kernel
theorem dX7_again_86 : decode cX7_again 86 = .ok (.aload_n 0, 1) := by decide +kernel
theorem dX7_again_87 : decode cX7_again 87 = .ok (.getfield 38, 3) := by decide +kernel
theorem dX7_again_90 : decode cX7_again 90 = .ok (.getfield 203, 3) := by decide +kernel
theorem dX7_again_93 : decode cX7_again 93 = .ok (.lreturn, 1) := by decide +kernel
theorem dX7_oddest_0 : decode cX7_oddest 0 = .ok (.aload_n 0, 1) := by decide +kernel
theorem dX7_oddest_1 : decode cX7_oddest 1 = .ok (.getfield 73, 3) := by decide +kernel
theorem dX7_oddest_4 : decode cX7_oddest 4 = .ok (.ifCond .ne 5, 3) := by decide +kernel
theorem dX7_oddest_7 : decode cX7_oddest 7 = .ok (.iconst (-1), 1) := by decide +kernel
theorem dX7_oddest_8 : decode cX7_oddest 8 = .ok (.ireturn, 1) := by decide +kernel
theorem dX7_oddest_9 : decode cX7_oddest 9 = .ok (.iload_n 1, 1) := by decide +kernel
theorem dX7_oddest_10 : decode cX7_oddest 10 = .ok (.ifCond .lt 9, 3) := by decide +kernel
theorem dX7_oddest_13 : decode cX7_oddest 13 = .ok (.iload_n 1, 1) := by decide +kernel
theorem dX7_oddest_14 : decode cX7_oddest 14 = .ok (.bipush 9, 2) := by decide +kernel
theorem dX7_oddest_16 : decode cX7_oddest 16 = .ok (.if_icmp .le 6, 3) := by decide +kernel
theorem dX7_oddest_19 : decode cX7_oddest 19 = .ok (.bipush (-2), 2) := by decide +kernel
theorem dX7_oddest_21 : decode cX7_oddest 21 = .ok (.ireturn, 1) := by decide +kernel
theorem dX7_oddest_22 : decode cX7_oddest 22 = .ok (.iconst 0, 1) := by decide +kernel
theorem dX7_oddest_23 : decode cX7_oddest 23 = .ok (.istore_n 2, 1) := by decide +kernel
theorem dX7_oddest_24 : decode cX7_oddest 24 = .ok (.lconst 0, 1) := by decide +kernel
theorem dX7_oddest_25 : decode cX7_oddest 25 = .ok (.lstore_n 3, 1) := by decide +kernel
theorem dX7_oddest_26 : decode cX7_oddest 26 = .ok (.iconst 0, 1) := by decide +kernel
theorem dX7_oddest_27 : decode cX7_oddest 27 = .ok (.istore 5, 2) := by decide +kernel
theorem dX7_oddest_29 : decode cX7_oddest 29 = .ok (.iload 5, 2) := by decide +kernel
theorem dX7_oddest_31 : decode cX7_oddest 31 = .ok (.aload_n 0, 1) := by decide +kernel
theorem dX7_oddest_32 : decode cX7_oddest 32 = .ok (.getfield 73, 3) := by decide +kernel
theorem dX7_oddest_35 : decode cX7_oddest 35 = .ok (.if_icmp .ge 44, 3) := by decide +kernel
theorem dX7_oddest_38 : decode cX7_oddest 38 = .ok (.aload_n 0, 1) := by decide +kernel
theorem dX7_oddest_39 : decode cX7_oddest 39 = .ok (.iload 5, 2) := by decide +kernel
theorem dX7_oddest_41 : decode cX7_oddest 41 = .ok (.iload_n 1, 1) := by decide +kernel
theorem dX7_oddest_42 : decode cX7_oddest 42 = .ok (.invokevirtual 189, 3) := by decide +kernel
theorem dX7_oddest_45 : decode cX7_oddest 45 = .ok (.iload 5, 2) := by decide +kernel
theorem dX7_oddest_47 : decode cX7_oddest 47 = .ok (.ifCond .eq 15, 3) := by decide +kernel
theorem dX7_oddest_50 : decode cX7_oddest 50 = .ok (.aload_n 0, 1) := by decide +kernel
theorem dX7_oddest_51 : decode cX7_oddest 51 = .ok (.getfield 38, 3) := by decide +kernel
theorem dX7_oddest_54 : decode cX7_oddest 54 = .ok (.getfield 199, 3) := by decide +kernel
theorem dX7_oddest_57 : decode cX7_oddest 57 = .ok (.lload_n 3, 1) := by decide +kernel
theorem dX7_oddest_58 : decode cX7_oddest 58 = .ok (.lcmp, 1) := by decide +kernel
theorem dX7_oddest_59 : decode cX7_oddest 59 = .ok (.ifCond .ge 14, 3) := by decide +kernel
theorem dX7_oddest_62 : decode cX7_oddest 62 = .ok (.aload_n 0, 1) := by decide +kernel
theorem dX7_oddest_63 : decode cX7_oddest 63 = .ok (.getfield 38, 3) := by decide +kernel
theorem dX7_oddest_66 : decode cX7_oddest 66 = .ok (.getfield 199, 3) := by decide +kernel
theorem dX7_oddest_69 : decode cX7_oddest 69 = .ok (.lstore_n 3, 1) := by decide +kernel
theorem dX7_oddest_70 : decode cX7_oddest 70 = .ok (.iload 5, 2) := by decide +kernel
theorem dX7_oddest_72 : decode cX7_oddest 72 = .ok (.istore_n 2, 1) := by decide +kernel
theorem dX7_oddest_73 : decode cX7_oddest 73 = .ok (.iinc 5 1, 3) := by decide +kernel
theorem dX7_oddest_76 : decode cX7_oddest 76 = .ok (.goto (-47), 3) := by decide +kernel
theorem dX7_oddest_79 : decode cX7_oddest 79 = .ok (.iload_n 2, 1) := by decide +kernel
theorem dX7_oddest_80 : decode cX7_oddest 80 = .ok (.ireturn, 1) := by decide +kernel
theorem dX7_ring_0 : decode cX7_ring 0 = .ok (.iload_n 1, 1) := by decide +kernel
theorem dX7_ring_1 : decode cX7_ring 1 = .ok (.lookupswitch 37 #[(0, 27), (1, 32)], 27) := by decide +kernel
theorem dX7_ring_28 : decode cX7_ring 28 = .ok (.aload_n 0, 1) := by decide +kernel
theorem dX7_ring_29 : decode cX7_ring 29 = .ok (.invokevirtual 206, 3) := by decide +kernel
theorem dX7_ring_32 : decode cX7_ring 32 = .ok (.ireturn, 1) := by decide +kernel
theorem dX7_ring_33 : decode cX7_ring 33 = .ok (.aload_n 0, 1) := by decide +kernel
theorem dX7_ring_34 : decode cX7_ring 34 = .ok (.invokevirtual 210, 3) := by decide +kernel
theorem dX7_ring_37 : decode cX7_ring 37 = .ok (.ireturn, 1) := by decide +kernel
theorem dX7_ring_38 : decode cX7_ring 38 = .ok (.iconst (-1), 1) := by decide +kernel
theorem dX7_ring_39 : decode cX7_ring 39 = .ok (.ireturn, 1) := by decide +kernel
theorem dX7_explaining_0 : decode cX7_explaining 0 = .ok (.aload_n 0, 1) := by decide +kernel
theorem dX7_explaining_1 : decode cX7_explaining 1 = .ok (.getfield 62, 3) := by decide +kernel
theorem dX7_explaining_4 : decode cX7_explaining 4 = .ok (.getfield 166, 3) := by decide +kernel
theorem dX7_explaining_7 : decode cX7_explaining 7 = .ok (.iload_n 1, 1) := by decide +kernel
theorem dX7_explaining_8 : decode cX7_explaining 8 = .ok (.iaload, 1) := by decide +kernel
theorem dX7_explaining_9 : decode cX7_explaining 9 = .ok (.istore_n 2, 1) := by decide +kernel
theorem dX7_explaining_10 : decode cX7_explaining 10 = .ok (.aload_n 0, 1) := by decide +kernel
theorem dX7_explaining_11 : decode cX7_explaining 11 = .ok (.iload_n 2, 1) := by decide +kernel
theorem dX7_explaining_12 : decode cX7_explaining 12 = .ok (.aload_n 0, 1) := by decide +kernel
theorem dX7_explaining_13 : decode cX7_explaining 13 = .ok (.getfield 62, 3) := by decide +kernel
theorem dX7_explaining_16 : decode cX7_explaining 16 = .ok (.getfield 169, 3) := by decide +kernel
theorem dX7_explaining_19 : decode cX7_explaining 19 = .ok (.iload_n 1, 1) := by decide +kernel
theorem dX7_explaining_20 : decode cX7_explaining 20 = .ok (.iaload, 1) := by decide +kernel
theorem dX7_explaining_21 : decode cX7_explaining 21 = .ok (.invokevirtual 115, 3) := by decide +kernel
theorem dX7_explaining_24 : decode cX7_explaining 24 = .ok (.istore_n 3, 1) := by decide +kernel
theorem dX7_explaining_25 : decode cX7_explaining 25 = .ok (.iconst 1, 1) := by decide +kernel
theorem dX7_explaining_26 : decode cX7_explaining 26 = .ok (.istore 4, 2) := by decide +kernel
theorem dX7_explaining_28 : decode cX7_explaining 28 = .ok (.iload_n 3, 1) := by decide +kernel
theorem dX7_explaining_29 : decode cX7_explaining 29 = .ok (.ifCond .le 9, 3) := by decide +kernel
theorem dX7_explaining_32 : decode cX7_explaining 32 = .ok (.iload 4, 2) := by decide +kernel
theorem dX7_explaining_34 : decode cX7_explaining 34 = .ok (.iconst 2, 1) := by decide +kernel
theorem dX7_explaining_35 : decode cX7_explaining 35 = .ok (.ior, 1) := by decide +kernel
theorem dX7_explaining_36 : decode cX7_explaining 36 = .ok (.istore 4, 2) := by decide +kernel
theorem dX7_explaining_38 : decode cX7_explaining 38 = .ok (.iload_n 3, 1) := by decide +kernel
theorem dX7_explaining_39 : decode cX7_explaining 39 = .ok (.bipush 50, 2) := by decide +kernel
theorem dX7_explaining_41 : decode cX7_explaining 41 = .ok (.if_icmp .lt 10, 3) := by decide +kernel
theorem dX7_explaining_44 : decode cX7_explaining 44 = .ok (.iload 4, 2) := by decide +kernel
theorem dX7_explaining_46 : decode cX7_explaining 46 = .ok (.bipush 16, 2) := by decide +kernel
theorem dX7_explaining_48 : decode cX7_explaining 48 = .ok (.ior, 1) := by decide +kernel
theorem dX7_explaining_49 : decode cX7_explaining 49 = .ok (.istore 4, 2) := by decide +kernel
theorem dX7_explaining_51 : decode cX7_explaining 51 = .ok (.aload_n 0, 1) := by decide +kernel
theorem dX7_explaining_52 : decode cX7_explaining 52 = .ok (.getfield 62, 3) := by decide +kernel
theorem dX7_explaining_55 : decode cX7_explaining 55 = .ok (.getfield 172, 3) := by decide +kernel
theorem dX7_explaining_58 : decode cX7_explaining 58 = .ok (.iload_n 1, 1) := by decide +kernel
theorem dX7_explaining_59 : decode cX7_explaining 59 = .ok (.iaload, 1) := by decide +kernel
theorem dX7_explaining_60 : decode cX7_explaining 60 = .ok (.aload_n 0, 1) := by decide +kernel
theorem dX7_explaining_61 : decode cX7_explaining 61 = .ok (.getfield 62, 3) := by decide +kernel
theorem dX7_explaining_64 : decode cX7_explaining 64 = .ok (.getfield 104, 3) := by decide +kernel
theorem dX7_explaining_67 : decode cX7_explaining 67 = .ok (.iconst 2, 1) := by decide +kernel
theorem dX7_explaining_68 : decode cX7_explaining 68 = .ok (.sipush 999, 3) := by decide +kernel
theorem dX7_explaining_71 : decode cX7_explaining 71 = .ok (.invokevirtual 213, 3) := by decide +kernel
theorem dX7_explaining_74 : decode cX7_explaining 74 = .ok (.if_icmp .lt 9, 3) := by decide +kernel
theorem dX7_explaining_77 : decode cX7_explaining 77 = .ok (.iload 4, 2) := by decide +kernel
theorem dX7_explaining_79 : decode cX7_explaining 79 = .ok (.iconst 4, 1) := by decide +kernel
theorem dX7_explaining_80 : decode cX7_explaining 80 = .ok (.ior, 1) := by decide +kernel
theorem dX7_explaining_81 : decode cX7_explaining 81 = .ok (.istore 4, 2) := by decide +kernel
theorem dX7_explaining_83 : decode cX7_explaining 83 = .ok (.aload_n 0, 1) := by decide +kernel
theorem dX7_explaining_84 : decode cX7_explaining 84 = .ok (.getfield 31, 3) := by decide +kernel
theorem dX7_explaining_87 : decode cX7_explaining 87 = .ok (.iload_n 2, 1) := by decide +kernel
theorem dX7_explaining_88 : decode cX7_explaining 88 = .ok (.aload_n 0, 1) := by decide +kernel
theorem dX7_explaining_89 : decode cX7_explaining 89 = .ok (.getfield 62, 3) := by decide +kernel
theorem dX7_explaining_92 : decode cX7_explaining 92 = .ok (.getfield 172, 3) := by decide +kernel
theorem dX7_explaining_95 : decode cX7_explaining 95 = .ok (.iload_n 1, 1) := by decide +kernel
theorem dX7_explaining_96 : decode cX7_explaining 96 = .ok (.iaload, 1) := by decide +kernel
theorem dX7_explaining_97 : decode cX7_explaining 97 = .ok (.invokevirtual 146, 3) := by decide +kernel
theorem dX7_explaining_100 : decode cX7_explaining 100 = .ok (.ifCond .ne 6, 3) := by decide +kernel
theorem dX7_explaining_103 : decode cX7_explaining 103 = .ok (.iload 4, 2) := by decide +kernel
theorem dX7_explaining_105 : decode cX7_explaining 105 = .ok (.ireturn, 1) := by decide +kernel
theorem dX7_explaining_106 : decode cX7_explaining 106 = .ok (.iload 4, 2) := by decide +kernel
theorem dX7_explaining_108 : decode cX7_explaining 108 = .ok (.bipush 8, 2) := by decide +kernel
theorem dX7_explaining_110 : decode cX7_explaining 110 = .ok (.ior, 1) := by decide +kernel
theorem dX7_explaining_111 : decode cX7_explaining 111 = .ok (.istore 4, 2) := by decide +kernel
theorem dX7_explaining_113 : decode cX7_explaining 113 = .ok (.aload_n 0, 1) := by decide +kernel
theorem dX7_explaining_114 : decode cX7_explaining 114 = .ok (.getfield 62, 3) := by decide +kernel
theorem dX7_explaining_117 : decode cX7_explaining 117 = .ok (.getfield 87, 3) := by decide +kernel
theorem dX7_explaining_120 : decode cX7_explaining 120 = .ok (.iload_n 2, 1) := by decide +kernel
theorem dX7_explaining_121 : decode cX7_explaining 121 = .ok (.iaload, 1) := by decide +kernel
theorem dX7_explaining_122 : decode cX7_explaining 122 = .ok (.ifCond .ge 10, 3) := by decide +kernel
theorem dX7_explaining_125 : decode cX7_explaining 125 = .ok (.iload 4, 2) := by decide +kernel
theorem dX7_explaining_127 : decode cX7_explaining 127 = .ok (.bipush 32, 2) := by decide +kernel
theorem dX7_explaining_129 : decode cX7_explaining 129 = .ok (.ior, 1) := by decide +kernel
theorem dX7_explaining_130 : decode cX7_explaining 130 = .ok (.istore 4, 2) := by decide +kernel
theorem dX7_explaining_132 : decode cX7_explaining 132 = .ok (.aload_n 0, 1) := by decide +kernel
theorem dX7_explaining_133 : decode cX7_explaining 133 = .ok (.getfield 62, 3) := by decide +kernel
theorem dX7_explaining_136 : decode cX7_explaining 136 = .ok (.getfield 175, 3) := by decide +kernel
theorem dX7_explaining_139 : decode cX7_explaining 139 = .ok (.iload_n 1, 1) := by decide +kernel
theorem dX7_explaining_140 : decode cX7_explaining 140 = .ok (.iaload, 1) := by decide +kernel
theorem dX7_explaining_141 : decode cX7_explaining 141 = .ok (.aload_n 0, 1) := by decide +kernel
theorem dX7_explaining_142 : decode cX7_explaining 142 = .ok (.getfield 62, 3) := by decide +kernel
theorem dX7_explaining_145 : decode cX7_explaining 145 = .ok (.getfield 104, 3) := by decide +kernel
theorem dX7_explaining_148 : decode cX7_explaining 148 = .ok (.iconst 3, 1) := by decide +kernel
theorem dX7_explaining_149 : decode cX7_explaining 149 = .ok (.sipush 999, 3) := by decide +kernel
theorem dX7_explaining_152 : decode cX7_explaining 152 = .ok (.invokevirtual 213, 3) := by decide +kernel
theorem dX7_explaining_155 : decode cX7_explaining 155 = .ok (.if_icmp .ge 21, 3) := by decide +kernel
theorem dX7_explaining_158 : decode cX7_explaining 158 = .ok (.aload_n 0, 1) := by decide +kernel
theorem dX7_explaining_159 : decode cX7_explaining 159 = .ok (.getfield 62, 3) := by decide +kernel
theorem dX7_explaining_162 : decode cX7_explaining 162 = .ok (.iload_n 1, 1) := by decide +kernel
theorem dX7_explaining_163 : decode cX7_explaining 163 = .ok (.invokevirtual 216, 3) := by decide +kernel
theorem dX7_explaining_166 : decode cX7_explaining 166 = .ok (.ifCond .eq 10, 3) := by decide +kernel
theorem dX7_explaining_169 : decode cX7_explaining 169 = .ok (.iload 4, 2) := by decide +kernel
theorem dX7_explaining_171 : decode cX7_explaining 171 = .ok (.bipush 64, 2) := by decide +kernel
theorem dX7_explaining_173 : decode cX7_explaining 173 = .ok (.ior, 1) := by decide +kernel
theorem dX7_explaining_174 : decode cX7_explaining 174 = .ok (.istore 4, 2) := by decide +kernel
theorem dX7_explaining_176 : decode cX7_explaining 176 = .ok (.iload 4, 2) := by decide +kernel
theorem dX7_explaining_178 : decode cX7_explaining 178 = .ok (.ireturn, 1) := by decide +kernel
theorem dX7_knownAlone_0 : decode cX7_knownAlone 0 = .ok (.bipush 14, 2) := by decide +kernel
theorem dX7_knownAlone_2 : decode cX7_knownAlone 2 = .ok (.istore_n 1, 1) := by decide +kernel
theorem dX7_knownAlone_3 : decode cX7_knownAlone 3 = .ok (.iload_n 0, 1) := by decide +kernel
theorem dX7_knownAlone_4 : decode cX7_knownAlone 4 = .ok (.iload_n 1, 1) := by decide +kernel
theorem dX7_knownAlone_5 : decode cX7_knownAlone 5 = .ok (.iand, 1) := by decide +kernel
theorem dX7_knownAlone_6 : decode cX7_knownAlone 6 = .ok (.bipush 8, 2) := by decide +kernel
theorem dX7_knownAlone_8 : decode cX7_knownAlone 8 = .ok (.if_icmp .ne 7, 3) := by decide +kernel
theorem dX7_knownAlone_11 : decode cX7_knownAlone 11 = .ok (.iconst 1, 1) := by decide +kernel
theorem dX7_knownAlone_12 : decode cX7_knownAlone 12 = .ok (.goto 4, 3) := by decide +kernel
theorem dX7_knownAlone_15 : decode cX7_knownAlone 15 = .ok (.iconst 0, 1) := by decide +kernel
theorem dX7_knownAlone_16 : decode cX7_knownAlone 16 = .ok (.ireturn, 1) := by decide +kernel
theorem dX7_weighAgain_0 : decode cX7_weighAgain 0 = .ok (.aload_n 0, 1) := by decide +kernel
theorem dX7_weighAgain_1 : decode cX7_weighAgain 1 = .ok (.getfield 38, 3) := by decide +kernel
theorem dX7_weighAgain_4 : decode cX7_weighAgain 4 = .ok (.invokevirtual 219, 3) := by decide +kernel
theorem dX7_weighAgain_7 : decode cX7_weighAgain 7 = .ok (.iconst 0, 1) := by decide +kernel
theorem dX7_weighAgain_8 : decode cX7_weighAgain 8 = .ok (.istore_n 3, 1) := by decide +kernel
theorem dX7_weighAgain_9 : decode cX7_weighAgain 9 = .ok (.iload_n 3, 1) := by decide +kernel
theorem dX7_weighAgain_10 : decode cX7_weighAgain 10 = .ok (.iload_n 2, 1) := by decide +kernel
theorem dX7_weighAgain_11 : decode cX7_weighAgain 11 = .ok (.if_icmp .ge 22, 3) := by decide +kernel
theorem dX7_weighAgain_14 : decode cX7_weighAgain 14 = .ok (.aload_n 0, 1) := by decide +kernel
theorem dX7_weighAgain_15 : decode cX7_weighAgain 15 = .ok (.getfield 38, 3) := by decide +kernel
theorem dX7_weighAgain_18 : decode cX7_weighAgain 18 = .ok (.aload_n 0, 1) := by decide +kernel
theorem dX7_weighAgain_19 : decode cX7_weighAgain 19 = .ok (.iload_n 1, 1) := by decide +kernel
theorem dX7_weighAgain_20 : decode cX7_weighAgain 20 = .ok (.iload_n 3, 1) := by decide +kernel
theorem dX7_weighAgain_21 : decode cX7_weighAgain 21 = .ok (.invokevirtual 115, 3) := by decide +kernel
theorem dX7_weighAgain_24 : decode cX7_weighAgain 24 = .ok (.invokevirtual 222, 3) := by decide +kernel
theorem dX7_weighAgain_27 : decode cX7_weighAgain 27 = .ok (.iinc 3 1, 3) := by decide +kernel
theorem dX7_weighAgain_30 : decode cX7_weighAgain 30 = .ok (.goto (-21), 3) := by decide +kernel
theorem dX7_weighAgain_33 : decode cX7_weighAgain 33 = .ok (.aload_n 0, 1) := by decide +kernel
theorem dX7_weighAgain_34 : decode cX7_weighAgain 34 = .ok (.getfield 62, 3) := by decide +kernel
theorem dX7_weighAgain_37 : decode cX7_weighAgain 37 = .ok (.iload_n 1, 1) := by decide +kernel
theorem dX7_weighAgain_38 : decode cX7_weighAgain 38 = .ok (.invokevirtual 184, 3) := by decide +kernel
theorem dX7_weighAgain_41 : decode cX7_weighAgain 41 = .ok (.iconst 1, 1) := by decide +kernel
theorem dX7_weighAgain_42 : decode cX7_weighAgain 42 = .ok (.iload_n 2, 1) := by decide +kernel
theorem dX7_weighAgain_43 : decode cX7_weighAgain 43 = .ok (.ishl, 1) := by decide +kernel
theorem dX7_weighAgain_44 : decode cX7_weighAgain 44 = .ok (.iconst 1, 1) := by decide +kernel
theorem dX7_weighAgain_45 : decode cX7_weighAgain 45 = .ok (.isub, 1) := by decide +kernel
theorem dX7_weighAgain_46 : decode cX7_weighAgain 46 = .ok (.iand, 1) := by decide +kernel
theorem dX7_weighAgain_47 : decode cX7_weighAgain 47 = .ok (.invokestatic 138, 3) := by decide +kernel
theorem dX7_weighAgain_50 : decode cX7_weighAgain 50 = .ok (.istore_n 3, 1) := by decide +kernel
theorem dX7_weighAgain_51 : decode cX7_weighAgain 51 = .ok (.aload_n 0, 1) := by decide +kernel
theorem dX7_weighAgain_52 : decode cX7_weighAgain 52 = .ok (.getfield 38, 3) := by decide +kernel
theorem dX7_weighAgain_55 : decode cX7_weighAgain 55 = .ok (.iload_n 3, 1) := by decide +kernel
theorem dX7_weighAgain_56 : decode cX7_weighAgain 56 = .ok (.invokevirtual 225, 3) := by decide +kernel
theorem dX7_weighAgain_59 : decode cX7_weighAgain 59 = .ok (.return_, 1) := by decide +kernel
theorem dX7_alikeWith_0 : decode cX7_alikeWith 0 = .ok (.aload_n 0, 1) := by decide +kernel
theorem dX7_alikeWith_1 : decode cX7_alikeWith 1 = .ok (.getfield 62, 3) := by decide +kernel
theorem dX7_alikeWith_4 : decode cX7_alikeWith 4 = .ok (.iload_n 1, 1) := by decide +kernel
theorem dX7_alikeWith_5 : decode cX7_alikeWith 5 = .ok (.invokevirtual 184, 3) := by decide +kernel
theorem dX7_alikeWith_8 : decode cX7_alikeWith 8 = .ok (.istore_n 2, 1) := by decide +kernel
theorem dX7_alikeWith_9 : decode cX7_alikeWith 9 = .ok (.iconst 0, 1) := by decide +kernel
theorem dX7_alikeWith_10 : decode cX7_alikeWith 10 = .ok (.istore_n 3, 1) := by decide +kernel
theorem dX7_alikeWith_11 : decode cX7_alikeWith 11 = .ok (.iconst 0, 1) := by decide +kernel
theorem dX7_alikeWith_12 : decode cX7_alikeWith 12 = .ok (.istore 4, 2) := by decide +kernel
theorem dX7_alikeWith_14 : decode cX7_alikeWith 14 = .ok (.iload 4, 2) := by decide +kernel
theorem dX7_alikeWith_16 : decode cX7_alikeWith 16 = .ok (.aload_n 0, 1) := by decide +kernel
theorem dX7_alikeWith_17 : decode cX7_alikeWith 17 = .ok (.getfield 73, 3) := by decide +kernel
theorem dX7_alikeWith_20 : decode cX7_alikeWith 20 = .ok (.if_icmp .ge 33, 3) := by decide +kernel
theorem dX7_alikeWith_23 : decode cX7_alikeWith 23 = .ok (.iload_n 2, 1) := by decide +kernel
theorem dX7_alikeWith_24 : decode cX7_alikeWith 24 = .ok (.ifCond .eq 23, 3) := by decide +kernel
theorem dX7_alikeWith_27 : decode cX7_alikeWith 27 = .ok (.aload_n 0, 1) := by decide +kernel
theorem dX7_alikeWith_28 : decode cX7_alikeWith 28 = .ok (.getfield 62, 3) := by decide +kernel
theorem dX7_alikeWith_31 : decode cX7_alikeWith 31 = .ok (.iload 4, 2) := by decide +kernel
theorem dX7_alikeWith_33 : decode cX7_alikeWith 33 = .ok (.invokevirtual 184, 3) := by decide +kernel
theorem dX7_alikeWith_36 : decode cX7_alikeWith 36 = .ok (.iload_n 2, 1) := by decide +kernel
theorem dX7_alikeWith_37 : decode cX7_alikeWith 37 = .ok (.if_icmp .ne 10, 3) := by decide +kernel
theorem dX7_alikeWith_40 : decode cX7_alikeWith 40 = .ok (.iload_n 3, 1) := by decide +kernel
theorem dX7_alikeWith_41 : decode cX7_alikeWith 41 = .ok (.iconst 1, 1) := by decide +kernel
theorem dX7_alikeWith_42 : decode cX7_alikeWith 42 = .ok (.iload 4, 2) := by decide +kernel
theorem dX7_alikeWith_44 : decode cX7_alikeWith 44 = .ok (.ishl, 1) := by decide +kernel
theorem dX7_alikeWith_45 : decode cX7_alikeWith 45 = .ok (.ior, 1) := by decide +kernel
theorem dX7_alikeWith_46 : decode cX7_alikeWith 46 = .ok (.istore_n 3, 1) := by decide +kernel
theorem dX7_alikeWith_47 : decode cX7_alikeWith 47 = .ok (.iinc 4 1, 3) := by decide +kernel
theorem dX7_alikeWith_50 : decode cX7_alikeWith 50 = .ok (.goto (-36), 3) := by decide +kernel
theorem dX7_alikeWith_53 : decode cX7_alikeWith 53 = .ok (.iload_n 3, 1) := by decide +kernel
theorem dX7_alikeWith_54 : decode cX7_alikeWith 54 = .ok (.ireturn, 1) := by decide +kernel
theorem dX7_alikePairs_0 : decode cX7_alikePairs 0 = .ok (.iconst 0, 1) := by decide +kernel
theorem dX7_alikePairs_1 : decode cX7_alikePairs 1 = .ok (.istore_n 1, 1) := by decide +kernel
theorem dX7_alikePairs_2 : decode cX7_alikePairs 2 = .ok (.iconst 0, 1) := by decide +kernel
theorem dX7_alikePairs_3 : decode cX7_alikePairs 3 = .ok (.istore_n 2, 1) := by decide +kernel
theorem dX7_alikePairs_4 : decode cX7_alikePairs 4 = .ok (.iload_n 2, 1) := by decide +kernel
theorem dX7_alikePairs_5 : decode cX7_alikePairs 5 = .ok (.aload_n 0, 1) := by decide +kernel
theorem dX7_alikePairs_6 : decode cX7_alikePairs 6 = .ok (.getfield 73, 3) := by decide +kernel
theorem dX7_alikePairs_9 : decode cX7_alikePairs 9 = .ok (.if_icmp .ge 24, 3) := by decide +kernel
theorem dX7_alikePairs_12 : decode cX7_alikePairs 12 = .ok (.iload_n 1, 1) := by decide +kernel
theorem dX7_alikePairs_13 : decode cX7_alikePairs 13 = .ok (.aload_n 0, 1) := by decide +kernel
theorem dX7_alikePairs_14 : decode cX7_alikePairs 14 = .ok (.iload_n 2, 1) := by decide +kernel
theorem dX7_alikePairs_15 : decode cX7_alikePairs 15 = .ok (.invokevirtual 228, 3) := by decide +kernel
theorem dX7_alikePairs_18 : decode cX7_alikePairs 18 = .ok (.iload_n 2, 1) := by decide +kernel
theorem dX7_alikePairs_19 : decode cX7_alikePairs 19 = .ok (.iconst 1, 1) := by decide +kernel
theorem dX7_alikePairs_20 : decode cX7_alikePairs 20 = .ok (.iadd, 1) := by decide +kernel
theorem dX7_alikePairs_21 : decode cX7_alikePairs 21 = .ok (.ishr, 1) := by decide +kernel
theorem dX7_alikePairs_22 : decode cX7_alikePairs 22 = .ok (.invokestatic 138, 3) := by decide +kernel
theorem dX7_alikePairs_25 : decode cX7_alikePairs 25 = .ok (.iadd, 1) := by decide +kernel
theorem dX7_alikePairs_26 : decode cX7_alikePairs 26 = .ok (.istore_n 1, 1) := by decide +kernel
theorem dX7_alikePairs_27 : decode cX7_alikePairs 27 = .ok (.iinc 2 1, 3) := by decide +kernel
theorem dX7_alikePairs_30 : decode cX7_alikePairs 30 = .ok (.goto (-26), 3) := by decide +kernel
theorem dX7_alikePairs_33 : decode cX7_alikePairs 33 = .ok (.iload_n 1, 1) := by decide +kernel
theorem dX7_alikePairs_34 : decode cX7_alikePairs 34 = .ok (.ireturn, 1) := by decide +kernel
theorem dX7_greatestRing_0 : decode cX7_greatestRing 0 = .ok (.iconst 0, 1) := by decide +kernel
theorem dX7_greatestRing_1 : decode cX7_greatestRing 1 = .ok (.istore_n 1, 1) := by decide +kernel
theorem dX7_greatestRing_2 : decode cX7_greatestRing 2 = .ok (.iconst 0, 1) := by decide +kernel
theorem dX7_greatestRing_3 : decode cX7_greatestRing 3 = .ok (.istore_n 2, 1) := by decide +kernel
theorem dX7_greatestRing_4 : decode cX7_greatestRing 4 = .ok (.iload_n 2, 1) := by decide +kernel
theorem dX7_greatestRing_5 : decode cX7_greatestRing 5 = .ok (.aload_n 0, 1) := by decide +kernel
theorem dX7_greatestRing_6 : decode cX7_greatestRing 6 = .ok (.getfield 73, 3) := by decide +kernel
theorem dX7_greatestRing_9 : decode cX7_greatestRing 9 = .ok (.if_icmp .ge 54, 3) := by decide +kernel
theorem dX7_greatestRing_12 : decode cX7_greatestRing 12 = .ok (.aload_n 0, 1) := by decide +kernel
theorem dX7_greatestRing_13 : decode cX7_greatestRing 13 = .ok (.iload_n 2, 1) := by decide +kernel
theorem dX7_greatestRing_14 : decode cX7_greatestRing 14 = .ok (.invokevirtual 228, 3) := by decide +kernel
theorem dX7_greatestRing_17 : decode cX7_greatestRing 17 = .ok (.istore_n 3, 1) := by decide +kernel
theorem dX7_greatestRing_18 : decode cX7_greatestRing 18 = .ok (.iload_n 3, 1) := by decide +kernel
theorem dX7_greatestRing_19 : decode cX7_greatestRing 19 = .ok (.invokestatic 138, 3) := by decide +kernel
theorem dX7_greatestRing_22 : decode cX7_greatestRing 22 = .ok (.istore 4, 2) := by decide +kernel
theorem dX7_greatestRing_24 : decode cX7_greatestRing 24 = .ok (.iload_n 1, 1) := by decide +kernel
theorem dX7_greatestRing_25 : decode cX7_greatestRing 25 = .ok (.invokestatic 138, 3) := by decide +kernel
theorem dX7_greatestRing_28 : decode cX7_greatestRing 28 = .ok (.istore 5, 2) := by decide +kernel
theorem dX7_greatestRing_30 : decode cX7_greatestRing 30 = .ok (.iload 4, 2) := by decide +kernel
theorem dX7_greatestRing_32 : decode cX7_greatestRing 32 = .ok (.iconst 2, 1) := by decide +kernel
theorem dX7_greatestRing_33 : decode cX7_greatestRing 33 = .ok (.if_icmp .lt 24, 3) := by decide +kernel
theorem dX7_greatestRing_36 : decode cX7_greatestRing 36 = .ok (.iload 4, 2) := by decide +kernel
theorem dX7_greatestRing_38 : decode cX7_greatestRing 38 = .ok (.iload 5, 2) := by decide +kernel
theorem dX7_greatestRing_40 : decode cX7_greatestRing 40 = .ok (.if_icmp .gt 15, 3) := by decide +kernel
theorem dX7_greatestRing_43 : decode cX7_greatestRing 43 = .ok (.iload 4, 2) := by decide +kernel
theorem dX7_greatestRing_45 : decode cX7_greatestRing 45 = .ok (.iload 5, 2) := by decide +kernel
theorem dX7_greatestRing_47 : decode cX7_greatestRing 47 = .ok (.if_icmp .ne 10, 3) := by decide +kernel
theorem dX7_greatestRing_50 : decode cX7_greatestRing 50 = .ok (.iload_n 3, 1) := by decide +kernel
theorem dX7_greatestRing_51 : decode cX7_greatestRing 51 = .ok (.iload_n 1, 1) := by decide +kernel
theorem dX7_greatestRing_52 : decode cX7_greatestRing 52 = .ok (.if_icmp .ge 5, 3) := by decide +kernel
theorem dX7_greatestRing_55 : decode cX7_greatestRing 55 = .ok (.iload_n 3, 1) := by decide +kernel
theorem dX7_greatestRing_56 : decode cX7_greatestRing 56 = .ok (.istore_n 1, 1) := by decide +kernel
theorem dX7_greatestRing_57 : decode cX7_greatestRing 57 = .ok (.iinc 2 1, 3) := by decide +kernel
theorem dX7_greatestRing_60 : decode cX7_greatestRing 60 = .ok (.goto (-56), 3) := by decide +kernel
theorem dX7_greatestRing_63 : decode cX7_greatestRing 63 = .ok (.iload_n 1, 1) := by decide +kernel
theorem dX7_greatestRing_64 : decode cX7_greatestRing 64 = .ok (.ireturn, 1) := by decide +kernel
theorem dX7_parted_0 : decode cX7_parted 0 = .ok (.iload_n 1, 1) := by decide +kernel
theorem dX7_parted_1 : decode cX7_parted 1 = .ok (.invokestatic 231, 3) := by decide +kernel
theorem dX7_parted_4 : decode cX7_parted 4 = .ok (.ifCond .eq 10, 3) := by decide +kernel
theorem dX7_parted_7 : decode cX7_parted 7 = .ok (.iload_n 2, 1) := by decide +kernel
theorem dX7_parted_8 : decode cX7_parted 8 = .ok (.invokestatic 84, 3) := by decide +kernel
theorem dX7_parted_11 : decode cX7_parted 11 = .ok (.ifCond .ne 6, 3) := by decide +kernel
theorem dX7_parted_14 : decode cX7_parted 14 = .ok (.bipush (-2), 2) := by decide +kernel
theorem dX7_parted_16 : decode cX7_parted 16 = .ok (.ireturn, 1) := by decide +kernel
theorem dX7_parted_17 : decode cX7_parted 17 = .ok (.iload_n 1, 1) := by decide +kernel
theorem dX7_parted_18 : decode cX7_parted 18 = .ok (.ifCond .ne 5, 3) := by decide +kernel
theorem dX7_parted_21 : decode cX7_parted 21 = .ok (.iconst 0, 1) := by decide +kernel
theorem dX7_parted_22 : decode cX7_parted 22 = .ok (.ireturn, 1) := by decide +kernel
theorem dX7_parted_23 : decode cX7_parted 23 = .ok (.aload_n 0, 1) := by decide +kernel
theorem dX7_parted_24 : decode cX7_parted 24 = .ok (.getfield 62, 3) := by decide +kernel
theorem dX7_parted_27 : decode cX7_parted 27 = .ok (.getfield 104, 3) := by decide +kernel
theorem dX7_parted_30 : decode cX7_parted 30 = .ok (.iconst 3, 1) := by decide +kernel
theorem dX7_parted_31 : decode cX7_parted 31 = .ok (.sipush 999, 3) := by decide +kernel
theorem dX7_parted_34 : decode cX7_parted 34 = .ok (.invokevirtual 213, 3) := by decide +kernel
theorem dX7_parted_37 : decode cX7_parted 37 = .ok (.iconst 1, 1) := by decide +kernel
theorem dX7_parted_38 : decode cX7_parted 38 = .ok (.isub, 1) := by decide +kernel
theorem dX7_parted_39 : decode cX7_parted 39 = .ok (.istore_n 3, 1) := by decide +kernel
theorem dX7_parted_40 : decode cX7_parted 40 = .ok (.iload_n 3, 1) := by decide +kernel
theorem dX7_parted_41 : decode cX7_parted 41 = .ok (.iconst 1, 1) := by decide +kernel
theorem dX7_parted_42 : decode cX7_parted 42 = .ok (.if_icmp .ge 6, 3) := by decide +kernel
theorem dX7_parted_45 : decode cX7_parted 45 = .ok (.bipush (-5), 2) := by decide +kernel
theorem dX7_parted_47 : decode cX7_parted 47 = .ok (.ireturn, 1) := by decide +kernel
theorem dX7_parted_48 : decode cX7_parted 48 = .ok (.iload_n 1, 1) := by decide +kernel
theorem dX7_parted_49 : decode cX7_parted 49 = .ok (.iload_n 3, 1) := by decide +kernel
theorem dX7_parted_50 : decode cX7_parted 50 = .ok (.iadd, 1) := by decide +kernel
theorem dX7_parted_51 : decode cX7_parted 51 = .ok (.iconst 1, 1) := by decide +kernel
theorem dX7_parted_52 : decode cX7_parted 52 = .ok (.isub, 1) := by decide +kernel
theorem dX7_parted_53 : decode cX7_parted 53 = .ok (.iload_n 3, 1) := by decide +kernel
theorem dX7_parted_54 : decode cX7_parted 54 = .ok (.idiv, 1) := by decide +kernel
theorem dX7_parted_55 : decode cX7_parted 55 = .ok (.istore 4, 2) := by decide +kernel
theorem dX7_parted_57 : decode cX7_parted 57 = .ok (.iload 4, 2) := by decide +kernel
theorem dX7_parted_59 : decode cX7_parted 59 = .ok (.aload_n 0, 1) := by decide +kernel
theorem dX7_parted_60 : decode cX7_parted 60 = .ok (.iload_n 2, 1) := by decide +kernel
theorem dX7_parted_61 : decode cX7_parted 61 = .ok (.invokevirtual 234, 3) := by decide +kernel
theorem dX7_parted_64 : decode cX7_parted 64 = .ok (.if_icmp .gt 8, 3) := by decide +kernel
theorem dX7_parted_67 : decode cX7_parted 67 = .ok (.iload 4, 2) := by decide +kernel
theorem dX7_parted_69 : decode cX7_parted 69 = .ok (.goto 5, 3) := by decide +kernel
theorem dX7_parted_72 : decode cX7_parted 72 = .ok (.bipush (-5), 2) := by decide +kernel
theorem dX7_parted_74 : decode cX7_parted 74 = .ok (.ireturn, 1) := by decide +kernel
theorem dX7_watch_0 : decode cX7_watch 0 = .ok (.iload_n 1, 1) := by decide +kernel
theorem dX7_watch_1 : decode cX7_watch 1 = .ok (.invokestatic 231, 3) := by decide +kernel
theorem dX7_watch_4 : decode cX7_watch 4 = .ok (.ifCond .eq 20, 3) := by decide +kernel
theorem dX7_watch_7 : decode cX7_watch 7 = .ok (.iload_n 2, 1) := by decide +kernel
theorem dX7_watch_8 : decode cX7_watch 8 = .ok (.invokestatic 84, 3) := by decide +kernel
theorem dX7_watch_11 : decode cX7_watch 11 = .ok (.ifCond .eq 13, 3) := by decide +kernel
theorem dX7_watch_14 : decode cX7_watch 14 = .ok (.iload_n 3, 1) := by decide +kernel
theorem dX7_watch_15 : decode cX7_watch 15 = .ok (.ifCond .lt 9, 3) := by decide +kernel
theorem dX7_watch_18 : decode cX7_watch 18 = .ok (.iload_n 3, 1) := by decide +kernel
theorem dX7_watch_19 : decode cX7_watch 19 = .ok (.bipush 8, 2) := by decide +kernel
theorem dX7_watch_21 : decode cX7_watch 21 = .ok (.if_icmp .le 6, 3) := by decide +kernel
theorem dX7_watch_24 : decode cX7_watch 24 = .ok (.bipush (-2), 2) := by decide +kernel
theorem dX7_watch_26 : decode cX7_watch 26 = .ok (.ireturn, 1) := by decide +kernel
theorem dX7_watch_27 : decode cX7_watch 27 = .ok (.iload_n 1, 1) := by decide +kernel
theorem dX7_watch_28 : decode cX7_watch 28 = .ok (.ifCond .ne 5, 3) := by decide +kernel
theorem dX7_watch_31 : decode cX7_watch 31 = .ok (.iconst 1, 1) := by decide +kernel
theorem dX7_watch_32 : decode cX7_watch 32 = .ok (.ireturn, 1) := by decide +kernel
theorem dX7_watch_33 : decode cX7_watch 33 = .ok (.iload_n 3, 1) := by decide +kernel
theorem dX7_watch_34 : decode cX7_watch 34 = .ok (.aload_n 0, 1) := by decide +kernel
theorem dX7_watch_35 : decode cX7_watch 35 = .ok (.iload_n 2, 1) := by decide +kernel
theorem dX7_watch_36 : decode cX7_watch 36 = .ok (.invokevirtual 234, 3) := by decide +kernel
theorem dX7_watch_39 : decode cX7_watch 39 = .ok (.invokestatic 237, 3) := by decide +kernel
theorem dX7_watch_42 : decode cX7_watch 42 = .ok (.istore 4, 2) := by decide +kernel
theorem dX7_watch_44 : decode cX7_watch 44 = .ok (.iload 4, 2) := by decide +kernel
theorem dX7_watch_46 : decode cX7_watch 46 = .ok (.iconst 1, 1) := by decide +kernel
theorem dX7_watch_47 : decode cX7_watch 47 = .ok (.if_icmp .ge 6, 3) := by decide +kernel
theorem dX7_watch_50 : decode cX7_watch 50 = .ok (.bipush (-5), 2) := by decide +kernel
theorem dX7_watch_52 : decode cX7_watch 52 = .ok (.ireturn, 1) := by decide +kernel
theorem dX7_watch_53 : decode cX7_watch 53 = .ok (.iload_n 1, 1) := by decide +kernel
theorem dX7_watch_54 : decode cX7_watch 54 = .ok (.iload 4, 2) := by decide +kernel
theorem dX7_watch_56 : decode cX7_watch 56 = .ok (.iadd, 1) := by decide +kernel
theorem dX7_watch_57 : decode cX7_watch 57 = .ok (.iconst 1, 1) := by decide +kernel
theorem dX7_watch_58 : decode cX7_watch 58 = .ok (.isub, 1) := by decide +kernel
theorem dX7_watch_59 : decode cX7_watch 59 = .ok (.iload 4, 2) := by decide +kernel
theorem dX7_watch_61 : decode cX7_watch 61 = .ok (.idiv, 1) := by decide +kernel
theorem dX7_watch_62 : decode cX7_watch 62 = .ok (.istore 5, 2) := by decide +kernel
theorem dX7_watch_64 : decode cX7_watch 64 = .ok (.iload 5, 2) := by decide +kernel
theorem dX7_watch_66 : decode cX7_watch 66 = .ok (.sipush 999, 3) := by decide +kernel
theorem dX7_watch_69 : decode cX7_watch 69 = .ok (.if_icmp .ge 10, 3) := by decide +kernel
theorem dX7_watch_72 : decode cX7_watch 72 = .ok (.iload 5, 2) := by decide +kernel
theorem dX7_watch_74 : decode cX7_watch 74 = .ok (.iconst 1, 1) := by decide +kernel
theorem dX7_watch_75 : decode cX7_watch 75 = .ok (.iadd, 1) := by decide +kernel
theorem dX7_watch_76 : decode cX7_watch 76 = .ok (.goto 5, 3) := by decide +kernel
theorem dX7_watch_79 : decode cX7_watch 79 = .ok (.bipush (-5), 2) := by decide +kernel
theorem dX7_watch_81 : decode cX7_watch 81 = .ok (.ireturn, 1) := by decide +kernel
theorem dX7_ask_0 : decode cX7_ask 0 = .ok (.aload_n 0, 1) := by decide +kernel
theorem dX7_ask_1 : decode cX7_ask 1 = .ok (.getfield 73, 3) := by decide +kernel
theorem dX7_ask_4 : decode cX7_ask 4 = .ok (.ifCond .ne 5, 3) := by decide +kernel
theorem dX7_ask_7 : decode cX7_ask 7 = .ok (.iconst (-1), 1) := by decide +kernel
theorem dX7_ask_8 : decode cX7_ask 8 = .ok (.ireturn, 1) := by decide +kernel
theorem dX7_ask_9 : decode cX7_ask 9 = .ok (.iload_n 1, 1) := by decide +kernel
theorem dX7_ask_10 : decode cX7_ask 10 = .ok (.invokestatic 84, 3) := by decide +kernel
theorem dX7_ask_13 : decode cX7_ask 13 = .ok (.ifCond .ne 6, 3) := by decide +kernel
theorem dX7_ask_16 : decode cX7_ask 16 = .ok (.bipush (-2), 2) := by decide +kernel
theorem dX7_ask_18 : decode cX7_ask 18 = .ok (.ireturn, 1) := by decide +kernel
theorem dX7_ask_19 : decode cX7_ask 19 = .ok (.aload_n 0, 1) := by decide +kernel
theorem dX7_ask_20 : decode cX7_ask 20 = .ok (.invokevirtual 118, 3) := by decide +kernel
theorem dX7_ask_23 : decode cX7_ask 23 = .ok (.aload_n 0, 1) := by decide +kernel
theorem dX7_ask_24 : decode cX7_ask 24 = .ok (.getfield 31, 3) := by decide +kernel
theorem dX7_ask_27 : decode cX7_ask 27 = .ok (.iload_n 1, 1) := by decide +kernel
theorem dX7_ask_28 : decode cX7_ask 28 = .ok (.invokevirtual 242, 3) := by decide +kernel
theorem dX7_ask_31 : decode cX7_ask 31 = .ok (.istore_n 2, 1) := by decide +kernel
theorem dX7_ask_32 : decode cX7_ask 32 = .ok (.iconst 0, 1) := by decide +kernel
theorem dX7_ask_33 : decode cX7_ask 33 = .ok (.istore_n 3, 1) := by decide +kernel
theorem dX7_ask_34 : decode cX7_ask 34 = .ok (.iconst (-1), 1) := by decide +kernel
theorem dX7_ask_35 : decode cX7_ask 35 = .ok (.istore 4, 2) := by decide +kernel
theorem dX7_ask_37 : decode cX7_ask 37 = .ok (.iconst 0, 1) := by decide +kernel
theorem dX7_ask_38 : decode cX7_ask 38 = .ok (.istore 5, 2) := by decide +kernel
theorem dX7_ask_40 : decode cX7_ask 40 = .ok (.iload 5, 2) := by decide +kernel
theorem dX7_ask_42 : decode cX7_ask 42 = .ok (.aload_n 0, 1) := by decide +kernel
theorem dX7_ask_43 : decode cX7_ask 43 = .ok (.getfield 73, 3) := by decide +kernel
theorem dX7_ask_46 : decode cX7_ask 46 = .ok (.if_icmp .ge 62, 3) := by decide +kernel
theorem dX7_ask_49 : decode cX7_ask 49 = .ok (.aload_n 0, 1) := by decide +kernel
theorem dX7_ask_50 : decode cX7_ask 50 = .ok (.getfield 31, 3) := by decide +kernel
theorem dX7_ask_53 : decode cX7_ask 53 = .ok (.iconst 1, 1) := by decide +kernel
theorem dX7_ask_54 : decode cX7_ask 54 = .ok (.iload 5, 2) := by decide +kernel
theorem dX7_ask_56 : decode cX7_ask 56 = .ok (.ishl, 1) := by decide +kernel
theorem dX7_ask_57 : decode cX7_ask 57 = .ok (.invokevirtual 143, 3) := by decide +kernel
theorem dX7_ask_60 : decode cX7_ask 60 = .ok (.iload_n 2, 1) := by decide +kernel
theorem dX7_ask_61 : decode cX7_ask 61 = .ok (.iconst 1, 1) := by decide +kernel
theorem dX7_ask_62 : decode cX7_ask 62 = .ok (.iload 5, 2) := by decide +kernel
theorem dX7_ask_64 : decode cX7_ask 64 = .ok (.ishl, 1) := by decide +kernel
theorem dX7_ask_65 : decode cX7_ask 65 = .ok (.iconst (-1), 1) := by decide +kernel
theorem dX7_ask_66 : decode cX7_ask 66 = .ok (.ixor, 1) := by decide +kernel
theorem dX7_ask_67 : decode cX7_ask 67 = .ok (.iand, 1) := by decide +kernel
theorem dX7_ask_68 : decode cX7_ask 68 = .ok (.istore 6, 2) := by decide +kernel
theorem dX7_ask_70 : decode cX7_ask 70 = .ok (.iload 6, 2) := by decide +kernel
theorem dX7_ask_72 : decode cX7_ask 72 = .ok (.aload_n 0, 1) := by decide +kernel
theorem dX7_ask_73 : decode cX7_ask 73 = .ok (.getfield 31, 3) := by decide +kernel
theorem dX7_ask_76 : decode cX7_ask 76 = .ok (.iload_n 1, 1) := by decide +kernel
theorem dX7_ask_77 : decode cX7_ask 77 = .ok (.invokevirtual 242, 3) := by decide +kernel
theorem dX7_ask_80 : decode cX7_ask 80 = .ok (.iconst (-1), 1) := by decide +kernel
theorem dX7_ask_81 : decode cX7_ask 81 = .ok (.ixor, 1) := by decide +kernel
theorem dX7_ask_82 : decode cX7_ask 82 = .ok (.iand, 1) := by decide +kernel
theorem dX7_ask_83 : decode cX7_ask 83 = .ok (.invokestatic 138, 3) := by decide +kernel
theorem dX7_ask_86 : decode cX7_ask 86 = .ok (.istore 7, 2) := by decide +kernel
theorem dX7_ask_88 : decode cX7_ask 88 = .ok (.iload 7, 2) := by decide +kernel
theorem dX7_ask_90 : decode cX7_ask 90 = .ok (.iload 4, 2) := by decide +kernel
theorem dX7_ask_92 : decode cX7_ask 92 = .ok (.if_icmp .le 10, 3) := by decide +kernel
theorem dX7_ask_95 : decode cX7_ask 95 = .ok (.iload 7, 2) := by decide +kernel
theorem dX7_ask_97 : decode cX7_ask 97 = .ok (.istore 4, 2) := by decide +kernel
theorem dX7_ask_99 : decode cX7_ask 99 = .ok (.iload 5, 2) := by decide +kernel
theorem dX7_ask_101 : decode cX7_ask 101 = .ok (.istore_n 3, 1) := by decide +kernel
theorem dX7_ask_102 : decode cX7_ask 102 = .ok (.iinc 5 1, 3) := by decide +kernel
theorem dX7_ask_105 : decode cX7_ask 105 = .ok (.goto (-65), 3) := by decide +kernel
theorem dX7_ask_108 : decode cX7_ask 108 = .ok (.iload_n 3, 1) := by decide +kernel
theorem dX7_ask_109 : decode cX7_ask 109 = .ok (.ireturn, 1) := by decide +kernel
theorem dX7_blank_0 : decode cX7_blank 0 = .ok (.iload_n 1, 1) := by decide +kernel
theorem dX7_blank_1 : decode cX7_blank 1 = .ok (.iconst (-1), 1) := by decide +kernel
theorem dX7_blank_2 : decode cX7_blank 2 = .ok (.if_icmp .ne 13, 3) := by decide +kernel
theorem dX7_blank_5 : decode cX7_blank 5 = .ok (.aload_n 0, 1) := by decide +kernel
theorem dX7_blank_6 : decode cX7_blank 6 = .ok (.getfield 62, 3) := by decide +kernel
theorem dX7_blank_9 : decode cX7_blank 9 = .ok (.iconst 0, 1) := by decide +kernel
theorem dX7_blank_10 : decode cX7_blank 10 = .ok (.putfield 245, 3) := by decide +kernel
theorem dX7_blank_13 : decode cX7_blank 13 = .ok (.iconst 0, 1) := by decide +kernel
theorem dX7_blank_14 : decode cX7_blank 14 = .ok (.ireturn, 1) := by decide +kernel
theorem dX7_blank_15 : decode cX7_blank 15 = .ok (.iload_n 1, 1) := by decide +kernel
theorem dX7_blank_16 : decode cX7_blank 16 = .ok (.invokestatic 69, 3) := by decide +kernel
theorem dX7_blank_19 : decode cX7_blank 19 = .ok (.ifCond .ne 6, 3) := by decide +kernel
theorem dX7_blank_22 : decode cX7_blank 22 = .ok (.bipush (-2), 2) := by decide +kernel
theorem dX7_blank_24 : decode cX7_blank 24 = .ok (.ireturn, 1) := by decide +kernel
theorem dX7_blank_25 : decode cX7_blank 25 = .ok (.aload_n 0, 1) := by decide +kernel
theorem dX7_blank_26 : decode cX7_blank 26 = .ok (.getfield 62, 3) := by decide +kernel
theorem dX7_blank_29 : decode cX7_blank 29 = .ok (.getfield 245, 3) := by decide +kernel
theorem dX7_blank_32 : decode cX7_blank 32 = .ok (.bipush 6, 2) := by decide +kernel
theorem dX7_blank_34 : decode cX7_blank 34 = .ok (.if_icmp .lt 6, 3) := by decide +kernel
theorem dX7_blank_37 : decode cX7_blank 37 = .ok (.bipush (-4), 2) := by decide +kernel
theorem dX7_blank_39 : decode cX7_blank 39 = .ok (.ireturn, 1) := by decide +kernel
theorem dX7_blank_40 : decode cX7_blank 40 = .ok (.aload_n 0, 1) := by decide +kernel
theorem dX7_blank_41 : decode cX7_blank 41 = .ok (.getfield 62, 3) := by decide +kernel
theorem dX7_blank_44 : decode cX7_blank 44 = .ok (.getfield 248, 3) := by decide +kernel
theorem dX7_blank_47 : decode cX7_blank 47 = .ok (.aload_n 0, 1) := by decide +kernel
theorem dX7_blank_48 : decode cX7_blank 48 = .ok (.getfield 62, 3) := by decide +kernel
theorem dX7_blank_51 : decode cX7_blank 51 = .ok (.getfield 245, 3) := by decide +kernel
theorem dX7_blank_54 : decode cX7_blank 54 = .ok (.iload_n 1, 1) := by decide +kernel
theorem dX7_blank_55 : decode cX7_blank 55 = .ok (.iastore, 1) := by decide +kernel
theorem dX7_blank_56 : decode cX7_blank 56 = .ok (.aload_n 0, 1) := by decide +kernel
theorem dX7_blank_57 : decode cX7_blank 57 = .ok (.getfield 62, 3) := by decide +kernel
theorem dX7_blank_60 : decode cX7_blank 60 = .ok (.dup, 1) := by decide +kernel
theorem dX7_blank_61 : decode cX7_blank 61 = .ok (.getfield 245, 3) := by decide +kernel
theorem dX7_blank_64 : decode cX7_blank 64 = .ok (.iconst 1, 1) := by decide +kernel
theorem dX7_blank_65 : decode cX7_blank 65 = .ok (.iadd, 1) := by decide +kernel
theorem dX7_blank_66 : decode cX7_blank 66 = .ok (.putfield 245, 3) := by decide +kernel
theorem dX7_blank_69 : decode cX7_blank 69 = .ok (.aload_n 0, 1) := by decide +kernel
theorem dX7_blank_70 : decode cX7_blank 70 = .ok (.getfield 62, 3) := by decide +kernel
theorem dX7_blank_73 : decode cX7_blank 73 = .ok (.getfield 245, 3) := by decide +kernel
theorem dX7_blank_76 : decode cX7_blank 76 = .ok (.ireturn, 1) := by decide +kernel
theorem dX7_fills_0 : decode cX7_fills 0 = .ok (.iload_n 1, 1) := by decide +kernel
theorem dX7_fills_1 : decode cX7_fills 1 = .ok (.iconst (-1), 1) := by decide +kernel
theorem dX7_fills_2 : decode cX7_fills 2 = .ok (.if_icmp .ne 8, 3) := by decide +kernel
theorem dX7_fills_5 : decode cX7_fills 5 = .ok (.aload_n 0, 1) := by decide +kernel
theorem dX7_fills_6 : decode cX7_fills 6 = .ok (.invokevirtual 251, 3) := by decide +kernel
theorem dX7_fills_9 : decode cX7_fills 9 = .ok (.ireturn, 1) := by decide +kernel
theorem dX7_fills_10 : decode cX7_fills 10 = .ok (.aload_n 0, 1) := by decide +kernel
theorem dX7_fills_11 : decode cX7_fills 11 = .ok (.iload_n 1, 1) := by decide +kernel
theorem dX7_fills_12 : decode cX7_fills 12 = .ok (.invokevirtual 254, 3) := by decide +kernel
theorem dX7_fills_15 : decode cX7_fills 15 = .ok (.ifCond .eq 19, 3) := by decide +kernel
theorem dX7_fills_18 : decode cX7_fills 18 = .ok (.aload_n 0, 1) := by decide +kernel
theorem dX7_fills_19 : decode cX7_fills 19 = .ok (.aload_n 0, 1) := by decide +kernel
theorem dX7_fills_20 : decode cX7_fills 20 = .ok (.getfield 62, 3) := by decide +kernel
theorem dX7_fills_23 : decode cX7_fills 23 = .ok (.getfield 248, 3) := by decide +kernel
theorem dX7_fills_26 : decode cX7_fills 26 = .ok (.iload_n 1, 1) := by decide +kernel
theorem dX7_fills_27 : decode cX7_fills 27 = .ok (.iaload, 1) := by decide +kernel
theorem dX7_fills_28 : decode cX7_fills 28 = .ok (.invokevirtual 257, 3) := by decide +kernel
theorem dX7_fills_31 : decode cX7_fills 31 = .ok (.goto 4, 3) := by decide +kernel
theorem dX7_fills_34 : decode cX7_fills 34 = .ok (.iconst (-1), 1) := by decide +kernel
theorem dX7_fills_35 : decode cX7_fills 35 = .ok (.ireturn, 1) := by decide +kernel
theorem dX7_filled_0 : decode cX7_filled 0 = .ok (.aload_n 0, 1) := by decide +kernel
theorem dX7_filled_1 : decode cX7_filled 1 = .ok (.iload_n 1, 1) := by decide +kernel
theorem dX7_filled_2 : decode cX7_filled 2 = .ok (.invokevirtual 254, 3) := by decide +kernel
theorem dX7_filled_5 : decode cX7_filled 5 = .ok (.ifCond .ne 5, 3) := by decide +kernel
theorem dX7_filled_8 : decode cX7_filled 8 = .ok (.iconst (-1), 1) := by decide +kernel
theorem dX7_filled_9 : decode cX7_filled 9 = .ok (.ireturn, 1) := by decide +kernel
theorem dX7_filled_10 : decode cX7_filled 10 = .ok (.aload_n 0, 1) := by decide +kernel
theorem dX7_filled_11 : decode cX7_filled 11 = .ok (.aload_n 0, 1) := by decide +kernel
theorem dX7_filled_12 : decode cX7_filled 12 = .ok (.getfield 62, 3) := by decide +kernel
theorem dX7_filled_15 : decode cX7_filled 15 = .ok (.getfield 248, 3) := by decide +kernel
theorem dX7_filled_18 : decode cX7_filled 18 = .ok (.iload_n 1, 1) := by decide +kernel
theorem dX7_filled_19 : decode cX7_filled 19 = .ok (.iaload, 1) := by decide +kernel
theorem dX7_filled_20 : decode cX7_filled 20 = .ok (.invokevirtual 257, 3) := by decide +kernel
theorem dX7_filled_23 : decode cX7_filled 23 = .ok (.istore_n 2, 1) := by decide +kernel
theorem dX7_filled_24 : decode cX7_filled 24 = .ok (.iload_n 2, 1) := by decide +kernel
theorem dX7_filled_25 : decode cX7_filled 25 = .ok (.invokestatic 138, 3) := by decide +kernel
theorem dX7_filled_28 : decode cX7_filled 28 = .ok (.iconst 1, 1) := by decide +kernel
theorem dX7_filled_29 : decode cX7_filled 29 = .ok (.if_icmp .ne 10, 3) := by decide +kernel
theorem dX7_filled_32 : decode cX7_filled 32 = .ok (.aload_n 0, 1) := by decide +kernel
theorem dX7_filled_33 : decode cX7_filled 33 = .ok (.invokevirtual 251, 3) := by decide +kernel
theorem dX7_filled_36 : decode cX7_filled 36 = .ok (.ifCond .ne 6, 3) := by decide +kernel
theorem dX7_filled_39 : decode cX7_filled 39 = .ok (.bipush (-5), 2) := by decide +kernel
theorem dX7_filled_41 : decode cX7_filled 41 = .ok (.ireturn, 1) := by decide +kernel
theorem dX7_filled_42 : decode cX7_filled 42 = .ok (.aload_n 0, 1) := by decide +kernel
theorem dX7_filled_43 : decode cX7_filled 43 = .ok (.iload_n 2, 1) := by decide +kernel
theorem dX7_filled_44 : decode cX7_filled 44 = .ok (.invokevirtual 260, 3) := by decide +kernel
theorem dX7_filled_47 : decode cX7_filled 47 = .ok (.ireturn, 1) := by decide +kernel
theorem dX7_knowers_0 : decode cX7_knowers 0 = .ok (.aload_n 0, 1) := by decide +kernel
theorem dX7_knowers_1 : decode cX7_knowers 1 = .ok (.invokevirtual 118, 3) := by decide +kernel
theorem dX7_knowers_4 : decode cX7_knowers 4 = .ok (.aload_n 0, 1) := by decide +kernel
theorem dX7_knowers_5 : decode cX7_knowers 5 = .ok (.getfield 31, 3) := by decide +kernel
theorem dX7_knowers_8 : decode cX7_knowers 8 = .ok (.iload_n 1, 1) := by decide +kernel
theorem dX7_knowers_9 : decode cX7_knowers 9 = .ok (.invokevirtual 242, 3) := by decide +kernel
theorem dX7_knowers_12 : decode cX7_knowers 12 = .ok (.invokestatic 138, 3) := by decide +kernel
theorem dX7_knowers_15 : decode cX7_knowers 15 = .ok (.ireturn, 1) := by decide +kernel
theorem dX7_namesOfLetters_0 : decode cX7_namesOfLetters 0 = .ok (.iconst 0, 1) := by decide +kernel
theorem dX7_namesOfLetters_1 : decode cX7_namesOfLetters 1 = .ok (.istore_n 2, 1) := by decide +kernel
theorem dX7_namesOfLetters_2 : decode cX7_namesOfLetters 2 = .ok (.iconst 0, 1) := by decide +kernel
theorem dX7_namesOfLetters_3 : decode cX7_namesOfLetters 3 = .ok (.istore_n 3, 1) := by decide +kernel
theorem dX7_namesOfLetters_4 : decode cX7_namesOfLetters 4 = .ok (.iload_n 3, 1) := by decide +kernel
theorem dX7_namesOfLetters_5 : decode cX7_namesOfLetters 5 = .ok (.aload_n 0, 1) := by decide +kernel
theorem dX7_namesOfLetters_6 : decode cX7_namesOfLetters 6 = .ok (.getfield 73, 3) := by decide +kernel
theorem dX7_namesOfLetters_9 : decode cX7_namesOfLetters 9 = .ok (.if_icmp .ge 25, 3) := by decide +kernel
theorem dX7_namesOfLetters_12 : decode cX7_namesOfLetters 12 = .ok (.aload_n 0, 1) := by decide +kernel
theorem dX7_namesOfLetters_13 : decode cX7_namesOfLetters 13 = .ok (.getfield 11, 3) := by decide +kernel
theorem dX7_namesOfLetters_16 : decode cX7_namesOfLetters 16 = .ok (.iload_n 3, 1) := by decide +kernel
theorem dX7_namesOfLetters_17 : decode cX7_namesOfLetters 17 = .ok (.iaload, 1) := by decide +kernel
theorem dX7_namesOfLetters_18 : decode cX7_namesOfLetters 18 = .ok (.iload_n 1, 1) := by decide +kernel
theorem dX7_namesOfLetters_19 : decode cX7_namesOfLetters 19 = .ok (.if_icmp .ne 9, 3) := by decide +kernel
theorem dX7_namesOfLetters_22 : decode cX7_namesOfLetters 22 = .ok (.iload_n 2, 1) := by decide +kernel
theorem dX7_namesOfLetters_23 : decode cX7_namesOfLetters 23 = .ok (.iconst 1, 1) := by decide +kernel
theorem dX7_namesOfLetters_24 : decode cX7_namesOfLetters 24 = .ok (.iload_n 3, 1) := by decide +kernel
theorem dX7_namesOfLetters_25 : decode cX7_namesOfLetters 25 = .ok (.ishl, 1) := by decide +kernel
theorem dX7_namesOfLetters_26 : decode cX7_namesOfLetters 26 = .ok (.ior, 1) := by decide +kernel
theorem dX7_namesOfLetters_27 : decode cX7_namesOfLetters 27 = .ok (.istore_n 2, 1) := by decide +kernel
theorem dX7_namesOfLetters_28 : decode cX7_namesOfLetters 28 = .ok (.iinc 3 1, 3) := by decide +kernel
theorem dX7_namesOfLetters_31 : decode cX7_namesOfLetters 31 = .ok (.goto (-27), 3) := by decide +kernel
theorem dX7_namesOfLetters_34 : decode cX7_namesOfLetters 34 = .ok (.iload_n 2, 1) := by decide +kernel
theorem dX7_namesOfLetters_35 : decode cX7_namesOfLetters 35 = .ok (.ireturn, 1) := by decide +kernel
theorem dX7_leastOf_0 : decode cX7_leastOf 0 = .ok (.iconst 0, 1) := by decide +kernel
theorem dX7_leastOf_1 : decode cX7_leastOf 1 = .ok (.istore_n 2, 1) := by decide +kernel
theorem dX7_leastOf_2 : decode cX7_leastOf 2 = .ok (.iload_n 2, 1) := by decide +kernel
theorem dX7_leastOf_3 : decode cX7_leastOf 3 = .ok (.aload_n 0, 1) := by decide +kernel
theorem dX7_leastOf_4 : decode cX7_leastOf 4 = .ok (.getfield 73, 3) := by decide +kernel
theorem dX7_leastOf_7 : decode cX7_leastOf 7 = .ok (.if_icmp .ge 19, 3) := by decide +kernel
theorem dX7_leastOf_10 : decode cX7_leastOf 10 = .ok (.iload_n 1, 1) := by decide +kernel
theorem dX7_leastOf_11 : decode cX7_leastOf 11 = .ok (.iload_n 2, 1) := by decide +kernel
theorem dX7_leastOf_12 : decode cX7_leastOf 12 = .ok (.ishr, 1) := by decide +kernel
theorem dX7_leastOf_13 : decode cX7_leastOf 13 = .ok (.iconst 1, 1) := by decide +kernel
theorem dX7_leastOf_14 : decode cX7_leastOf 14 = .ok (.iand, 1) := by decide +kernel
theorem dX7_leastOf_15 : decode cX7_leastOf 15 = .ok (.ifCond .eq 5, 3) := by decide +kernel
theorem dX7_leastOf_18 : decode cX7_leastOf 18 = .ok (.iload_n 2, 1) := by decide +kernel
theorem dX7_leastOf_19 : decode cX7_leastOf 19 = .ok (.ireturn, 1) := by decide +kernel
theorem dX7_leastOf_20 : decode cX7_leastOf 20 = .ok (.iinc 2 1, 3) := by decide +kernel
theorem dX7_leastOf_23 : decode cX7_leastOf 23 = .ok (.goto (-21), 3) := by decide +kernel
theorem dX7_leastOf_26 : decode cX7_leastOf 26 = .ok (.iconst (-1), 1) := by decide +kernel
theorem dX7_leastOf_27 : decode cX7_leastOf 27 = .ok (.ireturn, 1) := by decide +kernel
theorem dX7_waysToFill_0 : decode cX7_waysToFill 0 = .ok (.iconst 1, 1) := by decide +kernel
theorem dX7_waysToFill_1 : decode cX7_waysToFill 1 = .ok (.istore_n 1, 1) := by decide +kernel
theorem dX7_waysToFill_2 : decode cX7_waysToFill 2 = .ok (.iconst 0, 1) := by decide +kernel
theorem dX7_waysToFill_3 : decode cX7_waysToFill 3 = .ok (.istore_n 2, 1) := by decide +kernel
theorem dX7_waysToFill_4 : decode cX7_waysToFill 4 = .ok (.iload_n 2, 1) := by decide +kernel
theorem dX7_waysToFill_5 : decode cX7_waysToFill 5 = .ok (.aload_n 0, 1) := by decide +kernel
theorem dX7_waysToFill_6 : decode cX7_waysToFill 6 = .ok (.getfield 62, 3) := by decide +kernel
theorem dX7_waysToFill_9 : decode cX7_waysToFill 9 = .ok (.getfield 245, 3) := by decide +kernel
theorem dX7_waysToFill_12 : decode cX7_waysToFill 12 = .ok (.if_icmp .ge 74, 3) := by decide +kernel
theorem dX7_waysToFill_15 : decode cX7_waysToFill 15 = .ok (.aload_n 0, 1) := by decide +kernel
theorem dX7_waysToFill_16 : decode cX7_waysToFill 16 = .ok (.aload_n 0, 1) := by decide +kernel
theorem dX7_waysToFill_17 : decode cX7_waysToFill 17 = .ok (.getfield 62, 3) := by decide +kernel
theorem dX7_waysToFill_20 : decode cX7_waysToFill 20 = .ok (.getfield 248, 3) := by decide +kernel
theorem dX7_waysToFill_23 : decode cX7_waysToFill 23 = .ok (.iload_n 2, 1) := by decide +kernel
theorem dX7_waysToFill_24 : decode cX7_waysToFill 24 = .ok (.iaload, 1) := by decide +kernel
theorem dX7_waysToFill_25 : decode cX7_waysToFill 25 = .ok (.invokevirtual 257, 3) := by decide +kernel
theorem dX7_waysToFill_28 : decode cX7_waysToFill 28 = .ok (.invokestatic 138, 3) := by decide +kernel
theorem dX7_waysToFill_31 : decode cX7_waysToFill 31 = .ok (.istore_n 3, 1) := by decide +kernel
theorem dX7_waysToFill_32 : decode cX7_waysToFill 32 = .ok (.iconst 0, 1) := by decide +kernel
theorem dX7_waysToFill_33 : decode cX7_waysToFill 33 = .ok (.istore 4, 2) := by decide +kernel
theorem dX7_waysToFill_35 : decode cX7_waysToFill 35 = .ok (.iload 4, 2) := by decide +kernel
theorem dX7_waysToFill_37 : decode cX7_waysToFill 37 = .ok (.iload_n 2, 1) := by decide +kernel
theorem dX7_waysToFill_38 : decode cX7_waysToFill 38 = .ok (.if_icmp .ge 34, 3) := by decide +kernel
theorem dX7_waysToFill_41 : decode cX7_waysToFill 41 = .ok (.aload_n 0, 1) := by decide +kernel
theorem dX7_waysToFill_42 : decode cX7_waysToFill 42 = .ok (.getfield 62, 3) := by decide +kernel
theorem dX7_waysToFill_45 : decode cX7_waysToFill 45 = .ok (.getfield 248, 3) := by decide +kernel
theorem dX7_waysToFill_48 : decode cX7_waysToFill 48 = .ok (.iload 4, 2) := by decide +kernel
theorem dX7_waysToFill_50 : decode cX7_waysToFill 50 = .ok (.iaload, 1) := by decide +kernel
theorem dX7_waysToFill_51 : decode cX7_waysToFill 51 = .ok (.aload_n 0, 1) := by decide +kernel
theorem dX7_waysToFill_52 : decode cX7_waysToFill 52 = .ok (.getfield 62, 3) := by decide +kernel
theorem dX7_waysToFill_55 : decode cX7_waysToFill 55 = .ok (.getfield 248, 3) := by decide +kernel
theorem dX7_waysToFill_58 : decode cX7_waysToFill 58 = .ok (.iload_n 2, 1) := by decide +kernel
theorem dX7_waysToFill_59 : decode cX7_waysToFill 59 = .ok (.iaload, 1) := by decide +kernel
theorem dX7_waysToFill_60 : decode cX7_waysToFill 60 = .ok (.if_icmp .ne 6, 3) := by decide +kernel
theorem dX7_waysToFill_63 : decode cX7_waysToFill 63 = .ok (.iinc 3 (-1), 3) := by decide +kernel
theorem dX7_waysToFill_66 : decode cX7_waysToFill 66 = .ok (.iinc 4 1, 3) := by decide +kernel
theorem dX7_waysToFill_69 : decode cX7_waysToFill 69 = .ok (.goto (-34), 3) := by decide +kernel
theorem dX7_waysToFill_72 : decode cX7_waysToFill 72 = .ok (.iload_n 1, 1) := by decide +kernel
theorem dX7_waysToFill_73 : decode cX7_waysToFill 73 = .ok (.iload_n 3, 1) := by decide +kernel
theorem dX7_waysToFill_74 : decode cX7_waysToFill 74 = .ok (.iconst 0, 1) := by decide +kernel
theorem dX7_waysToFill_75 : decode cX7_waysToFill 75 = .ok (.invokestatic 263, 3) := by decide +kernel
theorem dX7_waysToFill_78 : decode cX7_waysToFill 78 = .ok (.imul, 1) := by decide +kernel
theorem dX7_waysToFill_79 : decode cX7_waysToFill 79 = .ok (.istore_n 1, 1) := by decide +kernel
theorem dX7_waysToFill_80 : decode cX7_waysToFill 80 = .ok (.iinc 2 1, 3) := by decide +kernel
theorem dX7_waysToFill_83 : decode cX7_waysToFill 83 = .ok (.goto (-79), 3) := by decide +kernel
theorem dX7_waysToFill_86 : decode cX7_waysToFill 86 = .ok (.iload_n 1, 1) := by decide +kernel
theorem dX7_waysToFill_87 : decode cX7_waysToFill 87 = .ok (.ireturn, 1) := by decide +kernel
theorem dX7_judge_0 : decode cX7_judge 0 = .ok (.aload_n 0, 1) := by decide +kernel
theorem dX7_judge_1 : decode cX7_judge 1 = .ok (.iload_n 1, 1) := by decide +kernel
theorem dX7_judge_2 : decode cX7_judge 2 = .ok (.invokevirtual 266, 3) := by decide +kernel
theorem dX7_judge_5 : decode cX7_judge 5 = .ok (.astore 4, 2) := by decide +kernel
theorem dX7_judge_7 : decode cX7_judge 7 = .ok (.aload 4, 2) := by decide +kernel
theorem dX7_judge_9 : decode cX7_judge 9 = .ok (.ifnull 11, 3) := by decide +kernel
theorem dX7_judge_12 : decode cX7_judge 12 = .ok (.aload_n 0, 1) := by decide +kernel
theorem dX7_judge_13 : decode cX7_judge 13 = .ok (.iload_n 3, 1) := by decide +kernel
theorem dX7_judge_14 : decode cX7_judge 14 = .ok (.invokevirtual 77, 3) := by decide +kernel
theorem dX7_judge_17 : decode cX7_judge 17 = .ok (.ifCond .ne 5, 3) := by decide +kernel
theorem dX7_judge_20 : decode cX7_judge 20 = .ok (.iconst (-1), 1) := by decide +kernel
theorem dX7_judge_21 : decode cX7_judge 21 = .ok (.ireturn, 1) := by decide +kernel
theorem dX7_judge_22 : decode cX7_judge 22 = .ok (.aload 4, 2) := by decide +kernel
theorem dX7_judge_24 : decode cX7_judge 24 = .ok (.getfield 270, 3) := by decide +kernel
theorem dX7_judge_27 : decode cX7_judge 27 = .ok (.iconst (-1), 1) := by decide +kernel
theorem dX7_judge_28 : decode cX7_judge 28 = .ok (.if_icmp .eq 14, 3) := by decide +kernel
theorem dX7_judge_31 : decode cX7_judge 31 = .ok (.aload 4, 2) := by decide +kernel
theorem dX7_judge_33 : decode cX7_judge 33 = .ok (.getfield 270, 3) := by decide +kernel
theorem dX7_judge_36 : decode cX7_judge 36 = .ok (.ifCond .eq 6, 3) := by decide +kernel
theorem dX7_judge_39 : decode cX7_judge 39 = .ok (.bipush (-12), 2) := by decide +kernel
theorem dX7_judge_41 : decode cX7_judge 41 = .ok (.ireturn, 1) := by decide +kernel
theorem dX7_judge_42 : decode cX7_judge 42 = .ok (.aload 4, 2) := by decide +kernel
theorem dX7_judge_44 : decode cX7_judge 44 = .ok (.iload_n 2, 1) := by decide +kernel
theorem dX7_judge_45 : decode cX7_judge 45 = .ok (.invokevirtual 273, 3) := by decide +kernel
theorem dX7_judge_48 : decode cX7_judge 48 = .ok (.ifCond .ne 7, 3) := by decide +kernel
theorem dX7_judge_51 : decode cX7_judge 51 = .ok (.sipush 1000, 3) := by decide +kernel
theorem dX7_judge_54 : decode cX7_judge 54 = .ok (.ireturn, 1) := by decide +kernel
theorem dX7_judge_55 : decode cX7_judge 55 = .ok (.aload_n 0, 1) := by decide +kernel
theorem dX7_judge_56 : decode cX7_judge 56 = .ok (.aload 4, 2) := by decide +kernel
theorem dX7_judge_58 : decode cX7_judge 58 = .ok (.iload_n 2, 1) := by decide +kernel
theorem dX7_judge_59 : decode cX7_judge 59 = .ok (.iload_n 3, 1) := by decide +kernel
theorem dX7_judge_60 : decode cX7_judge 60 = .ok (.invokevirtual 276, 3) := by decide +kernel
theorem dX7_judge_63 : decode cX7_judge 63 = .ok (.ireturn, 1) := by decide +kernel
theorem dX7_image_0 : decode cX7_image 0 = .ok (.aload_n 0, 1) := by decide +kernel
theorem dX7_image_1 : decode cX7_image 1 = .ok (.getfield 66, 3) := by decide +kernel
theorem dX7_image_4 : decode cX7_image 4 = .ok (.aload_n 0, 1) := by decide +kernel
theorem dX7_image_5 : decode cX7_image 5 = .ok (.getfield 62, 3) := by decide +kernel
theorem dX7_image_8 : decode cX7_image 8 = .ok (.invokevirtual 280, 3) := by decide +kernel
theorem dX7_image_11 : decode cX7_image 11 = .ok (.aload_n 0, 1) := by decide +kernel
theorem dX7_image_12 : decode cX7_image 12 = .ok (.iconst 1, 1) := by decide +kernel
theorem dX7_image_13 : decode cX7_image 13 = .ok (.putfield 284, 3) := by decide +kernel
theorem dX7_image_16 : decode cX7_image 16 = .ok (.aload_n 0, 1) := by decide +kernel
theorem dX7_image_17 : decode cX7_image 17 = .ok (.getfield 62, 3) := by decide +kernel
theorem dX7_image_20 : decode cX7_image 20 = .ok (.getfield 153, 3) := by decide +kernel
theorem dX7_image_23 : decode cX7_image 23 = .ok (.ireturn, 1) := by decide +kernel
theorem dX7_undo_0 : decode cX7_undo 0 = .ok (.aload_n 0, 1) := by decide +kernel
theorem dX7_undo_1 : decode cX7_undo 1 = .ok (.getfield 284, 3) := by decide +kernel
theorem dX7_undo_4 : decode cX7_undo 4 = .ok (.ifCond .ne 6, 3) := by decide +kernel
theorem dX7_undo_7 : decode cX7_undo 7 = .ok (.bipush (-3), 2) := by decide +kernel
theorem dX7_undo_9 : decode cX7_undo 9 = .ok (.ireturn, 1) := by decide +kernel
theorem dX7_undo_10 : decode cX7_undo 10 = .ok (.aload_n 0, 1) := by decide +kernel
theorem dX7_undo_11 : decode cX7_undo 11 = .ok (.getfield 62, 3) := by decide +kernel
theorem dX7_undo_14 : decode cX7_undo 14 = .ok (.aload_n 0, 1) := by decide +kernel
theorem dX7_undo_15 : decode cX7_undo 15 = .ok (.getfield 66, 3) := by decide +kernel
theorem dX7_undo_18 : decode cX7_undo 18 = .ok (.invokevirtual 280, 3) := by decide +kernel
theorem dX7_undo_21 : decode cX7_undo 21 = .ok (.aload_n 0, 1) := by decide +kernel
theorem dX7_undo_22 : decode cX7_undo 22 = .ok (.getfield 62, 3) := by decide +kernel
theorem dX7_undo_25 : decode cX7_undo 25 = .ok (.getfield 153, 3) := by decide +kernel
theorem dX7_undo_28 : decode cX7_undo 28 = .ok (.ireturn, 1) := by decide +kernel
theorem dX7_act_0 : decode cX7_act 0 = .ok (.aload_n 0, 1) := by decide +kernel
theorem dX7_act_1 : decode cX7_act 1 = .ok (.getfield 45, 3) := by decide +kernel
theorem dX7_act_4 : decode cX7_act 4 = .ok (.invokevirtual 288, 3) := by decide +kernel
theorem dX7_act_7 : decode cX7_act 7 = .ok (.aload_n 0, 1) := by decide +kernel
theorem dX7_act_8 : decode cX7_act 8 = .ok (.iload_n 1, 1) := by decide +kernel
theorem dX7_act_9 : decode cX7_act 9 = .ok (.invokevirtual 160, 3) := by decide +kernel
theorem dX7_act_12 : decode cX7_act 12 = .ok (.ifCond .eq 12, 3) := by decide +kernel
theorem dX7_act_15 : decode cX7_act 15 = .ok (.iload_n 2, 1) := by decide +kernel
theorem dX7_act_16 : decode cX7_act 16 = .ok (.ifCond .lt 8, 3) := by decide +kernel
theorem dX7_act_19 : decode cX7_act 19 = .ok (.iload_n 2, 1) := by decide +kernel
theorem dX7_act_20 : decode cX7_act 20 = .ok (.iconst 3, 1) := by decide +kernel
theorem dX7_act_21 : decode cX7_act 21 = .ok (.if_icmp .lt 5, 3) := by decide +kernel
theorem dX7_act_24 : decode cX7_act 24 = .ok (.iconst 0, 1) := by decide +kernel
theorem dX7_act_25 : decode cX7_act 25 = .ok (.ireturn, 1) := by decide +kernel
theorem dX7_act_26 : decode cX7_act 26 = .ok (.aload_n 0, 1) := by decide +kernel
theorem dX7_act_27 : decode cX7_act 27 = .ok (.getfield 45, 3) := by decide +kernel
theorem dX7_act_30 : decode cX7_act 30 = .ok (.iload_n 1, 1) := by decide +kernel
theorem dX7_act_31 : decode cX7_act 31 = .ok (.aload_n 0, 1) := by decide +kernel
theorem dX7_act_32 : decode cX7_act 32 = .ok (.getfield 62, 3) := by decide +kernel
theorem dX7_act_35 : decode cX7_act 35 = .ok (.getfield 163, 3) := by decide +kernel
theorem dX7_act_38 : decode cX7_act 38 = .ok (.iload_n 1, 1) := by decide +kernel
theorem dX7_act_39 : decode cX7_act 39 = .ok (.iaload, 1) := by decide +kernel
theorem dX7_act_40 : decode cX7_act 40 = .ok (.aload_n 0, 1) := by decide +kernel
theorem dX7_act_41 : decode cX7_act 41 = .ok (.getfield 62, 3) := by decide +kernel
theorem dX7_act_44 : decode cX7_act 44 = .ok (.getfield 175, 3) := by decide +kernel
theorem dX7_act_47 : decode cX7_act 47 = .ok (.iload_n 1, 1) := by decide +kernel
theorem dX7_act_48 : decode cX7_act 48 = .ok (.iaload, 1) := by decide +kernel
theorem dX7_act_49 : decode cX7_act 49 = .ok (.invokevirtual 291, 3) := by decide +kernel
theorem dX7_act_52 : decode cX7_act 52 = .ok (.aload_n 0, 1) := by decide +kernel
theorem dX7_act_53 : decode cX7_act 53 = .ok (.getfield 45, 3) := by decide +kernel
theorem dX7_act_56 : decode cX7_act 56 = .ok (.iload_n 2, 1) := by decide +kernel
theorem dX7_act_57 : decode cX7_act 57 = .ok (.iload_n 3, 1) := by decide +kernel
theorem dX7_act_58 : decode cX7_act 58 = .ok (.invokevirtual 295, 3) := by decide +kernel
theorem dX7_act_61 : decode cX7_act 61 = .ok (.ireturn, 1) := by decide +kernel
theorem dX7_trace_0 : decode cX7_trace 0 = .ok (.iload_n 1, 1) := by decide +kernel
theorem dX7_trace_1 : decode cX7_trace 1 = .ok (.ifCond .lt 31, 3) := by decide +kernel
theorem dX7_trace_4 : decode cX7_trace 4 = .ok (.iload_n 1, 1) := by decide +kernel
theorem dX7_trace_5 : decode cX7_trace 5 = .ok (.aload_n 0, 1) := by decide +kernel
theorem dX7_trace_6 : decode cX7_trace 6 = .ok (.getfield 45, 3) := by decide +kernel
theorem dX7_trace_9 : decode cX7_trace 9 = .ok (.getfield 298, 3) := by decide +kernel
theorem dX7_trace_12 : decode cX7_trace 12 = .ok (.bipush 20, 2) := by decide +kernel
theorem dX7_trace_14 : decode cX7_trace 14 = .ok (.invokestatic 237, 3) := by decide +kernel
theorem dX7_trace_17 : decode cX7_trace 17 = .ok (.if_icmp .ge 15, 3) := by decide +kernel
theorem dX7_trace_20 : decode cX7_trace 20 = .ok (.aload_n 0, 1) := by decide +kernel
theorem dX7_trace_21 : decode cX7_trace 21 = .ok (.getfield 45, 3) := by decide +kernel
theorem dX7_trace_24 : decode cX7_trace 24 = .ok (.getfield 301, 3) := by decide +kernel
theorem dX7_trace_27 : decode cX7_trace 27 = .ok (.iload_n 1, 1) := by decide +kernel
theorem dX7_trace_28 : decode cX7_trace 28 = .ok (.iaload, 1) := by decide +kernel
theorem dX7_trace_29 : decode cX7_trace 29 = .ok (.goto 4, 3) := by decide +kernel
theorem dX7_trace_32 : decode cX7_trace 32 = .ok (.iconst (-1), 1) := by decide +kernel
theorem dX7_trace_33 : decode cX7_trace 33 = .ok (.ireturn, 1) := by decide +kernel
theorem dX7_taken_0 : decode cX7_taken 0 = .ok (.iload_n 2, 1) := by decide +kernel
theorem dX7_taken_1 : decode cX7_taken 1 = .ok (.invokestatic 150, 3) := by decide +kernel
theorem dX7_taken_4 : decode cX7_taken 4 = .ok (.ifCond .ne 6, 3) := by decide +kernel
theorem dX7_taken_7 : decode cX7_taken 7 = .ok (.bipush (-2), 2) := by decide +kernel
theorem dX7_taken_9 : decode cX7_taken 9 = .ok (.ireturn, 1) := by decide +kernel
theorem dX7_taken_10 : decode cX7_taken 10 = .ok (.aload_n 0, 1) := by decide +kernel
theorem dX7_taken_11 : decode cX7_taken 11 = .ok (.iload_n 1, 1) := by decide +kernel
theorem dX7_taken_12 : decode cX7_taken 12 = .ok (.invokevirtual 160, 3) := by decide +kernel
theorem dX7_taken_15 : decode cX7_taken 15 = .ok (.ifCond .ne 6, 3) := by decide +kernel
theorem dX7_taken_18 : decode cX7_taken 18 = .ok (.bipush (-11), 2) := by decide +kernel
theorem dX7_taken_20 : decode cX7_taken 20 = .ok (.ireturn, 1) := by decide +kernel
theorem dX7_taken_21 : decode cX7_taken 21 = .ok (.aload_n 0, 1) := by decide +kernel
theorem dX7_taken_22 : decode cX7_taken 22 = .ok (.getfield 62, 3) := by decide +kernel
theorem dX7_taken_25 : decode cX7_taken 25 = .ok (.getfield 163, 3) := by decide +kernel
theorem dX7_taken_28 : decode cX7_taken 28 = .ok (.iload_n 1, 1) := by decide +kernel
theorem dX7_taken_29 : decode cX7_taken 29 = .ok (.iaload, 1) := by decide +kernel
theorem dX7_taken_30 : decode cX7_taken 30 = .ok (.istore_n 3, 1) := by decide +kernel
theorem dX7_taken_31 : decode cX7_taken 31 = .ok (.iload_n 3, 1) := by decide +kernel
theorem dX7_taken_32 : decode cX7_taken 32 = .ok (.istore 4, 2) := by decide +kernel
theorem dX7_taken_34 : decode cX7_taken 34 = .ok (.iconst 0, 1) := by decide +kernel
theorem dX7_taken_35 : decode cX7_taken 35 = .ok (.istore 5, 2) := by decide +kernel
theorem dX7_taken_37 : decode cX7_taken 37 = .ok (.iload 5, 2) := by decide +kernel
theorem dX7_taken_39 : decode cX7_taken 39 = .ok (.bipush 7, 2) := by decide +kernel
theorem dX7_taken_41 : decode cX7_taken 41 = .ok (.if_icmp .ge 30, 3) := by decide +kernel
theorem dX7_taken_44 : decode cX7_taken 44 = .ok (.iload 4, 2) := by decide +kernel
theorem dX7_taken_46 : decode cX7_taken 46 = .ok (.ifCond .lt 25, 3) := by decide +kernel
theorem dX7_taken_49 : decode cX7_taken 49 = .ok (.iload 4, 2) := by decide +kernel
theorem dX7_taken_51 : decode cX7_taken 51 = .ok (.iload_n 2, 1) := by decide +kernel
theorem dX7_taken_52 : decode cX7_taken 52 = .ok (.if_icmp .ne 5, 3) := by decide +kernel
theorem dX7_taken_55 : decode cX7_taken 55 = .ok (.iload_n 3, 1) := by decide +kernel
theorem dX7_taken_56 : decode cX7_taken 56 = .ok (.ireturn, 1) := by decide +kernel
theorem dX7_taken_57 : decode cX7_taken 57 = .ok (.getstatic 304, 3) := by decide +kernel
theorem dX7_taken_60 : decode cX7_taken 60 = .ok (.iload 4, 2) := by decide +kernel
theorem dX7_taken_62 : decode cX7_taken 62 = .ok (.iaload, 1) := by decide +kernel
theorem dX7_taken_63 : decode cX7_taken 63 = .ok (.istore 4, 2) := by decide +kernel
theorem dX7_taken_65 : decode cX7_taken 65 = .ok (.iinc 5 1, 3) := by decide +kernel
theorem dX7_taken_68 : decode cX7_taken 68 = .ok (.goto (-31), 3) := by decide +kernel
theorem dX7_taken_71 : decode cX7_taken 71 = .ok (.bipush (-12), 2) := by decide +kernel
theorem dX7_taken_73 : decode cX7_taken 73 = .ok (.ireturn, 1) := by decide +kernel
theorem dX7_count_0 : decode cX7_count 0 = .ok (.iload_n 1, 1) := by decide +kernel
theorem dX7_count_1 : decode cX7_count 1 = .ok (.tableswitch 81 0 5 #[39, 44, 52, 57, 65, 73], 39) := by decide +kernel
theorem dX7_count_40 : decode cX7_count 40 = .ok (.aload_n 0, 1) := by decide +kernel
theorem dX7_count_41 : decode cX7_count 41 = .ok (.getfield 73, 3) := by decide +kernel
theorem dX7_count_44 : decode cX7_count 44 = .ok (.ireturn, 1) := by decide +kernel
theorem dX7_count_45 : decode cX7_count 45 = .ok (.aload_n 0, 1) := by decide +kernel
theorem dX7_count_46 : decode cX7_count 46 = .ok (.getfield 62, 3) := by decide +kernel
theorem dX7_count_49 : decode cX7_count 49 = .ok (.getfield 153, 3) := by decide +kernel
theorem dX7_count_52 : decode cX7_count 52 = .ok (.ireturn, 1) := by decide +kernel
theorem dX7_count_53 : decode cX7_count 53 = .ok (.aload_n 0, 1) := by decide +kernel
theorem dX7_count_54 : decode cX7_count 54 = .ok (.getfield 97, 3) := by decide +kernel
theorem dX7_count_57 : decode cX7_count 57 = .ok (.ireturn, 1) := by decide +kernel
theorem dX7_count_58 : decode cX7_count 58 = .ok (.aload_n 0, 1) := by decide +kernel
theorem dX7_count_59 : decode cX7_count 59 = .ok (.getfield 62, 3) := by decide +kernel
theorem dX7_count_62 : decode cX7_count 62 = .ok (.getfield 245, 3) := by decide +kernel
theorem dX7_count_65 : decode cX7_count 65 = .ok (.ireturn, 1) := by decide +kernel
theorem dX7_count_66 : decode cX7_count 66 = .ok (.aload_n 0, 1) := by decide +kernel
theorem dX7_count_67 : decode cX7_count 67 = .ok (.getfield 18, 3) := by decide +kernel
theorem dX7_count_70 : decode cX7_count 70 = .ok (.getfield 90, 3) := by decide +kernel
theorem dX7_count_73 : decode cX7_count 73 = .ok (.ireturn, 1) := by decide +kernel
theorem dX7_count_74 : decode cX7_count 74 = .ok (.aload_n 0, 1) := by decide +kernel
theorem dX7_count_75 : decode cX7_count 75 = .ok (.getfield 45, 3) := by decide +kernel
theorem dX7_count_78 : decode cX7_count 78 = .ok (.getfield 298, 3) := by decide +kernel
theorem dX7_count_81 : decode cX7_count 81 = .ok (.ireturn, 1) := by decide +kernel
theorem dX7_count_82 : decode cX7_count 82 = .ok (.bipush (-2), 2) := by decide +kernel
theorem dX7_count_84 : decode cX7_count 84 = .ok (.ireturn, 1) := by decide +kernel
theorem dX7_tape_0 : decode cX7_tape 0 = .ok (.aload_n 0, 1) := by decide +kernel
theorem dX7_tape_1 : decode cX7_tape 1 = .ok (.iload_n 1, 1) := by decide +kernel
theorem dX7_tape_2 : decode cX7_tape 2 = .ok (.invokevirtual 266, 3) := by decide +kernel
theorem dX7_tape_5 : decode cX7_tape 5 = .ok (.astore 4, 2) := by decide +kernel
theorem dX7_tape_7 : decode cX7_tape 7 = .ok (.aload 4, 2) := by decide +kernel
theorem dX7_tape_9 : decode cX7_tape 9 = .ok (.ifnonnull 5, 3) := by decide +kernel
theorem dX7_tape_12 : decode cX7_tape 12 = .ok (.iconst (-1), 1) := by decide +kernel
theorem dX7_tape_13 : decode cX7_tape 13 = .ok (.ireturn, 1) := by decide +kernel
theorem dX7_tape_14 : decode cX7_tape 14 = .ok (.iload_n 2, 1) := by decide +kernel
theorem dX7_tape_15 : decode cX7_tape 15 = .ok (.iconst (-1), 1) := by decide +kernel
theorem dX7_tape_16 : decode cX7_tape 16 = .ok (.if_icmp .lt 8, 3) := by decide +kernel
theorem dX7_tape_19 : decode cX7_tape 19 = .ok (.iload_n 2, 1) := by decide +kernel
theorem dX7_tape_20 : decode cX7_tape 20 = .ok (.iconst 4, 1) := by decide +kernel
theorem dX7_tape_21 : decode cX7_tape 21 = .ok (.if_icmp .le 6, 3) := by decide +kernel
theorem dX7_tape_24 : decode cX7_tape 24 = .ok (.bipush (-2), 2) := by decide +kernel
theorem dX7_tape_26 : decode cX7_tape 26 = .ok (.ireturn, 1) := by decide +kernel
theorem dX7_tape_27 : decode cX7_tape 27 = .ok (.iload_n 2, 1) := by decide +kernel
theorem dX7_tape_28 : decode cX7_tape 28 = .ok (.iconst (-1), 1) := by decide +kernel
theorem dX7_tape_29 : decode cX7_tape 29 = .ok (.if_icmp .ne 12, 3) := by decide +kernel
theorem dX7_tape_32 : decode cX7_tape 32 = .ok (.aload 4, 2) := by decide +kernel
theorem dX7_tape_34 : decode cX7_tape 34 = .ok (.iconst (-1), 1) := by decide +kernel
theorem dX7_tape_35 : decode cX7_tape 35 = .ok (.iconst 0, 1) := by decide +kernel
theorem dX7_tape_36 : decode cX7_tape 36 = .ok (.invokevirtual 307, 3) := by decide +kernel
theorem dX7_tape_39 : decode cX7_tape 39 = .ok (.iconst 1, 1) := by decide +kernel
theorem dX7_tape_40 : decode cX7_tape 40 = .ok (.ireturn, 1) := by decide +kernel
theorem dX7_tape_41 : decode cX7_tape 41 = .ok (.iload_n 3, 1) := by decide +kernel
theorem dX7_tape_42 : decode cX7_tape 42 = .ok (.bipush 60, 2) := by decide +kernel
theorem dX7_tape_44 : decode cX7_tape 44 = .ok (.if_icmp .le 6, 3) := by decide +kernel
theorem dX7_tape_47 : decode cX7_tape 47 = .ok (.bipush (-2), 2) := by decide +kernel
theorem dX7_tape_49 : decode cX7_tape 49 = .ok (.ireturn, 1) := by decide +kernel
theorem dX7_tape_50 : decode cX7_tape 50 = .ok (.iload_n 3, 1) := by decide +kernel
theorem dX7_tape_51 : decode cX7_tape 51 = .ok (.ifCond .ge 6, 3) := by decide +kernel
theorem dX7_tape_54 : decode cX7_tape 54 = .ok (.bipush (-14), 2) := by decide +kernel
theorem dX7_tape_56 : decode cX7_tape 56 = .ok (.ireturn, 1) := by decide +kernel
theorem dX7_tape_57 : decode cX7_tape 57 = .ok (.aload 4, 2) := by decide +kernel
theorem dX7_tape_59 : decode cX7_tape 59 = .ok (.iload_n 2, 1) := by decide +kernel
theorem dX7_tape_60 : decode cX7_tape 60 = .ok (.iload_n 3, 1) := by decide +kernel
theorem dX7_tape_61 : decode cX7_tape 61 = .ok (.invokevirtual 307, 3) := by decide +kernel
theorem dX7_tape_64 : decode cX7_tape 64 = .ok (.iconst 1, 1) := by decide +kernel
theorem dX7_tape_65 : decode cX7_tape 65 = .ok (.ireturn, 1) := by decide +kernel
theorem dX7_item_0 : decode cX7_item 0 = .ok (.aload_n 0, 1) := by decide +kernel
theorem dX7_item_1 : decode cX7_item 1 = .ok (.iload_n 1, 1) := by decide +kernel
theorem dX7_item_2 : decode cX7_item 2 = .ok (.invokevirtual 266, 3) := by decide +kernel
theorem dX7_item_5 : decode cX7_item 5 = .ok (.astore 5, 2) := by decide +kernel
theorem dX7_item_7 : decode cX7_item 7 = .ok (.aload 5, 2) := by decide +kernel
theorem dX7_item_9 : decode cX7_item 9 = .ok (.ifnonnull 5, 3) := by decide +kernel
theorem dX7_item_12 : decode cX7_item 12 = .ok (.iconst (-1), 1) := by decide +kernel
theorem dX7_item_13 : decode cX7_item 13 = .ok (.ireturn, 1) := by decide +kernel
theorem dX7_item_14 : decode cX7_item 14 = .ok (.aload 5, 2) := by decide +kernel
theorem dX7_item_16 : decode cX7_item 16 = .ok (.getfield 270, 3) := by decide +kernel
theorem dX7_item_19 : decode cX7_item 19 = .ok (.iconst (-1), 1) := by decide +kernel
theorem dX7_item_20 : decode cX7_item 20 = .ok (.if_icmp .ne 6, 3) := by decide +kernel
theorem dX7_item_23 : decode cX7_item 23 = .ok (.bipush (-11), 2) := by decide +kernel
theorem dX7_item_25 : decode cX7_item 25 = .ok (.ireturn, 1) := by decide +kernel
theorem dX7_item_26 : decode cX7_item 26 = .ok (.aload 5, 2) := by decide +kernel
theorem dX7_item_28 : decode cX7_item 28 = .ok (.iload_n 2, 1) := by decide +kernel
theorem dX7_item_29 : decode cX7_item 29 = .ok (.invokevirtual 273, 3) := by decide +kernel
theorem dX7_item_32 : decode cX7_item 32 = .ok (.ifCond .ne 6, 3) := by decide +kernel
theorem dX7_item_35 : decode cX7_item 35 = .ok (.bipush (-13), 2) := by decide +kernel
theorem dX7_item_37 : decode cX7_item 37 = .ok (.ireturn, 1) := by decide +kernel
theorem dX7_item_38 : decode cX7_item 38 = .ok (.aload 5, 2) := by decide +kernel
theorem dX7_item_40 : decode cX7_item 40 = .ok (.getfield 309, 3) := by decide +kernel
theorem dX7_item_43 : decode cX7_item 43 = .ok (.iload_n 2, 1) := by decide +kernel
theorem dX7_item_44 : decode cX7_item 44 = .ok (.aload 5, 2) := by decide +kernel
theorem dX7_item_46 : decode cX7_item 46 = .ok (.getfield 270, 3) := by decide +kernel
theorem dX7_item_49 : decode cX7_item 49 = .ok (.lload_n 3, 1) := by decide +kernel
theorem dX7_item_50 : decode cX7_item 50 = .ok (.invokestatic 313, 3) := by decide +kernel
theorem dX7_item_53 : decode cX7_item 53 = .ok (.lastore, 1) := by decide +kernel
theorem dX7_item_54 : decode cX7_item 54 = .ok (.iconst 1, 1) := by decide +kernel
theorem dX7_item_55 : decode cX7_item 55 = .ok (.ireturn, 1) := by decide +kernel
theorem dX7_read_0 : decode cX7_read 0 = .ok (.aload_n 0, 1) := by decide +kernel
theorem dX7_read_1 : decode cX7_read 1 = .ok (.iload_n 1, 1) := by decide +kernel
theorem dX7_read_2 : decode cX7_read 2 = .ok (.invokevirtual 266, 3) := by decide +kernel
theorem dX7_read_5 : decode cX7_read 5 = .ok (.astore_n 3, 1) := by decide +kernel
theorem dX7_read_6 : decode cX7_read 6 = .ok (.aload_n 3, 1) := by decide +kernel
theorem dX7_read_7 : decode cX7_read 7 = .ok (.ifnull 11, 3) := by decide +kernel
theorem dX7_read_10 : decode cX7_read 10 = .ok (.aload_n 3, 1) := by decide +kernel
theorem dX7_read_11 : decode cX7_read 11 = .ok (.iload_n 2, 1) := by decide +kernel
theorem dX7_read_12 : decode cX7_read 12 = .ok (.invokevirtual 273, 3) := by decide +kernel
theorem dX7_read_15 : decode cX7_read 15 = .ok (.ifCond .ne 7, 3) := by decide +kernel
theorem dX7_read_18 : decode cX7_read 18 = .ok (.ldc2_w 187, 3) := by decide +kernel
theorem dX7_read_21 : decode cX7_read 21 = .ok (.lreturn, 1) := by decide +kernel
theorem dX7_read_22 : decode cX7_read 22 = .ok (.aload_n 3, 1) := by decide +kernel
theorem dX7_read_23 : decode cX7_read 23 = .ok (.getfield 309, 3) := by decide +kernel
theorem dX7_read_26 : decode cX7_read 26 = .ok (.iload_n 2, 1) := by decide +kernel
theorem dX7_read_27 : decode cX7_read 27 = .ok (.laload, 1) := by decide +kernel
theorem dX7_read_28 : decode cX7_read 28 = .ok (.lreturn, 1) := by decide +kernel
theorem dX7_shift_0 : decode cX7_shift 0 = .ok (.aload_n 0, 1) := by decide +kernel
theorem dX7_shift_1 : decode cX7_shift 1 = .ok (.iload_n 1, 1) := by decide +kernel
theorem dX7_shift_2 : decode cX7_shift 2 = .ok (.invokevirtual 266, 3) := by decide +kernel
theorem dX7_shift_5 : decode cX7_shift 5 = .ok (.astore 6, 2) := by decide +kernel
theorem dX7_shift_7 : decode cX7_shift 7 = .ok (.aload_n 0, 1) := by decide +kernel
theorem dX7_shift_8 : decode cX7_shift 8 = .ok (.iload_n 3, 1) := by decide +kernel
theorem dX7_shift_9 : decode cX7_shift 9 = .ok (.invokevirtual 266, 3) := by decide +kernel
theorem dX7_shift_12 : decode cX7_shift 12 = .ok (.astore 7, 2) := by decide +kernel
theorem dX7_shift_14 : decode cX7_shift 14 = .ok (.aload 6, 2) := by decide +kernel
theorem dX7_shift_16 : decode cX7_shift 16 = .ok (.ifnull 8, 3) := by decide +kernel
theorem dX7_shift_19 : decode cX7_shift 19 = .ok (.aload 7, 2) := by decide +kernel
theorem dX7_shift_21 : decode cX7_shift 21 = .ok (.ifnonnull 5, 3) := by decide +kernel
theorem dX7_shift_24 : decode cX7_shift 24 = .ok (.iconst (-1), 1) := by decide +kernel
theorem dX7_shift_25 : decode cX7_shift 25 = .ok (.ireturn, 1) := by decide +kernel
theorem dX7_shift_26 : decode cX7_shift 26 = .ok (.aload 6, 2) := by decide +kernel
theorem dX7_shift_28 : decode cX7_shift 28 = .ok (.getfield 270, 3) := by decide +kernel
theorem dX7_shift_31 : decode cX7_shift 31 = .ok (.iconst (-1), 1) := by decide +kernel
theorem dX7_shift_32 : decode cX7_shift 32 = .ok (.if_icmp .eq 12, 3) := by decide +kernel
theorem dX7_shift_35 : decode cX7_shift 35 = .ok (.aload 7, 2) := by decide +kernel
theorem dX7_shift_37 : decode cX7_shift 37 = .ok (.getfield 270, 3) := by decide +kernel
theorem dX7_shift_40 : decode cX7_shift 40 = .ok (.iconst (-1), 1) := by decide +kernel
theorem dX7_shift_41 : decode cX7_shift 41 = .ok (.if_icmp .ne 6, 3) := by decide +kernel
theorem dX7_shift_44 : decode cX7_shift 44 = .ok (.bipush (-11), 2) := by decide +kernel
theorem dX7_shift_46 : decode cX7_shift 46 = .ok (.ireturn, 1) := by decide +kernel
theorem dX7_shift_47 : decode cX7_shift 47 = .ok (.aload 6, 2) := by decide +kernel
theorem dX7_shift_49 : decode cX7_shift 49 = .ok (.getfield 270, 3) := by decide +kernel
theorem dX7_shift_52 : decode cX7_shift 52 = .ok (.aload 7, 2) := by decide +kernel
theorem dX7_shift_54 : decode cX7_shift 54 = .ok (.getfield 270, 3) := by decide +kernel
theorem dX7_shift_57 : decode cX7_shift 57 = .ok (.if_icmp .eq 6, 3) := by decide +kernel
theorem dX7_shift_60 : decode cX7_shift 60 = .ok (.bipush (-12), 2) := by decide +kernel
theorem dX7_shift_62 : decode cX7_shift 62 = .ok (.ireturn, 1) := by decide +kernel
theorem dX7_shift_63 : decode cX7_shift 63 = .ok (.aload 6, 2) := by decide +kernel
theorem dX7_shift_65 : decode cX7_shift 65 = .ok (.iload_n 2, 1) := by decide +kernel
theorem dX7_shift_66 : decode cX7_shift 66 = .ok (.iload 5, 2) := by decide +kernel
theorem dX7_shift_68 : decode cX7_shift 68 = .ok (.invokevirtual 317, 3) := by decide +kernel
theorem dX7_shift_71 : decode cX7_shift 71 = .ok (.ifCond .eq 15, 3) := by decide +kernel
theorem dX7_shift_74 : decode cX7_shift 74 = .ok (.aload 7, 2) := by decide +kernel
theorem dX7_shift_76 : decode cX7_shift 76 = .ok (.iload 4, 2) := by decide +kernel
theorem dX7_shift_78 : decode cX7_shift 78 = .ok (.iload 5, 2) := by decide +kernel
theorem dX7_shift_80 : decode cX7_shift 80 = .ok (.invokevirtual 317, 3) := by decide +kernel
theorem dX7_shift_83 : decode cX7_shift 83 = .ok (.ifCond .ne 6, 3) := by decide +kernel
theorem dX7_shift_86 : decode cX7_shift 86 = .ok (.bipush (-13), 2) := by decide +kernel
theorem dX7_shift_88 : decode cX7_shift 88 = .ok (.ireturn, 1) := by decide +kernel
theorem dX7_shift_89 : decode cX7_shift 89 = .ok (.aload 6, 2) := by decide +kernel
theorem dX7_shift_91 : decode cX7_shift 91 = .ok (.getfield 309, 3) := by decide +kernel
theorem dX7_shift_94 : decode cX7_shift 94 = .ok (.iload_n 2, 1) := by decide +kernel
theorem dX7_shift_95 : decode cX7_shift 95 = .ok (.aload 7, 2) := by decide +kernel
theorem dX7_shift_97 : decode cX7_shift 97 = .ok (.getfield 309, 3) := by decide +kernel
theorem dX7_shift_100 : decode cX7_shift 100 = .ok (.iload 4, 2) := by decide +kernel
theorem dX7_shift_102 : decode cX7_shift 102 = .ok (.iload 5, 2) := by decide +kernel
theorem dX7_shift_104 : decode cX7_shift 104 = .ok (.invokestatic 320, 3) := by decide +kernel
theorem dX7_shift_107 : decode cX7_shift 107 = .ok (.iload 5, 2) := by decide +kernel
theorem dX7_shift_109 : decode cX7_shift 109 = .ok (.ireturn, 1) := by decide +kernel
theorem dX7_judgeRow_0 : decode cX7_judgeRow 0 = .ok (.aload_n 0, 1) := by decide +kernel
theorem dX7_judgeRow_1 : decode cX7_judgeRow 1 = .ok (.getfield 62, 3) := by decide +kernel
theorem dX7_judgeRow_4 : decode cX7_judgeRow 4 = .ok (.getfield 104, 3) := by decide +kernel
theorem dX7_judgeRow_7 : decode cX7_judgeRow 7 = .ok (.invokevirtual 326, 3) := by decide +kernel
theorem dX7_judgeRow_10 : decode cX7_judgeRow 10 = .ok (.istore 4, 2) := by decide +kernel
theorem dX7_judgeRow_12 : decode cX7_judgeRow 12 = .ok (.iconst 0, 1) := by decide +kernel
theorem dX7_judgeRow_13 : decode cX7_judgeRow 13 = .ok (.istore 5, 2) := by decide +kernel
theorem dX7_judgeRow_15 : decode cX7_judgeRow 15 = .ok (.iconst (-1), 1) := by decide +kernel
theorem dX7_judgeRow_16 : decode cX7_judgeRow 16 = .ok (.istore 6, 2) := by decide +kernel
theorem dX7_judgeRow_18 : decode cX7_judgeRow 18 = .ok (.iload_n 2, 1) := by decide +kernel
theorem dX7_judgeRow_19 : decode cX7_judgeRow 19 = .ok (.istore 7, 2) := by decide +kernel
theorem dX7_judgeRow_21 : decode cX7_judgeRow 21 = .ok (.iload 7, 2) := by decide +kernel
theorem dX7_judgeRow_23 : decode cX7_judgeRow 23 = .ok (.aload_n 1, 1) := by decide +kernel
theorem dX7_judgeRow_24 : decode cX7_judgeRow 24 = .ok (.getfield 329, 3) := by decide +kernel
theorem dX7_judgeRow_27 : decode cX7_judgeRow 27 = .ok (.if_icmp .ge 119, 3) := by decide +kernel
theorem dX7_judgeRow_30 : decode cX7_judgeRow 30 = .ok (.iload 7, 2) := by decide +kernel
theorem dX7_judgeRow_32 : decode cX7_judgeRow 32 = .ok (.iload_n 2, 1) := by decide +kernel
theorem dX7_judgeRow_33 : decode cX7_judgeRow 33 = .ok (.isub, 1) := by decide +kernel
theorem dX7_judgeRow_34 : decode cX7_judgeRow 34 = .ok (.istore 8, 2) := by decide +kernel
theorem dX7_judgeRow_36 : decode cX7_judgeRow 36 = .ok (.aload_n 1, 1) := by decide +kernel
theorem dX7_judgeRow_37 : decode cX7_judgeRow 37 = .ok (.getfield 309, 3) := by decide +kernel
theorem dX7_judgeRow_40 : decode cX7_judgeRow 40 = .ok (.iload 7, 2) := by decide +kernel
theorem dX7_judgeRow_42 : decode cX7_judgeRow 42 = .ok (.laload, 1) := by decide +kernel
theorem dX7_judgeRow_43 : decode cX7_judgeRow 43 = .ok (.l2i, 1) := by decide +kernel
theorem dX7_judgeRow_44 : decode cX7_judgeRow 44 = .ok (.istore 9, 2) := by decide +kernel
theorem dX7_judgeRow_46 : decode cX7_judgeRow 46 = .ok (.aload_n 0, 1) := by decide +kernel
theorem dX7_judgeRow_47 : decode cX7_judgeRow 47 = .ok (.iload 9, 2) := by decide +kernel
theorem dX7_judgeRow_49 : decode cX7_judgeRow 49 = .ok (.invokevirtual 77, 3) := by decide +kernel
theorem dX7_judgeRow_52 : decode cX7_judgeRow 52 = .ok (.ifCond .eq 10, 3) := by decide +kernel
theorem dX7_judgeRow_55 : decode cX7_judgeRow 55 = .ok (.iload 8, 2) := by decide +kernel
theorem dX7_judgeRow_57 : decode cX7_judgeRow 57 = .ok (.iload 4, 2) := by decide +kernel
theorem dX7_judgeRow_59 : decode cX7_judgeRow 59 = .ok (.if_icmp .le 9, 3) := by decide +kernel
theorem dX7_judgeRow_62 : decode cX7_judgeRow 62 = .ok (.bipush (-10), 2) := by decide +kernel
theorem dX7_judgeRow_64 : decode cX7_judgeRow 64 = .ok (.iload 8, 2) := by decide +kernel
theorem dX7_judgeRow_66 : decode cX7_judgeRow 66 = .ok (.isub, 1) := by decide +kernel
theorem dX7_judgeRow_67 : decode cX7_judgeRow 67 = .ok (.ireturn, 1) := by decide +kernel
theorem dX7_judgeRow_68 : decode cX7_judgeRow 68 = .ok (.iload 8, 2) := by decide +kernel
theorem dX7_judgeRow_70 : decode cX7_judgeRow 70 = .ok (.ifCond .ne 16, 3) := by decide +kernel
theorem dX7_judgeRow_73 : decode cX7_judgeRow 73 = .ok (.aload_n 0, 1) := by decide +kernel
theorem dX7_judgeRow_74 : decode cX7_judgeRow 74 = .ok (.getfield 62, 3) := by decide +kernel
theorem dX7_judgeRow_77 : decode cX7_judgeRow 77 = .ok (.getfield 87, 3) := by decide +kernel
theorem dX7_judgeRow_80 : decode cX7_judgeRow 80 = .ok (.iload 9, 2) := by decide +kernel
theorem dX7_judgeRow_82 : decode cX7_judgeRow 82 = .ok (.iaload, 1) := by decide +kernel
theorem dX7_judgeRow_83 : decode cX7_judgeRow 83 = .ok (.goto 14, 3) := by decide +kernel
theorem dX7_judgeRow_86 : decode cX7_judgeRow 86 = .ok (.aload_n 0, 1) := by decide +kernel
theorem dX7_judgeRow_87 : decode cX7_judgeRow 87 = .ok (.getfield 62, 3) := by decide +kernel
theorem dX7_judgeRow_90 : decode cX7_judgeRow 90 = .ok (.iload 6, 2) := by decide +kernel
theorem dX7_judgeRow_92 : decode cX7_judgeRow 92 = .ok (.iload 9, 2) := by decide +kernel
theorem dX7_judgeRow_94 : decode cX7_judgeRow 94 = .ok (.invokevirtual 108, 3) := by decide +kernel
theorem dX7_judgeRow_97 : decode cX7_judgeRow 97 = .ok (.istore 10, 2) := by decide +kernel
theorem dX7_judgeRow_99 : decode cX7_judgeRow 99 = .ok (.iload 10, 2) := by decide +kernel
theorem dX7_judgeRow_101 : decode cX7_judgeRow 101 = .ok (.ifCond .ge 19, 3) := by decide +kernel
theorem dX7_judgeRow_104 : decode cX7_judgeRow 104 = .ok (.iload 8, 2) := by decide +kernel
theorem dX7_judgeRow_106 : decode cX7_judgeRow 106 = .ok (.ifCond .ne 8, 3) := by decide +kernel
theorem dX7_judgeRow_109 : decode cX7_judgeRow 109 = .ok (.bipush (-5), 2) := by decide +kernel
theorem dX7_judgeRow_111 : decode cX7_judgeRow 111 = .ok (.goto 8, 3) := by decide +kernel
theorem dX7_judgeRow_114 : decode cX7_judgeRow 114 = .ok (.bipush (-10), 2) := by decide +kernel
theorem dX7_judgeRow_116 : decode cX7_judgeRow 116 = .ok (.iload 8, 2) := by decide +kernel
theorem dX7_judgeRow_118 : decode cX7_judgeRow 118 = .ok (.isub, 1) := by decide +kernel
theorem dX7_judgeRow_119 : decode cX7_judgeRow 119 = .ok (.ireturn, 1) := by decide +kernel
theorem dX7_judgeRow_120 : decode cX7_judgeRow 120 = .ok (.iload 5, 2) := by decide +kernel
theorem dX7_judgeRow_122 : decode cX7_judgeRow 122 = .ok (.iload 10, 2) := by decide +kernel
theorem dX7_judgeRow_124 : decode cX7_judgeRow 124 = .ok (.iadd, 1) := by decide +kernel
theorem dX7_judgeRow_125 : decode cX7_judgeRow 125 = .ok (.istore 5, 2) := by decide +kernel
theorem dX7_judgeRow_127 : decode cX7_judgeRow 127 = .ok (.iload 9, 2) := by decide +kernel
theorem dX7_judgeRow_129 : decode cX7_judgeRow 129 = .ok (.iload_n 3, 1) := by decide +kernel
theorem dX7_judgeRow_130 : decode cX7_judgeRow 130 = .ok (.if_icmp .ne 6, 3) := by decide +kernel
theorem dX7_judgeRow_133 : decode cX7_judgeRow 133 = .ok (.iload 5, 2) := by decide +kernel
theorem dX7_judgeRow_135 : decode cX7_judgeRow 135 = .ok (.ireturn, 1) := by decide +kernel
theorem dX7_judgeRow_136 : decode cX7_judgeRow 136 = .ok (.iload 9, 2) := by decide +kernel
theorem dX7_judgeRow_138 : decode cX7_judgeRow 138 = .ok (.istore 6, 2) := by decide +kernel
theorem dX7_judgeRow_140 : decode cX7_judgeRow 140 = .ok (.iinc 7 1, 3) := by decide +kernel
theorem dX7_judgeRow_143 : decode cX7_judgeRow 143 = .ok (.goto (-122), 3) := by decide +kernel
theorem dX7_judgeRow_146 : decode cX7_judgeRow 146 = .ok (.sipush 1000, 3) := by decide +kernel
theorem dX7_judgeRow_149 : decode cX7_judgeRow 149 = .ok (.aload_n 1, 1) := by decide +kernel
theorem dX7_judgeRow_150 : decode cX7_judgeRow 150 = .ok (.getfield 329, 3) := by decide +kernel
theorem dX7_judgeRow_153 : decode cX7_judgeRow 153 = .ok (.iadd, 1) := by decide +kernel
theorem dX7_judgeRow_154 : decode cX7_judgeRow 154 = .ok (.iload_n 2, 1) := by decide +kernel
theorem dX7_judgeRow_155 : decode cX7_judgeRow 155 = .ok (.isub, 1) := by decide +kernel
theorem dX7_judgeRow_156 : decode cX7_judgeRow 156 = .ok (.ireturn, 1) := by decide +kernel
theorem dX7_isName_0 : decode cX7_isName 0 = .ok (.iload_n 1, 1) := by decide +kernel
theorem dX7_isName_1 : decode cX7_isName 1 = .ok (.ifCond .lt 15, 3) := by decide +kernel
theorem dX7_isName_4 : decode cX7_isName 4 = .ok (.iload_n 1, 1) := by decide +kernel
theorem dX7_isName_5 : decode cX7_isName 5 = .ok (.aload_n 0, 1) := by decide +kernel
theorem dX7_isName_6 : decode cX7_isName 6 = .ok (.getfield 73, 3) := by decide +kernel
theorem dX7_isName_9 : decode cX7_isName 9 = .ok (.if_icmp .ge 7, 3) := by decide +kernel
theorem dX7_isName_12 : decode cX7_isName 12 = .ok (.iconst 1, 1) := by decide +kernel
theorem dX7_isName_13 : decode cX7_isName 13 = .ok (.goto 4, 3) := by decide +kernel
theorem dX7_isName_16 : decode cX7_isName 16 = .ok (.iconst 0, 1) := by decide +kernel
theorem dX7_isName_17 : decode cX7_isName 17 = .ok (.ireturn, 1) := by decide +kernel
theorem dX7_isTrade_0 : decode cX7_isTrade 0 = .ok (.iload_n 1, 1) := by decide +kernel
theorem dX7_isTrade_1 : decode cX7_isTrade 1 = .ok (.ifCond .lt 18, 3) := by decide +kernel
theorem dX7_isTrade_4 : decode cX7_isTrade 4 = .ok (.iload_n 1, 1) := by decide +kernel
theorem dX7_isTrade_5 : decode cX7_isTrade 5 = .ok (.aload_n 0, 1) := by decide +kernel
theorem dX7_isTrade_6 : decode cX7_isTrade 6 = .ok (.getfield 62, 3) := by decide +kernel
theorem dX7_isTrade_9 : decode cX7_isTrade 9 = .ok (.getfield 153, 3) := by decide +kernel
theorem dX7_isTrade_12 : decode cX7_isTrade 12 = .ok (.if_icmp .ge 7, 3) := by decide +kernel
theorem dX7_isTrade_15 : decode cX7_isTrade 15 = .ok (.iconst 1, 1) := by decide +kernel
theorem dX7_isTrade_16 : decode cX7_isTrade 16 = .ok (.goto 4, 3) := by decide +kernel
theorem dX7_isTrade_19 : decode cX7_isTrade 19 = .ok (.iconst 0, 1) := by decide +kernel
theorem dX7_isTrade_20 : decode cX7_isTrade 20 = .ok (.ireturn, 1) := by decide +kernel
theorem dX7_isBlank_0 : decode cX7_isBlank 0 = .ok (.iload_n 1, 1) := by decide +kernel
theorem dX7_isBlank_1 : decode cX7_isBlank 1 = .ok (.ifCond .lt 18, 3) := by decide +kernel
theorem dX7_isBlank_4 : decode cX7_isBlank 4 = .ok (.iload_n 1, 1) := by decide +kernel
theorem dX7_isBlank_5 : decode cX7_isBlank 5 = .ok (.aload_n 0, 1) := by decide +kernel
theorem dX7_isBlank_6 : decode cX7_isBlank 6 = .ok (.getfield 62, 3) := by decide +kernel
theorem dX7_isBlank_9 : decode cX7_isBlank 9 = .ok (.getfield 245, 3) := by decide +kernel
theorem dX7_isBlank_12 : decode cX7_isBlank 12 = .ok (.if_icmp .ge 7, 3) := by decide +kernel
theorem dX7_isBlank_15 : decode cX7_isBlank 15 = .ok (.iconst 1, 1) := by decide +kernel
theorem dX7_isBlank_16 : decode cX7_isBlank 16 = .ok (.goto 4, 3) := by decide +kernel
theorem dX7_isBlank_19 : decode cX7_isBlank 19 = .ok (.iconst 0, 1) := by decide +kernel
theorem dX7_isBlank_20 : decode cX7_isBlank 20 = .ok (.ireturn, 1) := by decide +kernel
theorem dX7_isLetters_0 : decode cX7_isLetters 0 = .ok (.iload_n 0, 1) := by decide +kernel
theorem dX7_isLetters_1 : decode cX7_isLetters 1 = .ok (.iconst 1, 1) := by decide +kernel
theorem dX7_isLetters_2 : decode cX7_isLetters 2 = .ok (.if_icmp .lt 13, 3) := by decide +kernel
theorem dX7_isLetters_5 : decode cX7_isLetters 5 = .ok (.iload_n 0, 1) := by decide +kernel
theorem dX7_isLetters_6 : decode cX7_isLetters 6 = .ok (.bipush 12, 2) := by decide +kernel
theorem dX7_isLetters_8 : decode cX7_isLetters 8 = .ok (.if_icmp .gt 7, 3) := by decide +kernel
theorem dX7_isLetters_11 : decode cX7_isLetters 11 = .ok (.iconst 1, 1) := by decide +kernel
theorem dX7_isLetters_12 : decode cX7_isLetters 12 = .ok (.goto 4, 3) := by decide +kernel
theorem dX7_isLetters_15 : decode cX7_isLetters 15 = .ok (.iconst 0, 1) := by decide +kernel
theorem dX7_isLetters_16 : decode cX7_isLetters 16 = .ok (.ireturn, 1) := by decide +kernel
theorem dX7_isHour_0 : decode cX7_isHour 0 = .ok (.iload_n 0, 1) := by decide +kernel
theorem dX7_isHour_1 : decode cX7_isHour 1 = .ok (.ifCond .lt 13, 3) := by decide +kernel
theorem dX7_isHour_4 : decode cX7_isHour 4 = .ok (.iload_n 0, 1) := by decide +kernel
theorem dX7_isHour_5 : decode cX7_isHour 5 = .ok (.bipush 99, 2) := by decide +kernel
theorem dX7_isHour_7 : decode cX7_isHour 7 = .ok (.if_icmp .gt 7, 3) := by decide +kernel
theorem dX7_isHour_10 : decode cX7_isHour 10 = .ok (.iconst 1, 1) := by decide +kernel
theorem dX7_isHour_11 : decode cX7_isHour 11 = .ok (.goto 4, 3) := by decide +kernel
theorem dX7_isHour_14 : decode cX7_isHour 14 = .ok (.iconst 0, 1) := by decide +kernel
theorem dX7_isHour_15 : decode cX7_isHour 15 = .ok (.ireturn, 1) := by decide +kernel
theorem dX7_isFriday_0 : decode cX7_isFriday 0 = .ok (.iload_n 0, 1) := by decide +kernel
theorem dX7_isFriday_1 : decode cX7_isFriday 1 = .ok (.ifCond .lt 13, 3) := by decide +kernel
theorem dX7_isFriday_4 : decode cX7_isFriday 4 = .ok (.iload_n 0, 1) := by decide +kernel
theorem dX7_isFriday_5 : decode cX7_isFriday 5 = .ok (.bipush 9, 2) := by decide +kernel
theorem dX7_isFriday_7 : decode cX7_isFriday 7 = .ok (.if_icmp .ge 7, 3) := by decide +kernel
theorem dX7_isFriday_10 : decode cX7_isFriday 10 = .ok (.iconst 1, 1) := by decide +kernel
theorem dX7_isFriday_11 : decode cX7_isFriday 11 = .ok (.goto 4, 3) := by decide +kernel
theorem dX7_isFriday_14 : decode cX7_isFriday 14 = .ok (.iconst 0, 1) := by decide +kernel
theorem dX7_isFriday_15 : decode cX7_isFriday 15 = .ok (.ireturn, 1) := by decide +kernel
theorem dX7_isKind_0 : decode cX7_isKind 0 = .ok (.iload_n 0, 1) := by decide +kernel
theorem dX7_isKind_1 : decode cX7_isKind 1 = .ok (.ifCond .lt 13, 3) := by decide +kernel
theorem dX7_isKind_4 : decode cX7_isKind 4 = .ok (.iload_n 0, 1) := by decide +kernel
theorem dX7_isKind_5 : decode cX7_isKind 5 = .ok (.bipush 7, 2) := by decide +kernel
theorem dX7_isKind_7 : decode cX7_isKind 7 = .ok (.if_icmp .ge 7, 3) := by decide +kernel
theorem dX7_isKind_10 : decode cX7_isKind 10 = .ok (.iconst 1, 1) := by decide +kernel
theorem dX7_isKind_11 : decode cX7_isKind 11 = .ok (.goto 4, 3) := by decide +kernel
theorem dX7_isKind_14 : decode cX7_isKind 14 = .ok (.iconst 0, 1) := by decide +kernel
theorem dX7_isKind_15 : decode cX7_isKind 15 = .ok (.ireturn, 1) := by decide +kernel
theorem dX7_isParted_0 : decode cX7_isParted 0 = .ok (.iload_n 0, 1) := by decide +kernel
theorem dX7_isParted_1 : decode cX7_isParted 1 = .ok (.ifCond .lt 14, 3) := by decide +kernel
theorem dX7_isParted_4 : decode cX7_isParted 4 = .ok (.iload_n 0, 1) := by decide +kernel
theorem dX7_isParted_5 : decode cX7_isParted 5 = .ok (.sipush 999, 3) := by decide +kernel
theorem dX7_isParted_8 : decode cX7_isParted 8 = .ok (.if_icmp .gt 7, 3) := by decide +kernel
theorem dX7_isParted_11 : decode cX7_isParted 11 = .ok (.iconst 1, 1) := by decide +kernel
theorem dX7_isParted_12 : decode cX7_isParted 12 = .ok (.goto 4, 3) := by decide +kernel
theorem dX7_isParted_15 : decode cX7_isParted 15 = .ok (.iconst 0, 1) := by decide +kernel
theorem dX7_isParted_16 : decode cX7_isParted 16 = .ok (.ireturn, 1) := by decide +kernel
theorem dX7_tapeAt_0 : decode cX7_tapeAt 0 = .ok (.iload_n 1, 1) := by decide +kernel
theorem dX7_tapeAt_1 : decode cX7_tapeAt 1 = .ok (.ifCond .lt 18, 3) := by decide +kernel
theorem dX7_tapeAt_4 : decode cX7_tapeAt 4 = .ok (.iload_n 1, 1) := by decide +kernel
theorem dX7_tapeAt_5 : decode cX7_tapeAt 5 = .ok (.bipush 6, 2) := by decide +kernel
theorem dX7_tapeAt_7 : decode cX7_tapeAt 7 = .ok (.if_icmp .ge 12, 3) := by decide +kernel
theorem dX7_tapeAt_10 : decode cX7_tapeAt 10 = .ok (.aload_n 0, 1) := by decide +kernel
theorem dX7_tapeAt_11 : decode cX7_tapeAt 11 = .ok (.getfield 51, 3) := by decide +kernel
theorem dX7_tapeAt_14 : decode cX7_tapeAt 14 = .ok (.iload_n 1, 1) := by decide +kernel
theorem dX7_tapeAt_15 : decode cX7_tapeAt 15 = .ok (.aaload, 1) := by decide +kernel
theorem dX7_tapeAt_16 : decode cX7_tapeAt 16 = .ok (.goto 4, 3) := by decide +kernel
theorem dX7_tapeAt_19 : decode cX7_tapeAt 19 = .ok (.aconst_null, 1) := by decide +kernel
theorem dX7_tapeAt_20 : decode cX7_tapeAt 20 = .ok (.areturn, 1) := by decide +kernel
theorem dX7_habitOf_0 : decode cX7_habitOf 0 = .ok (.aload_n 0, 1) := by decide +kernel
theorem dX7_habitOf_1 : decode cX7_habitOf 1 = .ok (.getfield 62, 3) := by decide +kernel
theorem dX7_habitOf_4 : decode cX7_habitOf 4 = .ok (.getfield 104, 3) := by decide +kernel
theorem dX7_habitOf_7 : decode cX7_habitOf 7 = .ok (.iload_n 1, 1) := by decide +kernel
theorem dX7_habitOf_8 : decode cX7_habitOf 8 = .ok (.aload_n 0, 1) := by decide +kernel
theorem dX7_habitOf_9 : decode cX7_habitOf 9 = .ok (.getfield 11, 3) := by decide +kernel
theorem dX7_habitOf_12 : decode cX7_habitOf 12 = .ok (.iload_n 1, 1) := by decide +kernel
theorem dX7_habitOf_13 : decode cX7_habitOf 13 = .ok (.iaload, 1) := by decide +kernel
theorem dX7_habitOf_14 : decode cX7_habitOf 14 = .ok (.iload_n 2, 1) := by decide +kernel
theorem dX7_habitOf_15 : decode cX7_habitOf 15 = .ok (.invokevirtual 330, 3) := by decide +kernel
theorem dX7_habitOf_18 : decode cX7_habitOf 18 = .ok (.ireturn, 1) := by decide +kernel
theorem dX7_spreadAll_0 : decode cX7_spreadAll 0 = .ok (.aload_n 0, 1) := by decide +kernel
theorem dX7_spreadAll_1 : decode cX7_spreadAll 1 = .ok (.getfield 31, 3) := by decide +kernel
theorem dX7_spreadAll_4 : decode cX7_spreadAll 4 = .ok (.aload_n 0, 1) := by decide +kernel
theorem dX7_spreadAll_5 : decode cX7_spreadAll 5 = .ok (.getfield 62, 3) := by decide +kernel
theorem dX7_spreadAll_8 : decode cX7_spreadAll 8 = .ok (.aload_n 0, 1) := by decide +kernel
theorem dX7_spreadAll_9 : decode cX7_spreadAll 9 = .ok (.getfield 73, 3) := by decide +kernel
theorem dX7_spreadAll_12 : decode cX7_spreadAll 12 = .ok (.invokevirtual 125, 3) := by decide +kernel
theorem dX7_spreadAll_15 : decode cX7_spreadAll 15 = .ok (.aload_n 0, 1) := by decide +kernel
theorem dX7_spreadAll_16 : decode cX7_spreadAll 16 = .ok (.getfield 31, 3) := by decide +kernel
theorem dX7_spreadAll_19 : decode cX7_spreadAll 19 = .ok (.iconst 0, 1) := by decide +kernel
theorem dX7_spreadAll_20 : decode cX7_spreadAll 20 = .ok (.invokevirtual 143, 3) := by decide +kernel
theorem dX7_spreadAll_23 : decode cX7_spreadAll 23 = .ok (.return_, 1) := by decide +kernel
theorem dX8_init_0 : decode cX8_init 0 = .ok (.aload_n 0, 1) := by decide +kernel
theorem dX8_init_1 : decode cX8_init 1 = .ok (.invokespecial 1, 3) := by decide +kernel
theorem dX8_init_4 : decode cX8_init 4 = .ok (.aload_n 0, 1) := by decide +kernel
theorem dX8_init_5 : decode cX8_init 5 = .ok (.iconst 0, 1) := by decide +kernel
theorem dX8_init_6 : decode cX8_init 6 = .ok (.putfield 7, 3) := by decide +kernel
theorem dX8_init_9 : decode cX8_init 9 = .ok (.aload_n 0, 1) := by decide +kernel
theorem dX8_init_10 : decode cX8_init 10 = .ok (.bipush 8, 2) := by decide +kernel
theorem dX8_init_12 : decode cX8_init 12 = .ok (.newarray .int, 2) := by decide +kernel
theorem dX8_init_14 : decode cX8_init 14 = .ok (.putfield 13, 3) := by decide +kernel
theorem dX8_init_17 : decode cX8_init 17 = .ok (.aload_n 0, 1) := by decide +kernel
theorem dX8_init_18 : decode cX8_init 18 = .ok (.bipush 64, 2) := by decide +kernel
theorem dX8_init_20 : decode cX8_init 20 = .ok (.newarray .int, 2) := by decide +kernel
theorem dX8_init_22 : decode cX8_init 22 = .ok (.putfield 17, 3) := by decide +kernel
theorem dX8_init_25 : decode cX8_init 25 = .ok (.aload_n 0, 1) := by decide +kernel
theorem dX8_init_26 : decode cX8_init 26 = .ok (.bipush 8, 2) := by decide +kernel
theorem dX8_init_28 : decode cX8_init 28 = .ok (.newarray .int, 2) := by decide +kernel
theorem dX8_init_30 : decode cX8_init 30 = .ok (.dup, 1) := by decide +kernel
theorem dX8_init_31 : decode cX8_init 31 = .ok (.iconst 0, 1) := by decide +kernel
theorem dX8_init_32 : decode cX8_init 32 = .ok (.iconst (-1), 1) := by decide +kernel
theorem dX8_init_33 : decode cX8_init 33 = .ok (.iastore, 1) := by decide +kernel
theorem dX8_init_34 : decode cX8_init 34 = .ok (.dup, 1) := by decide +kernel
theorem dX8_init_35 : decode cX8_init 35 = .ok (.iconst 1, 1) := by decide +kernel
theorem dX8_init_36 : decode cX8_init 36 = .ok (.iconst (-1), 1) := by decide +kernel
theorem dX8_init_37 : decode cX8_init 37 = .ok (.iastore, 1) := by decide +kernel
theorem dX8_init_38 : decode cX8_init 38 = .ok (.dup, 1) := by decide +kernel
theorem dX8_init_39 : decode cX8_init 39 = .ok (.iconst 2, 1) := by decide +kernel
theorem dX8_init_40 : decode cX8_init 40 = .ok (.iconst (-1), 1) := by decide +kernel
theorem dX8_init_41 : decode cX8_init 41 = .ok (.iastore, 1) := by decide +kernel
theorem dX8_init_42 : decode cX8_init 42 = .ok (.dup, 1) := by decide +kernel
theorem dX8_init_43 : decode cX8_init 43 = .ok (.iconst 3, 1) := by decide +kernel
theorem dX8_init_44 : decode cX8_init 44 = .ok (.iconst (-1), 1) := by decide +kernel
theorem dX8_init_45 : decode cX8_init 45 = .ok (.iastore, 1) := by decide +kernel
theorem dX8_init_46 : decode cX8_init 46 = .ok (.dup, 1) := by decide +kernel
theorem dX8_init_47 : decode cX8_init 47 = .ok (.iconst 4, 1) := by decide +kernel
theorem dX8_init_48 : decode cX8_init 48 = .ok (.iconst (-1), 1) := by decide +kernel
theorem dX8_init_49 : decode cX8_init 49 = .ok (.iastore, 1) := by decide +kernel
theorem dX8_init_50 : decode cX8_init 50 = .ok (.dup, 1) := by decide +kernel
theorem dX8_init_51 : decode cX8_init 51 = .ok (.iconst 5, 1) := by decide +kernel
theorem dX8_init_52 : decode cX8_init 52 = .ok (.iconst (-1), 1) := by decide +kernel
theorem dX8_init_53 : decode cX8_init 53 = .ok (.iastore, 1) := by decide +kernel
theorem dX8_init_54 : decode cX8_init 54 = .ok (.dup, 1) := by decide +kernel
theorem dX8_init_55 : decode cX8_init 55 = .ok (.bipush 6, 2) := by decide +kernel
theorem dX8_init_57 : decode cX8_init 57 = .ok (.iconst (-1), 1) := by decide +kernel
theorem dX8_init_58 : decode cX8_init 58 = .ok (.iastore, 1) := by decide +kernel
theorem dX8_init_59 : decode cX8_init 59 = .ok (.dup, 1) := by decide +kernel
theorem dX8_init_60 : decode cX8_init 60 = .ok (.bipush 7, 2) := by decide +kernel
theorem dX8_init_62 : decode cX8_init 62 = .ok (.iconst (-1), 1) := by decide +kernel
theorem dX8_init_63 : decode cX8_init 63 = .ok (.iastore, 1) := by decide +kernel
theorem dX8_init_64 : decode cX8_init 64 = .ok (.putfield 20, 3) := by decide +kernel
theorem dX8_init_67 : decode cX8_init 67 = .ok (.aload_n 0, 1) := by decide +kernel
theorem dX8_init_68 : decode cX8_init 68 = .ok (.iconst 0, 1) := by decide +kernel
theorem dX8_init_69 : decode cX8_init 69 = .ok (.putfield 23, 3) := by decide +kernel
theorem dX8_init_72 : decode cX8_init 72 = .ok (.aload_n 0, 1) := by decide +kernel
theorem dX8_init_73 : decode cX8_init 73 = .ok (.iconst (-1), 1) := by decide +kernel
theorem dX8_init_74 : decode cX8_init 74 = .ok (.putfield 26, 3) := by decide +kernel
theorem dX8_init_77 : decode cX8_init 77 = .ok (.aload_n 0, 1) := by decide +kernel
theorem dX8_init_78 : decode cX8_init 78 = .ok (.iconst 0, 1) := by decide +kernel
theorem dX8_init_79 : decode cX8_init 79 = .ok (.putfield 29, 3) := by decide +kernel
theorem dX8_init_82 : decode cX8_init 82 = .ok (.aload_n 0, 1) := by decide +kernel
theorem dX8_init_83 : decode cX8_init 83 = .ok (.iconst 0, 1) := by decide +kernel
theorem dX8_init_84 : decode cX8_init 84 = .ok (.putfield 32, 3) := by decide +kernel
theorem dX8_init_87 : decode cX8_init 87 = .ok (.aload_n 0, 1) := by decide +kernel
theorem dX8_init_88 : decode cX8_init 88 = .ok (.iconst 0, 1) := by decide +kernel
theorem dX8_init_89 : decode cX8_init 89 = .ok (.putfield 35, 3) := by decide +kernel
theorem dX8_init_92 : decode cX8_init 92 = .ok (.aload_n 0, 1) := by decide +kernel
theorem dX8_init_93 : decode cX8_init 93 = .ok (.bipush 100, 2) := by decide +kernel
theorem dX8_init_95 : decode cX8_init 95 = .ok (.newarray .int, 2) := by decide +kernel
theorem dX8_init_97 : decode cX8_init 97 = .ok (.putfield 38, 3) := by decide +kernel
theorem dX8_init_100 : decode cX8_init 100 = .ok (.aload_n 0, 1) := by decide +kernel
theorem dX8_init_101 : decode cX8_init 101 = .ok (.bipush 6, 2) := by decide +kernel
theorem dX8_init_103 : decode cX8_init 103 = .ok (.newarray .int, 2) := by decide +kernel
theorem dX8_init_105 : decode cX8_init 105 = .ok (.putfield 41, 3) := by decide +kernel
theorem dX8_init_108 : decode cX8_init 108 = .ok (.aload_n 0, 1) := by decide +kernel
theorem dX8_init_109 : decode cX8_init 109 = .ok (.bipush 60, 2) := by decide +kernel
theorem dX8_init_111 : decode cX8_init 111 = .ok (.newarray .int, 2) := by decide +kernel
theorem dX8_init_113 : decode cX8_init 113 = .ok (.putfield 44, 3) := by decide +kernel
theorem dX8_init_116 : decode cX8_init 116 = .ok (.aload_n 0, 1) := by decide +kernel
theorem dX8_init_117 : decode cX8_init 117 = .ok (.bipush 60, 2) := by decide +kernel
theorem dX8_init_119 : decode cX8_init 119 = .ok (.newarray .int, 2) := by decide +kernel
theorem dX8_init_121 : decode cX8_init 121 = .ok (.putfield 47, 3) := by decide +kernel
theorem dX8_init_124 : decode cX8_init 124 = .ok (.aload_n 0, 1) := by decide +kernel
theorem dX8_init_125 : decode cX8_init 125 = .ok (.bipush 60, 2) := by decide +kernel
theorem dX8_init_127 : decode cX8_init 127 = .ok (.newarray .int, 2) := by decide +kernel
theorem dX8_init_129 : decode cX8_init 129 = .ok (.putfield 50, 3) := by decide +kernel
theorem dX8_init_132 : decode cX8_init 132 = .ok (.aload_n 0, 1) := by decide +kernel
theorem dX8_init_133 : decode cX8_init 133 = .ok (.bipush 60, 2) := by decide +kernel
theorem dX8_init_135 : decode cX8_init 135 = .ok (.newarray .int, 2) := by decide +kernel
theorem dX8_init_137 : decode cX8_init 137 = .ok (.putfield 53, 3) := by decide +kernel
theorem dX8_init_140 : decode cX8_init 140 = .ok (.aload_n 0, 1) := by decide +kernel
theorem dX8_init_141 : decode cX8_init 141 = .ok (.sipush 600, 3) := by decide +kernel
theorem dX8_init_144 : decode cX8_init 144 = .ok (.newarray .int, 2) := by decide +kernel
theorem dX8_init_146 : decode cX8_init 146 = .ok (.putfield 56, 3) := by decide +kernel
theorem dX8_init_149 : decode cX8_init 149 = .ok (.aload_n 0, 1) := by decide +kernel
theorem dX8_init_150 : decode cX8_init 150 = .ok (.bipush 101, 2) := by decide +kernel
theorem dX8_init_152 : decode cX8_init 152 = .ok (.newarray .int, 2) := by decide +kernel
theorem dX8_init_154 : decode cX8_init 154 = .ok (.putfield 59, 3) := by decide +kernel
theorem dX8_init_157 : decode cX8_init 157 = .ok (.aload_n 0, 1) := by decide +kernel
theorem dX8_init_158 : decode cX8_init 158 = .ok (.iconst 0, 1) := by decide +kernel
theorem dX8_init_159 : decode cX8_init 159 = .ok (.putfield 62, 3) := by decide +kernel
theorem dX8_init_162 : decode cX8_init 162 = .ok (.aload_n 0, 1) := by decide +kernel
theorem dX8_init_163 : decode cX8_init 163 = .ok (.iconst 0, 1) := by decide +kernel
theorem dX8_init_164 : decode cX8_init 164 = .ok (.putfield 65, 3) := by decide +kernel
theorem dX8_init_167 : decode cX8_init 167 = .ok (.aload_n 0, 1) := by decide +kernel
theorem dX8_init_168 : decode cX8_init 168 = .ok (.iconst 0, 1) := by decide +kernel
theorem dX8_init_169 : decode cX8_init 169 = .ok (.putfield 68, 3) := by decide +kernel
theorem dX8_init_172 : decode cX8_init 172 = .ok (.aload_n 0, 1) := by decide +kernel
theorem dX8_init_173 : decode cX8_init 173 = .ok (.iconst 5, 1) := by decide +kernel
theorem dX8_init_174 : decode cX8_init 174 = .ok (.newarray .int, 2) := by decide +kernel
theorem dX8_init_176 : decode cX8_init 176 = .ok (.putfield 71, 3) := by decide +kernel
theorem dX8_init_179 : decode cX8_init 179 = .ok (.aload_n 0, 1) := by decide +kernel
theorem dX8_init_180 : decode cX8_init 180 = .ok (.bipush 100, 2) := by decide +kernel
theorem dX8_init_182 : decode cX8_init 182 = .ok (.newarray .boolean, 2) := by decide +kernel
theorem dX8_init_184 : decode cX8_init 184 = .ok (.putfield 74, 3) := by decide +kernel
theorem dX8_init_187 : decode cX8_init 187 = .ok (.aload_n 0, 1) := by decide +kernel
theorem dX8_init_188 : decode cX8_init 188 = .ok (.bipush 64, 2) := by decide +kernel
theorem dX8_init_190 : decode cX8_init 190 = .ok (.newarray .int, 2) := by decide +kernel
theorem dX8_init_192 : decode cX8_init 192 = .ok (.putfield 78, 3) := by decide +kernel
theorem dX8_init_195 : decode cX8_init 195 = .ok (.aload_n 0, 1) := by decide +kernel
theorem dX8_init_196 : decode cX8_init 196 = .ok (.bipush 80, 2) := by decide +kernel
theorem dX8_init_198 : decode cX8_init 198 = .ok (.newarray .int, 2) := by decide +kernel
theorem dX8_init_200 : decode cX8_init 200 = .ok (.putfield 81, 3) := by decide +kernel
theorem dX8_init_203 : decode cX8_init 203 = .ok (.aload_n 0, 1) := by decide +kernel
theorem dX8_init_204 : decode cX8_init 204 = .ok (.bipush 80, 2) := by decide +kernel
theorem dX8_init_206 : decode cX8_init 206 = .ok (.newarray .int, 2) := by decide +kernel
theorem dX8_init_208 : decode cX8_init 208 = .ok (.putfield 84, 3) := by decide +kernel
theorem dX8_init_211 : decode cX8_init 211 = .ok (.aload_n 0, 1) := by decide +kernel
theorem dX8_init_212 : decode cX8_init 212 = .ok (.bipush 9, 2) := by decide +kernel
theorem dX8_init_214 : decode cX8_init 214 = .ok (.putfield 87, 3) := by decide +kernel
theorem dX8_init_217 : decode cX8_init 217 = .ok (.aload_n 0, 1) := by decide +kernel
theorem dX8_init_218 : decode cX8_init 218 = .ok (.bipush 10, 2) := by decide +kernel
theorem dX8_init_220 : decode cX8_init 220 = .ok (.newarray .int, 2) := by decide +kernel
theorem dX8_init_222 : decode cX8_init 222 = .ok (.putfield 90, 3) := by decide +kernel
theorem dX8_init_225 : decode cX8_init 225 = .ok (.aload_n 0, 1) := by decide +kernel
theorem dX8_init_226 : decode cX8_init 226 = .ok (.iconst 0, 1) := by decide +kernel
theorem dX8_init_227 : decode cX8_init 227 = .ok (.putfield 93, 3) := by decide +kernel
theorem dX8_init_230 : decode cX8_init 230 = .ok (.aload_n 0, 1) := by decide +kernel
theorem dX8_init_231 : decode cX8_init 231 = .ok (.bipush 16, 2) := by decide +kernel
theorem dX8_init_233 : decode cX8_init 233 = .ok (.newarray .int, 2) := by decide +kernel
theorem dX8_init_235 : decode cX8_init 235 = .ok (.putfield 96, 3) := by decide +kernel
theorem dX8_init_238 : decode cX8_init 238 = .ok (.aload_n 0, 1) := by decide +kernel
theorem dX8_init_239 : decode cX8_init 239 = .ok (.bipush 16, 2) := by decide +kernel
theorem dX8_init_241 : decode cX8_init 241 = .ok (.newarray .int, 2) := by decide +kernel
theorem dX8_init_243 : decode cX8_init 243 = .ok (.putfield 99, 3) := by decide +kernel
theorem dX8_init_246 : decode cX8_init 246 = .ok (.aload_n 0, 1) := by decide +kernel
theorem dX8_init_247 : decode cX8_init 247 = .ok (.bipush 16, 2) := by decide +kernel
theorem dX8_init_249 : decode cX8_init 249 = .ok (.newarray .int, 2) := by decide +kernel
theorem dX8_init_251 : decode cX8_init 251 = .ok (.putfield 102, 3) := by decide +kernel
theorem dX8_init_254 : decode cX8_init 254 = .ok (.aload_n 0, 1) := by decide +kernel
theorem dX8_init_255 : decode cX8_init 255 = .ok (.bipush 16, 2) := by decide +kernel
theorem dX8_init_257 : decode cX8_init 257 = .ok (.newarray .int, 2) := by decide +kernel
theorem dX8_init_259 : decode cX8_init 259 = .ok (.putfield 105, 3) := by decide +kernel
theorem dX8_init_262 : decode cX8_init 262 = .ok (.aload_n 0, 1) := by decide +kernel
theorem dX8_init_263 : decode cX8_init 263 = .ok (.bipush 16, 2) := by decide +kernel
theorem dX8_init_265 : decode cX8_init 265 = .ok (.newarray .int, 2) := by decide +kernel
theorem dX8_init_267 : decode cX8_init 267 = .ok (.putfield 108, 3) := by decide +kernel
theorem dX8_init_270 : decode cX8_init 270 = .ok (.aload_n 0, 1) := by decide +kernel
theorem dX8_init_271 : decode cX8_init 271 = .ok (.bipush 10, 2) := by decide +kernel
theorem dX8_init_273 : decode cX8_init 273 = .ok (.newarray .long, 2) := by decide +kernel
theorem dX8_init_275 : decode cX8_init 275 = .ok (.putfield 111, 3) := by decide +kernel
theorem dX8_init_278 : decode cX8_init 278 = .ok (.aload_n 0, 1) := by decide +kernel
theorem dX8_init_279 : decode cX8_init 279 = .ok (.lconst 1, 1) := by decide +kernel
theorem dX8_init_280 : decode cX8_init 280 = .ok (.putfield 115, 3) := by decide +kernel
theorem dX8_init_283 : decode cX8_init 283 = .ok (.aload_n 0, 1) := by decide +kernel
theorem dX8_init_284 : decode cX8_init 284 = .ok (.iconst 0, 1) := by decide +kernel
theorem dX8_init_285 : decode cX8_init 285 = .ok (.putfield 119, 3) := by decide +kernel
theorem dX8_init_288 : decode cX8_init 288 = .ok (.aload_n 0, 1) := by decide +kernel
theorem dX8_init_289 : decode cX8_init 289 = .ok (.bipush 6, 2) := by decide +kernel
theorem dX8_init_291 : decode cX8_init 291 = .ok (.newarray .int, 2) := by decide +kernel
theorem dX8_init_293 : decode cX8_init 293 = .ok (.putfield 122, 3) := by decide +kernel
theorem dX8_init_296 : decode cX8_init 296 = .ok (.aload_n 0, 1) := by decide +kernel
theorem dX8_init_297 : decode cX8_init 297 = .ok (.bipush 7, 2) := by decide +kernel
theorem dX8_init_299 : decode cX8_init 299 = .ok (.newarray .int, 2) := by decide +kernel
theorem dX8_init_301 : decode cX8_init 301 = .ok (.putfield 125, 3) := by decide +kernel
theorem dX8_init_304 : decode cX8_init 304 = .ok (.aload_n 0, 1) := by decide +kernel
theorem dX8_init_305 : decode cX8_init 305 = .ok (.bipush 7, 2) := by decide +kernel
theorem dX8_init_307 : decode cX8_init 307 = .ok (.newarray .int, 2) := by decide +kernel
theorem dX8_init_309 : decode cX8_init 309 = .ok (.putfield 128, 3) := by decide +kernel
theorem dX8_init_312 : decode cX8_init 312 = .ok (.aload_n 0, 1) := by decide +kernel
theorem dX8_init_313 : decode cX8_init 313 = .ok (.bipush 6, 2) := by decide +kernel
theorem dX8_init_315 : decode cX8_init 315 = .ok (.newarray .int, 2) := by decide +kernel
theorem dX8_init_317 : decode cX8_init 317 = .ok (.putfield 131, 3) := by decide +kernel
theorem dX8_init_320 : decode cX8_init 320 = .ok (.aload_n 0, 1) := by decide +kernel
theorem dX8_init_321 : decode cX8_init 321 = .ok (.iconst 0, 1) := by decide +kernel
theorem dX8_init_322 : decode cX8_init 322 = .ok (.putfield 134, 3) := by decide +kernel
theorem dX8_init_325 : decode cX8_init 325 = .ok (.aload_n 0, 1) := by decide +kernel
theorem dX8_init_326 : decode cX8_init 326 = .ok (.iconst (-1), 1) := by decide +kernel
theorem dX8_init_327 : decode cX8_init 327 = .ok (.putfield 138, 3) := by decide +kernel
theorem dX8_init_330 : decode cX8_init 330 = .ok (.aload_n 0, 1) := by decide +kernel
theorem dX8_init_331 : decode cX8_init 331 = .ok (.iconst 0, 1) := by decide +kernel
theorem dX8_init_332 : decode cX8_init 332 = .ok (.putfield 141, 3) := by decide +kernel
theorem dX8_init_335 : decode cX8_init 335 = .ok (.aload_n 0, 1) := by decide +kernel
theorem dX8_init_336 : decode cX8_init 336 = .ok (.iconst 0, 1) := by decide +kernel
theorem dX8_init_337 : decode cX8_init 337 = .ok (.putfield 144, 3) := by decide +kernel
theorem dX8_init_340 : decode cX8_init 340 = .ok (.aload_n 0, 1) := by decide +kernel
theorem dX8_init_341 : decode cX8_init 341 = .ok (.bipush 64, 2) := by decide +kernel
theorem dX8_init_343 : decode cX8_init 343 = .ok (.newarray .int, 2) := by decide +kernel
theorem dX8_init_345 : decode cX8_init 345 = .ok (.putfield 147, 3) := by decide +kernel
theorem dX8_init_348 : decode cX8_init 348 = .ok (.aload_n 0, 1) := by decide +kernel
theorem dX8_init_349 : decode cX8_init 349 = .ok (.bipush 8, 2) := by decide +kernel
theorem dX8_init_351 : decode cX8_init 351 = .ok (.newarray .int, 2) := by decide +kernel
theorem dX8_init_353 : decode cX8_init 353 = .ok (.putfield 150, 3) := by decide +kernel
theorem dX8_init_356 : decode cX8_init 356 = .ok (.aload_n 0, 1) := by decide +kernel
theorem dX8_init_357 : decode cX8_init 357 = .ok (.bipush 16, 2) := by decide +kernel
theorem dX8_init_359 : decode cX8_init 359 = .ok (.newarray .int, 2) := by decide +kernel
theorem dX8_init_361 : decode cX8_init 361 = .ok (.putfield 153, 3) := by decide +kernel
theorem dX8_init_364 : decode cX8_init 364 = .ok (.aload_n 0, 1) := by decide +kernel
theorem dX8_init_365 : decode cX8_init 365 = .ok (.bipush 16, 2) := by decide +kernel
theorem dX8_init_367 : decode cX8_init 367 = .ok (.newarray .int, 2) := by decide +kernel
theorem dX8_init_369 : decode cX8_init 369 = .ok (.putfield 156, 3) := by decide +kernel
theorem dX8_init_372 : decode cX8_init 372 = .ok (.aload_n 0, 1) := by decide +kernel
theorem dX8_init_373 : decode cX8_init 373 = .ok (.bipush 16, 2) := by decide +kernel
theorem dX8_init_375 : decode cX8_init 375 = .ok (.newarray .int, 2) := by decide +kernel
theorem dX8_init_377 : decode cX8_init 377 = .ok (.putfield 159, 3) := by decide +kernel
theorem dX8_init_380 : decode cX8_init 380 = .ok (.aload_n 0, 1) := by decide +kernel
theorem dX8_init_381 : decode cX8_init 381 = .ok (.bipush 16, 2) := by decide +kernel
theorem dX8_init_383 : decode cX8_init 383 = .ok (.newarray .int, 2) := by decide +kernel
theorem dX8_init_385 : decode cX8_init 385 = .ok (.putfield 162, 3) := by decide +kernel
theorem dX8_init_388 : decode cX8_init 388 = .ok (.aload_n 0, 1) := by decide +kernel
theorem dX8_init_389 : decode cX8_init 389 = .ok (.bipush 16, 2) := by decide +kernel
theorem dX8_init_391 : decode cX8_init 391 = .ok (.newarray .int, 2) := by decide +kernel
theorem dX8_init_393 : decode cX8_init 393 = .ok (.putfield 165, 3) := by decide +kernel
theorem dX8_init_396 : decode cX8_init 396 = .ok (.aload_n 0, 1) := by decide +kernel
theorem dX8_init_397 : decode cX8_init 397 = .ok (.bipush 6, 2) := by decide +kernel
theorem dX8_init_399 : decode cX8_init 399 = .ok (.newarray .int, 2) := by decide +kernel
theorem dX8_init_401 : decode cX8_init 401 = .ok (.putfield 168, 3) := by decide +kernel
theorem dX8_init_404 : decode cX8_init 404 = .ok (.aload_n 0, 1) := by decide +kernel
theorem dX8_init_405 : decode cX8_init 405 = .ok (.iconst 0, 1) := by decide +kernel
theorem dX8_init_406 : decode cX8_init 406 = .ok (.putfield 171, 3) := by decide +kernel
theorem dX8_init_409 : decode cX8_init 409 = .ok (.aload_n 0, 1) := by decide +kernel
theorem dX8_init_410 : decode cX8_init 410 = .ok (.bipush 20, 2) := by decide +kernel
theorem dX8_init_412 : decode cX8_init 412 = .ok (.newarray .int, 2) := by decide +kernel
theorem dX8_init_414 : decode cX8_init 414 = .ok (.putfield 174, 3) := by decide +kernel
theorem dX8_init_417 : decode cX8_init 417 = .ok (.aload_n 0, 1) := by decide +kernel
theorem dX8_init_418 : decode cX8_init 418 = .ok (.bipush 6, 2) := by decide +kernel
theorem dX8_init_420 : decode cX8_init 420 = .ok (.newarray .int, 2) := by decide +kernel
theorem dX8_init_422 : decode cX8_init 422 = .ok (.dup, 1) := by decide +kernel
theorem dX8_init_423 : decode cX8_init 423 = .ok (.iconst 0, 1) := by decide +kernel
theorem dX8_init_424 : decode cX8_init 424 = .ok (.iconst (-1), 1) := by decide +kernel
theorem dX8_init_425 : decode cX8_init 425 = .ok (.iastore, 1) := by decide +kernel
theorem dX8_init_426 : decode cX8_init 426 = .ok (.dup, 1) := by decide +kernel
theorem dX8_init_427 : decode cX8_init 427 = .ok (.iconst 1, 1) := by decide +kernel
theorem dX8_init_428 : decode cX8_init 428 = .ok (.iconst (-1), 1) := by decide +kernel
theorem dX8_init_429 : decode cX8_init 429 = .ok (.iastore, 1) := by decide +kernel
theorem dX8_init_430 : decode cX8_init 430 = .ok (.dup, 1) := by decide +kernel
theorem dX8_init_431 : decode cX8_init 431 = .ok (.iconst 2, 1) := by decide +kernel
theorem dX8_init_432 : decode cX8_init 432 = .ok (.iconst (-1), 1) := by decide +kernel
theorem dX8_init_433 : decode cX8_init 433 = .ok (.iastore, 1) := by decide +kernel
theorem dX8_init_434 : decode cX8_init 434 = .ok (.dup, 1) := by decide +kernel
theorem dX8_init_435 : decode cX8_init 435 = .ok (.iconst 3, 1) := by decide +kernel
theorem dX8_init_436 : decode cX8_init 436 = .ok (.iconst (-1), 1) := by decide +kernel
theorem dX8_init_437 : decode cX8_init 437 = .ok (.iastore, 1) := by decide +kernel
theorem dX8_init_438 : decode cX8_init 438 = .ok (.dup, 1) := by decide +kernel
theorem dX8_init_439 : decode cX8_init 439 = .ok (.iconst 4, 1) := by decide +kernel
theorem dX8_init_440 : decode cX8_init 440 = .ok (.iconst (-1), 1) := by decide +kernel
theorem dX8_init_441 : decode cX8_init 441 = .ok (.iastore, 1) := by decide +kernel
theorem dX8_init_442 : decode cX8_init 442 = .ok (.dup, 1) := by decide +kernel
theorem dX8_init_443 : decode cX8_init 443 = .ok (.iconst 5, 1) := by decide +kernel
theorem dX8_init_444 : decode cX8_init 444 = .ok (.iconst (-1), 1) := by decide +kernel
theorem dX8_init_445 : decode cX8_init 445 = .ok (.iastore, 1) := by decide +kernel
theorem dX8_init_446 : decode cX8_init 446 = .ok (.putfield 177, 3) := by decide +kernel
theorem dX8_init_449 : decode cX8_init 449 = .ok (.aload_n 0, 1) := by decide +kernel
theorem dX8_init_450 : decode cX8_init 450 = .ok (.bipush 6, 2) := by decide +kernel
theorem dX8_init_452 : decode cX8_init 452 = .ok (.newarray .int, 2) := by decide +kernel
theorem dX8_init_454 : decode cX8_init 454 = .ok (.putfield 180, 3) := by decide +kernel
theorem dX8_init_457 : decode cX8_init 457 = .ok (.aload_n 0, 1) := by decide +kernel
theorem dX8_init_458 : decode cX8_init 458 = .ok (.sipush 360, 3) := by decide +kernel
theorem dX8_init_461 : decode cX8_init 461 = .ok (.newarray .long, 2) := by decide +kernel
theorem dX8_init_463 : decode cX8_init 463 = .ok (.putfield 183, 3) := by decide +kernel
theorem dX8_init_466 : decode cX8_init 466 = .ok (.aload_n 0, 1) := by decide +kernel
theorem dX8_init_467 : decode cX8_init 467 = .ok (.bipush 60, 2) := by decide +kernel
theorem dX8_init_469 : decode cX8_init 469 = .ok (.newarray .long, 2) := by decide +kernel
theorem dX8_init_471 : decode cX8_init 471 = .ok (.putfield 186, 3) := by decide +kernel
theorem dX8_init_474 : decode cX8_init 474 = .ok (.return_, 1) := by decide +kernel
theorem dX8_in_0 : decode cX8_in 0 = .ok (.iload_n 1, 1) := by decide +kernel
theorem dX8_in_1 : decode cX8_in 1 = .ok (.iload_n 2, 1) := by decide +kernel
theorem dX8_in_2 : decode cX8_in 2 = .ok (.if_icmp .lt 12, 3) := by decide +kernel
theorem dX8_in_5 : decode cX8_in 5 = .ok (.iload_n 1, 1) := by decide +kernel
theorem dX8_in_6 : decode cX8_in 6 = .ok (.iload_n 3, 1) := by decide +kernel
theorem dX8_in_7 : decode cX8_in 7 = .ok (.if_icmp .gt 7, 3) := by decide +kernel
theorem dX8_in_10 : decode cX8_in 10 = .ok (.iconst 1, 1) := by decide +kernel
theorem dX8_in_11 : decode cX8_in 11 = .ok (.goto 4, 3) := by decide +kernel
theorem dX8_in_14 : decode cX8_in 14 = .ok (.iconst 0, 1) := by decide +kernel
theorem dX8_in_15 : decode cX8_in 15 = .ok (.ireturn, 1) := by decide +kernel
theorem dX8_has_0 : decode cX8_has 0 = .ok (.iload_n 1, 1) := by decide +kernel
theorem dX8_has_1 : decode cX8_has 1 = .ok (.iload_n 2, 1) := by decide +kernel
theorem dX8_has_2 : decode cX8_has 2 = .ok (.ishr, 1) := by decide +kernel
theorem dX8_has_3 : decode cX8_has 3 = .ok (.iconst 1, 1) := by decide +kernel
theorem dX8_has_4 : decode cX8_has 4 = .ok (.iand, 1) := by decide +kernel
theorem dX8_has_5 : decode cX8_has 5 = .ok (.iconst 1, 1) := by decide +kernel
theorem dX8_has_6 : decode cX8_has 6 = .ok (.if_icmp .ne 7, 3) := by decide +kernel
theorem dX8_has_9 : decode cX8_has 9 = .ok (.iconst 1, 1) := by decide +kernel
theorem dX8_has_10 : decode cX8_has 10 = .ok (.goto 4, 3) := by decide +kernel
theorem dX8_has_13 : decode cX8_has 13 = .ok (.iconst 0, 1) := by decide +kernel
theorem dX8_has_14 : decode cX8_has 14 = .ok (.ireturn, 1) := by decide +kernel
theorem dX8_ones_0 : decode cX8_ones 0 = .ok (.iconst 0, 1) := by decide +kernel
theorem dX8_ones_1 : decode cX8_ones 1 = .ok (.istore_n 2, 1) := by decide +kernel
theorem dX8_ones_2 : decode cX8_ones 2 = .ok (.iload_n 1, 1) := by decide +kernel
theorem dX8_ones_3 : decode cX8_ones 3 = .ok (.istore_n 3, 1) := by decide +kernel
theorem dX8_ones_4 : decode cX8_ones 4 = .ok (.iload_n 3, 1) := by decide +kernel
theorem dX8_ones_5 : decode cX8_ones 5 = .ok (.ifCond .eq 15, 3) := by decide +kernel
theorem dX8_ones_8 : decode cX8_ones 8 = .ok (.iinc 2 1, 3) := by decide +kernel
theorem dX8_ones_11 : decode cX8_ones 11 = .ok (.iload_n 3, 1) := by decide +kernel
theorem dX8_ones_12 : decode cX8_ones 12 = .ok (.iload_n 3, 1) := by decide +kernel
theorem dX8_ones_13 : decode cX8_ones 13 = .ok (.iconst 1, 1) := by decide +kernel
theorem dX8_ones_14 : decode cX8_ones 14 = .ok (.isub, 1) := by decide +kernel
theorem dX8_ones_15 : decode cX8_ones 15 = .ok (.iand, 1) := by decide +kernel
theorem dX8_ones_16 : decode cX8_ones 16 = .ok (.istore_n 3, 1) := by decide +kernel
theorem dX8_ones_17 : decode cX8_ones 17 = .ok (.goto (-13), 3) := by decide +kernel
theorem dX8_ones_20 : decode cX8_ones 20 = .ok (.iload_n 2, 1) := by decide +kernel
theorem dX8_ones_21 : decode cX8_ones 21 = .ok (.ireturn, 1) := by decide +kernel
theorem dX8_isName_0 : decode cX8_isName 0 = .ok (.aload_n 0, 1) := by decide +kernel
theorem dX8_isName_1 : decode cX8_isName 1 = .ok (.iload_n 1, 1) := by decide +kernel
theorem dX8_isName_2 : decode cX8_isName 2 = .ok (.iconst 0, 1) := by decide +kernel
theorem dX8_isName_3 : decode cX8_isName 3 = .ok (.aload_n 0, 1) := by decide +kernel
theorem dX8_isName_4 : decode cX8_isName 4 = .ok (.getfield 7, 3) := by decide +kernel
theorem dX8_isName_7 : decode cX8_isName 7 = .ok (.iconst 1, 1) := by decide +kernel
theorem dX8_isName_8 : decode cX8_isName 8 = .ok (.isub, 1) := by decide +kernel
theorem dX8_isName_9 : decode cX8_isName 9 = .ok (.invokevirtual 189, 3) := by decide +kernel
theorem dX8_isName_12 : decode cX8_isName 12 = .ok (.ireturn, 1) := by decide +kernel
theorem dX8_isHour_0 : decode cX8_isHour 0 = .ok (.aload_n 0, 1) := by decide +kernel
theorem dX8_isHour_1 : decode cX8_isHour 1 = .ok (.iload_n 1, 1) := by decide +kernel
theorem dX8_isHour_2 : decode cX8_isHour 2 = .ok (.iconst 0, 1) := by decide +kernel
theorem dX8_isHour_3 : decode cX8_isHour 3 = .ok (.bipush 99, 2) := by decide +kernel
theorem dX8_isHour_5 : decode cX8_isHour 5 = .ok (.invokevirtual 189, 3) := by decide +kernel
theorem dX8_isHour_8 : decode cX8_isHour 8 = .ok (.ireturn, 1) := by decide +kernel
theorem dX8_name_0 : decode cX8_name 0 = .ok (.aload_n 0, 1) := by decide +kernel
theorem dX8_name_1 : decode cX8_name 1 = .ok (.iload_n 1, 1) := by decide +kernel
theorem dX8_name_2 : decode cX8_name 2 = .ok (.iconst 1, 1) := by decide +kernel
theorem dX8_name_3 : decode cX8_name 3 = .ok (.bipush 12, 2) := by decide +kernel
theorem dX8_name_5 : decode cX8_name 5 = .ok (.invokevirtual 189, 3) := by decide +kernel
theorem dX8_name_8 : decode cX8_name 8 = .ok (.ifCond .ne 6, 3) := by decide +kernel
theorem dX8_name_11 : decode cX8_name 11 = .ok (.bipush (-2), 2) := by decide +kernel
theorem dX8_name_13 : decode cX8_name 13 = .ok (.ireturn, 1) := by decide +kernel
theorem dX8_name_14 : decode cX8_name 14 = .ok (.aload_n 0, 1) := by decide +kernel
theorem dX8_name_15 : decode cX8_name 15 = .ok (.getfield 7, 3) := by decide +kernel
theorem dX8_name_18 : decode cX8_name 18 = .ok (.bipush 8, 2) := by decide +kernel
theorem dX8_name_20 : decode cX8_name 20 = .ok (.if_icmp .ne 6, 3) := by decide +kernel
theorem dX8_name_23 : decode cX8_name 23 = .ok (.bipush (-4), 2) := by decide +kernel
theorem dX8_name_25 : decode cX8_name 25 = .ok (.ireturn, 1) := by decide +kernel
theorem dX8_name_26 : decode cX8_name 26 = .ok (.aload_n 0, 1) := by decide +kernel
theorem dX8_name_27 : decode cX8_name 27 = .ok (.getfield 13, 3) := by decide +kernel
theorem dX8_name_30 : decode cX8_name 30 = .ok (.aload_n 0, 1) := by decide +kernel
theorem dX8_name_31 : decode cX8_name 31 = .ok (.getfield 7, 3) := by decide +kernel
theorem dX8_name_34 : decode cX8_name 34 = .ok (.iload_n 1, 1) := by decide +kernel
theorem dX8_name_35 : decode cX8_name 35 = .ok (.iastore, 1) := by decide +kernel
theorem dX8_name_36 : decode cX8_name 36 = .ok (.aload_n 0, 1) := by decide +kernel
theorem dX8_name_37 : decode cX8_name 37 = .ok (.dup, 1) := by decide +kernel
theorem dX8_name_38 : decode cX8_name 38 = .ok (.getfield 7, 3) := by decide +kernel
theorem dX8_name_41 : decode cX8_name 41 = .ok (.iconst 1, 1) := by decide +kernel
theorem dX8_name_42 : decode cX8_name 42 = .ok (.iadd, 1) := by decide +kernel
theorem dX8_name_43 : decode cX8_name 43 = .ok (.putfield 7, 3) := by decide +kernel
theorem dX8_name_46 : decode cX8_name 46 = .ok (.aload_n 0, 1) := by decide +kernel
theorem dX8_name_47 : decode cX8_name 47 = .ok (.getfield 7, 3) := by decide +kernel
theorem dX8_name_50 : decode cX8_name 50 = .ok (.iconst 1, 1) := by decide +kernel
theorem dX8_name_51 : decode cX8_name 51 = .ok (.isub, 1) := by decide +kernel
theorem dX8_name_52 : decode cX8_name 52 = .ok (.ireturn, 1) := by decide +kernel
theorem dX8_join_0 : decode cX8_join 0 = .ok (.aload_n 0, 1) := by decide +kernel
theorem dX8_join_1 : decode cX8_join 1 = .ok (.iload_n 1, 1) := by decide +kernel
theorem dX8_join_2 : decode cX8_join 2 = .ok (.invokevirtual 193, 3) := by decide +kernel
theorem dX8_join_5 : decode cX8_join 5 = .ok (.ifCond .eq 11, 3) := by decide +kernel
theorem dX8_join_8 : decode cX8_join 8 = .ok (.aload_n 0, 1) := by decide +kernel
theorem dX8_join_9 : decode cX8_join 9 = .ok (.iload_n 2, 1) := by decide +kernel
theorem dX8_join_10 : decode cX8_join 10 = .ok (.invokevirtual 193, 3) := by decide +kernel
theorem dX8_join_13 : decode cX8_join 13 = .ok (.ifCond .ne 5, 3) := by decide +kernel
theorem dX8_join_16 : decode cX8_join 16 = .ok (.iconst (-1), 1) := by decide +kernel
theorem dX8_join_17 : decode cX8_join 17 = .ok (.ireturn, 1) := by decide +kernel
theorem dX8_join_18 : decode cX8_join 18 = .ok (.iload_n 1, 1) := by decide +kernel
theorem dX8_join_19 : decode cX8_join 19 = .ok (.iload_n 2, 1) := by decide +kernel
theorem dX8_join_20 : decode cX8_join 20 = .ok (.if_icmp .eq 13, 3) := by decide +kernel
theorem dX8_join_23 : decode cX8_join 23 = .ok (.aload_n 0, 1) := by decide +kernel
theorem dX8_join_24 : decode cX8_join 24 = .ok (.iload_n 3, 1) := by decide +kernel
theorem dX8_join_25 : decode cX8_join 25 = .ok (.iconst 0, 1) := by decide +kernel
theorem dX8_join_26 : decode cX8_join 26 = .ok (.iconst 5, 1) := by decide +kernel
theorem dX8_join_27 : decode cX8_join 27 = .ok (.invokevirtual 189, 3) := by decide +kernel
theorem dX8_join_30 : decode cX8_join 30 = .ok (.ifCond .ne 6, 3) := by decide +kernel
theorem dX8_join_33 : decode cX8_join 33 = .ok (.bipush (-2), 2) := by decide +kernel
theorem dX8_join_35 : decode cX8_join 35 = .ok (.ireturn, 1) := by decide +kernel
theorem dX8_join_36 : decode cX8_join 36 = .ok (.aload_n 0, 1) := by decide +kernel
theorem dX8_join_37 : decode cX8_join 37 = .ok (.getfield 17, 3) := by decide +kernel
theorem dX8_join_40 : decode cX8_join 40 = .ok (.bipush 8, 2) := by decide +kernel
theorem dX8_join_42 : decode cX8_join 42 = .ok (.iload_n 1, 1) := by decide +kernel
theorem dX8_join_43 : decode cX8_join 43 = .ok (.imul, 1) := by decide +kernel
theorem dX8_join_44 : decode cX8_join 44 = .ok (.iload_n 2, 1) := by decide +kernel
theorem dX8_join_45 : decode cX8_join 45 = .ok (.iadd, 1) := by decide +kernel
theorem dX8_join_46 : decode cX8_join 46 = .ok (.iaload, 1) := by decide +kernel
theorem dX8_join_47 : decode cX8_join 47 = .ok (.istore 4, 2) := by decide +kernel
theorem dX8_join_49 : decode cX8_join 49 = .ok (.aload_n 0, 1) := by decide +kernel
theorem dX8_join_50 : decode cX8_join 50 = .ok (.getfield 17, 3) := by decide +kernel
theorem dX8_join_53 : decode cX8_join 53 = .ok (.bipush 8, 2) := by decide +kernel
theorem dX8_join_55 : decode cX8_join 55 = .ok (.iload_n 1, 1) := by decide +kernel
theorem dX8_join_56 : decode cX8_join 56 = .ok (.imul, 1) := by decide +kernel
theorem dX8_join_57 : decode cX8_join 57 = .ok (.iload_n 2, 1) := by decide +kernel
theorem dX8_join_58 : decode cX8_join 58 = .ok (.iadd, 1) := by decide +kernel
theorem dX8_join_59 : decode cX8_join 59 = .ok (.iload_n 3, 1) := by decide +kernel
theorem dX8_join_60 : decode cX8_join 60 = .ok (.iastore, 1) := by decide +kernel
theorem dX8_join_61 : decode cX8_join 61 = .ok (.aload_n 0, 1) := by decide +kernel
theorem dX8_join_62 : decode cX8_join 62 = .ok (.getfield 17, 3) := by decide +kernel
theorem dX8_join_65 : decode cX8_join 65 = .ok (.bipush 8, 2) := by decide +kernel
theorem dX8_join_67 : decode cX8_join 67 = .ok (.iload_n 2, 1) := by decide +kernel
theorem dX8_join_68 : decode cX8_join 68 = .ok (.imul, 1) := by decide +kernel
theorem dX8_join_69 : decode cX8_join 69 = .ok (.iload_n 1, 1) := by decide +kernel
theorem dX8_join_70 : decode cX8_join 70 = .ok (.iadd, 1) := by decide +kernel
theorem dX8_join_71 : decode cX8_join 71 = .ok (.iload_n 3, 1) := by decide +kernel
theorem dX8_join_72 : decode cX8_join 72 = .ok (.iastore, 1) := by decide +kernel
theorem dX8_join_73 : decode cX8_join 73 = .ok (.iload 4, 2) := by decide +kernel
theorem dX8_join_75 : decode cX8_join 75 = .ok (.ireturn, 1) := by decide +kernel
theorem dX8_news_0 : decode cX8_news 0 = .ok (.aload_n 0, 1) := by decide +kernel
theorem dX8_news_1 : decode cX8_news 1 = .ok (.iload_n 1, 1) := by decide +kernel
theorem dX8_news_2 : decode cX8_news 2 = .ok (.invokevirtual 193, 3) := by decide +kernel
theorem dX8_news_5 : decode cX8_news 5 = .ok (.ifCond .ne 5, 3) := by decide +kernel
theorem dX8_news_8 : decode cX8_news 8 = .ok (.iconst (-1), 1) := by decide +kernel
theorem dX8_news_9 : decode cX8_news 9 = .ok (.ireturn, 1) := by decide +kernel
theorem dX8_news_10 : decode cX8_news 10 = .ok (.aload_n 0, 1) := by decide +kernel
theorem dX8_news_11 : decode cX8_news 11 = .ok (.iload_n 2, 1) := by decide +kernel
theorem dX8_news_12 : decode cX8_news 12 = .ok (.iconst (-1), 1) := by decide +kernel
theorem dX8_news_13 : decode cX8_news 13 = .ok (.bipush 99, 2) := by decide +kernel
theorem dX8_news_15 : decode cX8_news 15 = .ok (.invokevirtual 189, 3) := by decide +kernel
theorem dX8_news_18 : decode cX8_news 18 = .ok (.ifCond .ne 6, 3) := by decide +kernel
theorem dX8_news_21 : decode cX8_news 21 = .ok (.bipush (-2), 2) := by decide +kernel
theorem dX8_news_23 : decode cX8_news 23 = .ok (.ireturn, 1) := by decide +kernel
theorem dX8_news_24 : decode cX8_news 24 = .ok (.aload_n 0, 1) := by decide +kernel
theorem dX8_news_25 : decode cX8_news 25 = .ok (.getfield 20, 3) := by decide +kernel
theorem dX8_news_28 : decode cX8_news 28 = .ok (.iload_n 1, 1) := by decide +kernel
theorem dX8_news_29 : decode cX8_news 29 = .ok (.iaload, 1) := by decide +kernel
theorem dX8_news_30 : decode cX8_news 30 = .ok (.istore_n 3, 1) := by decide +kernel
theorem dX8_news_31 : decode cX8_news 31 = .ok (.aload_n 0, 1) := by decide +kernel
theorem dX8_news_32 : decode cX8_news 32 = .ok (.getfield 20, 3) := by decide +kernel
theorem dX8_news_35 : decode cX8_news 35 = .ok (.iload_n 1, 1) := by decide +kernel
theorem dX8_news_36 : decode cX8_news 36 = .ok (.iload_n 2, 1) := by decide +kernel
theorem dX8_news_37 : decode cX8_news 37 = .ok (.iastore, 1) := by decide +kernel
theorem dX8_news_38 : decode cX8_news 38 = .ok (.iload_n 3, 1) := by decide +kernel
theorem dX8_news_39 : decode cX8_news 39 = .ok (.ifCond .ge 8, 3) := by decide +kernel
theorem dX8_news_42 : decode cX8_news 42 = .ok (.bipush (-5), 2) := by decide +kernel
theorem dX8_news_44 : decode cX8_news 44 = .ok (.goto 4, 3) := by decide +kernel
theorem dX8_news_47 : decode cX8_news 47 = .ok (.iload_n 3, 1) := by decide +kernel
theorem dX8_news_48 : decode cX8_news 48 = .ok (.ireturn, 1) := by decide +kernel
theorem dX8_feed_0 : decode cX8_feed 0 = .ok (.aload_n 0, 1) := by decide +kernel
theorem dX8_feed_1 : decode cX8_feed 1 = .ok (.iload_n 2, 1) := by decide +kernel
theorem dX8_feed_2 : decode cX8_feed 2 = .ok (.iconst 0, 1) := by decide +kernel
theorem dX8_feed_3 : decode cX8_feed 3 = .ok (.iconst 4, 1) := by decide +kernel
theorem dX8_feed_4 : decode cX8_feed 4 = .ok (.invokevirtual 189, 3) := by decide +kernel
theorem dX8_feed_7 : decode cX8_feed 7 = .ok (.ifCond .ne 6, 3) := by decide +kernel
theorem dX8_feed_10 : decode cX8_feed 10 = .ok (.bipush (-2), 2) := by decide +kernel
theorem dX8_feed_12 : decode cX8_feed 12 = .ok (.ireturn, 1) := by decide +kernel
theorem dX8_feed_13 : decode cX8_feed 13 = .ok (.aload_n 0, 1) := by decide +kernel
theorem dX8_feed_14 : decode cX8_feed 14 = .ok (.getfield 29, 3) := by decide +kernel
theorem dX8_feed_17 : decode cX8_feed 17 = .ok (.iload_n 2, 1) := by decide +kernel
theorem dX8_feed_18 : decode cX8_feed 18 = .ok (.iadd, 1) := by decide +kernel
theorem dX8_feed_19 : decode cX8_feed 19 = .ok (.bipush 100, 2) := by decide +kernel
theorem dX8_feed_21 : decode cX8_feed 21 = .ok (.if_icmp .le 6, 3) := by decide +kernel
theorem dX8_feed_24 : decode cX8_feed 24 = .ok (.bipush (-4), 2) := by decide +kernel
theorem dX8_feed_26 : decode cX8_feed 26 = .ok (.ireturn, 1) := by decide +kernel
theorem dX8_feed_27 : decode cX8_feed 27 = .ok (.iload_n 2, 1) := by decide +kernel
theorem dX8_feed_28 : decode cX8_feed 28 = .ok (.iconst 1, 1) := by decide +kernel
theorem dX8_feed_29 : decode cX8_feed 29 = .ok (.isub, 1) := by decide +kernel
theorem dX8_feed_30 : decode cX8_feed 30 = .ok (.istore_n 3, 1) := by decide +kernel
theorem dX8_feed_31 : decode cX8_feed 31 = .ok (.iload_n 3, 1) := by decide +kernel
theorem dX8_feed_32 : decode cX8_feed 32 = .ok (.ifCond .lt 35, 3) := by decide +kernel
theorem dX8_feed_35 : decode cX8_feed 35 = .ok (.aload_n 0, 1) := by decide +kernel
theorem dX8_feed_36 : decode cX8_feed 36 = .ok (.getfield 38, 3) := by decide +kernel
theorem dX8_feed_39 : decode cX8_feed 39 = .ok (.aload_n 0, 1) := by decide +kernel
theorem dX8_feed_40 : decode cX8_feed 40 = .ok (.getfield 29, 3) := by decide +kernel
theorem dX8_feed_43 : decode cX8_feed 43 = .ok (.iload_n 1, 1) := by decide +kernel
theorem dX8_feed_44 : decode cX8_feed 44 = .ok (.bipush 8, 2) := by decide +kernel
theorem dX8_feed_46 : decode cX8_feed 46 = .ok (.iload_n 3, 1) := by decide +kernel
theorem dX8_feed_47 : decode cX8_feed 47 = .ok (.imul, 1) := by decide +kernel
theorem dX8_feed_48 : decode cX8_feed 48 = .ok (.ishr, 1) := by decide +kernel
theorem dX8_feed_49 : decode cX8_feed 49 = .ok (.i2b, 1) := by decide +kernel
theorem dX8_feed_50 : decode cX8_feed 50 = .ok (.iastore, 1) := by decide +kernel
theorem dX8_feed_51 : decode cX8_feed 51 = .ok (.aload_n 0, 1) := by decide +kernel
theorem dX8_feed_52 : decode cX8_feed 52 = .ok (.dup, 1) := by decide +kernel
theorem dX8_feed_53 : decode cX8_feed 53 = .ok (.getfield 29, 3) := by decide +kernel
theorem dX8_feed_56 : decode cX8_feed 56 = .ok (.iconst 1, 1) := by decide +kernel
theorem dX8_feed_57 : decode cX8_feed 57 = .ok (.iadd, 1) := by decide +kernel
theorem dX8_feed_58 : decode cX8_feed 58 = .ok (.putfield 29, 3) := by decide +kernel
theorem dX8_feed_61 : decode cX8_feed 61 = .ok (.iinc 3 (-1), 3) := by decide +kernel
theorem dX8_feed_64 : decode cX8_feed 64 = .ok (.goto (-33), 3) := by decide +kernel
theorem dX8_feed_67 : decode cX8_feed 67 = .ok (.aload_n 0, 1) := by decide +kernel
theorem dX8_feed_68 : decode cX8_feed 68 = .ok (.getfield 29, 3) := by decide +kernel
theorem dX8_feed_71 : decode cX8_feed 71 = .ok (.ireturn, 1) := by decide +kernel
theorem dX8_next_0 : decode cX8_next 0 = .ok (.aload_n 0, 1) := by decide +kernel
theorem dX8_next_1 : decode cX8_next 1 = .ok (.getfield 32, 3) := by decide +kernel
theorem dX8_next_4 : decode cX8_next 4 = .ok (.aload_n 0, 1) := by decide +kernel
theorem dX8_next_5 : decode cX8_next 5 = .ok (.getfield 29, 3) := by decide +kernel
theorem dX8_next_8 : decode cX8_next 8 = .ok (.if_icmp .ge 15, 3) := by decide +kernel
theorem dX8_next_11 : decode cX8_next 11 = .ok (.aload_n 0, 1) := by decide +kernel
theorem dX8_next_12 : decode cX8_next 12 = .ok (.getfield 38, 3) := by decide +kernel
theorem dX8_next_15 : decode cX8_next 15 = .ok (.aload_n 0, 1) := by decide +kernel
theorem dX8_next_16 : decode cX8_next 16 = .ok (.getfield 32, 3) := by decide +kernel
theorem dX8_next_19 : decode cX8_next 19 = .ok (.iaload, 1) := by decide +kernel
theorem dX8_next_20 : decode cX8_next 20 = .ok (.goto 4, 3) := by decide +kernel
theorem dX8_next_23 : decode cX8_next 23 = .ok (.iconst (-1), 1) := by decide +kernel
theorem dX8_next_24 : decode cX8_next 24 = .ok (.ireturn, 1) := by decide +kernel
theorem dX8_third_0 : decode cX8_third 0 = .ok (.aload_n 0, 1) := by decide +kernel
theorem dX8_third_1 : decode cX8_third 1 = .ok (.getfield 32, 3) := by decide +kernel
theorem dX8_third_4 : decode cX8_third 4 = .ok (.iconst 2, 1) := by decide +kernel
theorem dX8_third_5 : decode cX8_third 5 = .ok (.iadd, 1) := by decide +kernel
theorem dX8_third_6 : decode cX8_third 6 = .ok (.aload_n 0, 1) := by decide +kernel
theorem dX8_third_7 : decode cX8_third 7 = .ok (.getfield 29, 3) := by decide +kernel
theorem dX8_third_10 : decode cX8_third 10 = .ok (.if_icmp .ge 17, 3) := by decide +kernel
theorem dX8_third_13 : decode cX8_third 13 = .ok (.aload_n 0, 1) := by decide +kernel
theorem dX8_third_14 : decode cX8_third 14 = .ok (.getfield 38, 3) := by decide +kernel
theorem dX8_third_17 : decode cX8_third 17 = .ok (.aload_n 0, 1) := by decide +kernel
theorem dX8_third_18 : decode cX8_third 18 = .ok (.getfield 32, 3) := by decide +kernel
theorem dX8_third_21 : decode cX8_third 21 = .ok (.iconst 2, 1) := by decide +kernel
theorem dX8_third_22 : decode cX8_third 22 = .ok (.iadd, 1) := by decide +kernel
theorem dX8_third_23 : decode cX8_third 23 = .ok (.iaload, 1) := by decide +kernel
theorem dX8_third_24 : decode cX8_third 24 = .ok (.goto 4, 3) := by decide +kernel
theorem dX8_third_27 : decode cX8_third 27 = .ok (.iconst (-1), 1) := by decide +kernel
theorem dX8_third_28 : decode cX8_third 28 = .ok (.ireturn, 1) := by decide +kernel
theorem dX8_takes_0 : decode cX8_takes 0 = .ok (.aload_n 0, 1) := by decide +kernel
theorem dX8_takes_1 : decode cX8_takes 1 = .ok (.invokevirtual 197, 3) := by decide +kernel
theorem dX8_takes_4 : decode cX8_takes 4 = .ok (.iload_n 1, 1) := by decide +kernel
theorem dX8_takes_5 : decode cX8_takes 5 = .ok (.if_icmp .eq 5, 3) := by decide +kernel
theorem dX8_takes_8 : decode cX8_takes 8 = .ok (.iconst 0, 1) := by decide +kernel
theorem dX8_takes_9 : decode cX8_takes 9 = .ok (.ireturn, 1) := by decide +kernel
theorem dX8_takes_10 : decode cX8_takes 10 = .ok (.aload_n 0, 1) := by decide +kernel
theorem dX8_takes_11 : decode cX8_takes 11 = .ok (.dup, 1) := by decide +kernel
theorem dX8_takes_12 : decode cX8_takes 12 = .ok (.getfield 32, 3) := by decide +kernel
theorem dX8_takes_15 : decode cX8_takes 15 = .ok (.iconst 1, 1) := by decide +kernel
theorem dX8_takes_16 : decode cX8_takes 16 = .ok (.iadd, 1) := by decide +kernel
theorem dX8_takes_17 : decode cX8_takes 17 = .ok (.putfield 32, 3) := by decide +kernel
theorem dX8_takes_20 : decode cX8_takes 20 = .ok (.iconst 1, 1) := by decide +kernel
theorem dX8_takes_21 : decode cX8_takes 21 = .ok (.ireturn, 1) := by decide +kernel
theorem dX8_takesWord_0 : decode cX8_takesWord 0 = .ok (.iload_n 2, 1) := by decide +kernel
theorem dX8_takesWord_1 : decode cX8_takesWord 1 = .ok (.iconst 1, 1) := by decide +kernel
theorem dX8_takesWord_2 : decode cX8_takesWord 2 = .ok (.isub, 1) := by decide +kernel
theorem dX8_takesWord_3 : decode cX8_takesWord 3 = .ok (.istore_n 3, 1) := by decide +kernel
theorem dX8_takesWord_4 : decode cX8_takesWord 4 = .ok (.iload_n 3, 1) := by decide +kernel
theorem dX8_takesWord_5 : decode cX8_takesWord 5 = .ok (.ifCond .lt 29, 3) := by decide +kernel
theorem dX8_takesWord_8 : decode cX8_takesWord 8 = .ok (.aload_n 0, 1) := by decide +kernel
theorem dX8_takesWord_9 : decode cX8_takesWord 9 = .ok (.bipush 96, 2) := by decide +kernel
theorem dX8_takesWord_11 : decode cX8_takesWord 11 = .ok (.iload_n 1, 1) := by decide +kernel
theorem dX8_takesWord_12 : decode cX8_takesWord 12 = .ok (.iconst 5, 1) := by decide +kernel
theorem dX8_takesWord_13 : decode cX8_takesWord 13 = .ok (.iload_n 3, 1) := by decide +kernel
theorem dX8_takesWord_14 : decode cX8_takesWord 14 = .ok (.imul, 1) := by decide +kernel
theorem dX8_takesWord_15 : decode cX8_takesWord 15 = .ok (.ishr, 1) := by decide +kernel
theorem dX8_takesWord_16 : decode cX8_takesWord 16 = .ok (.bipush 31, 2) := by decide +kernel
theorem dX8_takesWord_18 : decode cX8_takesWord 18 = .ok (.iand, 1) := by decide +kernel
theorem dX8_takesWord_19 : decode cX8_takesWord 19 = .ok (.iadd, 1) := by decide +kernel
theorem dX8_takesWord_20 : decode cX8_takesWord 20 = .ok (.invokevirtual 201, 3) := by decide +kernel
theorem dX8_takesWord_23 : decode cX8_takesWord 23 = .ok (.ifCond .ne 5, 3) := by decide +kernel
theorem dX8_takesWord_26 : decode cX8_takesWord 26 = .ok (.iconst 0, 1) := by decide +kernel
theorem dX8_takesWord_27 : decode cX8_takesWord 27 = .ok (.ireturn, 1) := by decide +kernel
theorem dX8_takesWord_28 : decode cX8_takesWord 28 = .ok (.iinc 3 (-1), 3) := by decide +kernel
theorem dX8_takesWord_31 : decode cX8_takesWord 31 = .ok (.goto (-27), 3) := by decide +kernel
theorem dX8_takesWord_34 : decode cX8_takesWord 34 = .ok (.aload_n 0, 1) := by decide +kernel
theorem dX8_takesWord_35 : decode cX8_takesWord 35 = .ok (.bipush 32, 2) := by decide +kernel
theorem dX8_takesWord_37 : decode cX8_takesWord 37 = .ok (.invokevirtual 201, 3) := by decide +kernel
theorem dX8_takesWord_40 : decode cX8_takesWord 40 = .ok (.ireturn, 1) := by decide +kernel
theorem dX8_isDigit_0 : decode cX8_isDigit 0 = .ok (.aload_n 0, 1) := by decide +kernel
theorem dX8_isDigit_1 : decode cX8_isDigit 1 = .ok (.aload_n 0, 1) := by decide +kernel
theorem dX8_isDigit_2 : decode cX8_isDigit 2 = .ok (.invokevirtual 197, 3) := by decide +kernel
theorem dX8_isDigit_5 : decode cX8_isDigit 5 = .ok (.bipush 48, 2) := by decide +kernel
theorem dX8_isDigit_7 : decode cX8_isDigit 7 = .ok (.bipush 57, 2) := by decide +kernel
theorem dX8_isDigit_9 : decode cX8_isDigit 9 = .ok (.invokevirtual 189, 3) := by decide +kernel
theorem dX8_isDigit_12 : decode cX8_isDigit 12 = .ok (.ireturn, 1) := by decide +kernel
theorem dX8_takesNumber_0 : decode cX8_takesNumber 0 = .ok (.aload_n 0, 1) := by decide +kernel
theorem dX8_takesNumber_1 : decode cX8_takesNumber 1 = .ok (.invokevirtual 204, 3) := by decide +kernel
theorem dX8_takesNumber_4 : decode cX8_takesNumber 4 = .ok (.ifCond .ne 5, 3) := by decide +kernel
theorem dX8_takesNumber_7 : decode cX8_takesNumber 7 = .ok (.iconst 0, 1) := by decide +kernel
theorem dX8_takesNumber_8 : decode cX8_takesNumber 8 = .ok (.ireturn, 1) := by decide +kernel
theorem dX8_takesNumber_9 : decode cX8_takesNumber 9 = .ok (.aload_n 0, 1) := by decide +kernel
theorem dX8_takesNumber_10 : decode cX8_takesNumber 10 = .ok (.iconst 0, 1) := by decide +kernel
theorem dX8_takesNumber_11 : decode cX8_takesNumber 11 = .ok (.putfield 35, 3) := by decide +kernel
theorem dX8_takesNumber_14 : decode cX8_takesNumber 14 = .ok (.iconst 0, 1) := by decide +kernel
theorem dX8_takesNumber_15 : decode cX8_takesNumber 15 = .ok (.istore_n 2, 1) := by decide +kernel
theorem dX8_takesNumber_16 : decode cX8_takesNumber 16 = .ok (.iload_n 2, 1) := by decide +kernel
theorem dX8_takesNumber_17 : decode cX8_takesNumber 17 = .ok (.iload_n 1, 1) := by decide +kernel
theorem dX8_takesNumber_18 : decode cX8_takesNumber 18 = .ok (.if_icmp .ge 45, 3) := by decide +kernel
theorem dX8_takesNumber_21 : decode cX8_takesNumber 21 = .ok (.aload_n 0, 1) := by decide +kernel
theorem dX8_takesNumber_22 : decode cX8_takesNumber 22 = .ok (.invokevirtual 204, 3) := by decide +kernel
theorem dX8_takesNumber_25 : decode cX8_takesNumber 25 = .ok (.ifCond .eq 38, 3) := by decide +kernel
theorem dX8_takesNumber_28 : decode cX8_takesNumber 28 = .ok (.aload_n 0, 1) := by decide +kernel
theorem dX8_takesNumber_29 : decode cX8_takesNumber 29 = .ok (.bipush 10, 2) := by decide +kernel
theorem dX8_takesNumber_31 : decode cX8_takesNumber 31 = .ok (.aload_n 0, 1) := by decide +kernel
theorem dX8_takesNumber_32 : decode cX8_takesNumber 32 = .ok (.getfield 35, 3) := by decide +kernel
theorem dX8_takesNumber_35 : decode cX8_takesNumber 35 = .ok (.imul, 1) := by decide +kernel
theorem dX8_takesNumber_36 : decode cX8_takesNumber 36 = .ok (.aload_n 0, 1) := by decide +kernel
theorem dX8_takesNumber_37 : decode cX8_takesNumber 37 = .ok (.invokevirtual 197, 3) := by decide +kernel
theorem dX8_takesNumber_40 : decode cX8_takesNumber 40 = .ok (.iadd, 1) := by decide +kernel
theorem dX8_takesNumber_41 : decode cX8_takesNumber 41 = .ok (.bipush 48, 2) := by decide +kernel
theorem dX8_takesNumber_43 : decode cX8_takesNumber 43 = .ok (.isub, 1) := by decide +kernel
theorem dX8_takesNumber_44 : decode cX8_takesNumber 44 = .ok (.putfield 35, 3) := by decide +kernel
theorem dX8_takesNumber_47 : decode cX8_takesNumber 47 = .ok (.aload_n 0, 1) := by decide +kernel
theorem dX8_takesNumber_48 : decode cX8_takesNumber 48 = .ok (.dup, 1) := by decide +kernel
theorem dX8_takesNumber_49 : decode cX8_takesNumber 49 = .ok (.getfield 32, 3) := by decide +kernel
theorem dX8_takesNumber_52 : decode cX8_takesNumber 52 = .ok (.iconst 1, 1) := by decide +kernel
theorem dX8_takesNumber_53 : decode cX8_takesNumber 53 = .ok (.iadd, 1) := by decide +kernel
theorem dX8_takesNumber_54 : decode cX8_takesNumber 54 = .ok (.putfield 32, 3) := by decide +kernel
theorem dX8_takesNumber_57 : decode cX8_takesNumber 57 = .ok (.iinc 2 1, 3) := by decide +kernel
theorem dX8_takesNumber_60 : decode cX8_takesNumber 60 = .ok (.goto (-44), 3) := by decide +kernel
theorem dX8_takesNumber_63 : decode cX8_takesNumber 63 = .ok (.iconst 1, 1) := by decide +kernel
theorem dX8_takesNumber_64 : decode cX8_takesNumber 64 = .ok (.ireturn, 1) := by decide +kernel
theorem dX8_put_0 : decode cX8_put 0 = .ok (.aload_n 0, 1) := by decide +kernel
theorem dX8_put_1 : decode cX8_put 1 = .ok (.getfield 56, 3) := by decide +kernel
theorem dX8_put_4 : decode cX8_put 4 = .ok (.aload_n 0, 1) := by decide +kernel
theorem dX8_put_5 : decode cX8_put 5 = .ok (.getfield 62, 3) := by decide +kernel
theorem dX8_put_8 : decode cX8_put 8 = .ok (.iload_n 1, 1) := by decide +kernel
theorem dX8_put_9 : decode cX8_put 9 = .ok (.iastore, 1) := by decide +kernel
theorem dX8_put_10 : decode cX8_put 10 = .ok (.aload_n 0, 1) := by decide +kernel
theorem dX8_put_11 : decode cX8_put 11 = .ok (.dup, 1) := by decide +kernel
theorem dX8_put_12 : decode cX8_put 12 = .ok (.getfield 62, 3) := by decide +kernel
theorem dX8_put_15 : decode cX8_put 15 = .ok (.iconst 1, 1) := by decide +kernel
theorem dX8_put_16 : decode cX8_put 16 = .ok (.iadd, 1) := by decide +kernel
theorem dX8_put_17 : decode cX8_put 17 = .ok (.putfield 62, 3) := by decide +kernel
theorem dX8_put_20 : decode cX8_put 20 = .ok (.return_, 1) := by decide +kernel
theorem dX8_whole_0 : decode cX8_whole 0 = .ok (.aload_n 0, 1) := by decide +kernel
theorem dX8_whole_1 : decode cX8_whole 1 = .ok (.getfield 65, 3) := by decide +kernel
theorem dX8_whole_4 : decode cX8_whole 4 = .ok (.ifCond .le 48, 3) := by decide +kernel
theorem dX8_whole_7 : decode cX8_whole 7 = .ok (.aload_n 0, 1) := by decide +kernel
theorem dX8_whole_8 : decode cX8_whole 8 = .ok (.getfield 59, 3) := by decide +kernel
theorem dX8_whole_11 : decode cX8_whole 11 = .ok (.aload_n 0, 1) := by decide +kernel
theorem dX8_whole_12 : decode cX8_whole 12 = .ok (.getfield 65, 3) := by decide +kernel
theorem dX8_whole_15 : decode cX8_whole 15 = .ok (.iconst 1, 1) := by decide +kernel
theorem dX8_whole_16 : decode cX8_whole 16 = .ok (.isub, 1) := by decide +kernel
theorem dX8_whole_17 : decode cX8_whole 17 = .ok (.iaload, 1) := by decide +kernel
theorem dX8_whole_18 : decode cX8_whole 18 = .ok (.bipush 33, 2) := by decide +kernel
theorem dX8_whole_20 : decode cX8_whole 20 = .ok (.if_icmp .ne 32, 3) := by decide +kernel
theorem dX8_whole_23 : decode cX8_whole 23 = .ok (.aload_n 0, 1) := by decide +kernel
theorem dX8_whole_24 : decode cX8_whole 24 = .ok (.bipush (-33), 2) := by decide +kernel
theorem dX8_whole_26 : decode cX8_whole 26 = .ok (.invokevirtual 208, 3) := by decide +kernel
theorem dX8_whole_29 : decode cX8_whole 29 = .ok (.aload_n 0, 1) := by decide +kernel
theorem dX8_whole_30 : decode cX8_whole 30 = .ok (.dup, 1) := by decide +kernel
theorem dX8_whole_31 : decode cX8_whole 31 = .ok (.getfield 65, 3) := by decide +kernel
theorem dX8_whole_34 : decode cX8_whole 34 = .ok (.iconst 1, 1) := by decide +kernel
theorem dX8_whole_35 : decode cX8_whole 35 = .ok (.isub, 1) := by decide +kernel
theorem dX8_whole_36 : decode cX8_whole 36 = .ok (.putfield 65, 3) := by decide +kernel
theorem dX8_whole_39 : decode cX8_whole 39 = .ok (.aload_n 0, 1) := by decide +kernel
theorem dX8_whole_40 : decode cX8_whole 40 = .ok (.dup, 1) := by decide +kernel
theorem dX8_whole_41 : decode cX8_whole 41 = .ok (.getfield 68, 3) := by decide +kernel
theorem dX8_whole_44 : decode cX8_whole 44 = .ok (.iconst 1, 1) := by decide +kernel
theorem dX8_whole_45 : decode cX8_whole 45 = .ok (.isub, 1) := by decide +kernel
theorem dX8_whole_46 : decode cX8_whole 46 = .ok (.putfield 68, 3) := by decide +kernel
theorem dX8_whole_49 : decode cX8_whole 49 = .ok (.goto (-49), 3) := by decide +kernel
theorem dX8_whole_52 : decode cX8_whole 52 = .ok (.return_, 1) := by decide +kernel
theorem dX8_settle_0 : decode cX8_settle 0 = .ok (.aload_n 0, 1) := by decide +kernel
theorem dX8_settle_1 : decode cX8_settle 1 = .ok (.getfield 65, 3) := by decide +kernel
theorem dX8_settle_4 : decode cX8_settle 4 = .ok (.ifCond .le 68, 3) := by decide +kernel
theorem dX8_settle_7 : decode cX8_settle 7 = .ok (.aload_n 0, 1) := by decide +kernel
theorem dX8_settle_8 : decode cX8_settle 8 = .ok (.getfield 59, 3) := by decide +kernel
theorem dX8_settle_11 : decode cX8_settle 11 = .ok (.aload_n 0, 1) := by decide +kernel
theorem dX8_settle_12 : decode cX8_settle 12 = .ok (.getfield 65, 3) := by decide +kernel
theorem dX8_settle_15 : decode cX8_settle 15 = .ok (.iconst 1, 1) := by decide +kernel
theorem dX8_settle_16 : decode cX8_settle 16 = .ok (.isub, 1) := by decide +kernel
theorem dX8_settle_17 : decode cX8_settle 17 = .ok (.iaload, 1) := by decide +kernel
theorem dX8_settle_18 : decode cX8_settle 18 = .ok (.bipush 38, 2) := by decide +kernel
theorem dX8_settle_20 : decode cX8_settle 20 = .ok (.if_icmp .eq 25, 3) := by decide +kernel
theorem dX8_settle_23 : decode cX8_settle 23 = .ok (.aload_n 0, 1) := by decide +kernel
theorem dX8_settle_24 : decode cX8_settle 24 = .ok (.getfield 59, 3) := by decide +kernel
theorem dX8_settle_27 : decode cX8_settle 27 = .ok (.aload_n 0, 1) := by decide +kernel
theorem dX8_settle_28 : decode cX8_settle 28 = .ok (.getfield 65, 3) := by decide +kernel
theorem dX8_settle_31 : decode cX8_settle 31 = .ok (.iconst 1, 1) := by decide +kernel
theorem dX8_settle_32 : decode cX8_settle 32 = .ok (.isub, 1) := by decide +kernel
theorem dX8_settle_33 : decode cX8_settle 33 = .ok (.iaload, 1) := by decide +kernel
theorem dX8_settle_34 : decode cX8_settle 34 = .ok (.bipush 124, 2) := by decide +kernel
theorem dX8_settle_36 : decode cX8_settle 36 = .ok (.if_icmp .ne 36, 3) := by decide +kernel
theorem dX8_settle_39 : decode cX8_settle 39 = .ok (.iload_n 1, 1) := by decide +kernel
theorem dX8_settle_40 : decode cX8_settle 40 = .ok (.bipush 38, 2) := by decide +kernel
theorem dX8_settle_42 : decode cX8_settle 42 = .ok (.if_icmp .eq 30, 3) := by decide +kernel
theorem dX8_settle_45 : decode cX8_settle 45 = .ok (.aload_n 0, 1) := by decide +kernel
theorem dX8_settle_46 : decode cX8_settle 46 = .ok (.dup, 1) := by decide +kernel
theorem dX8_settle_47 : decode cX8_settle 47 = .ok (.getfield 65, 3) := by decide +kernel
theorem dX8_settle_50 : decode cX8_settle 50 = .ok (.iconst 1, 1) := by decide +kernel
theorem dX8_settle_51 : decode cX8_settle 51 = .ok (.isub, 1) := by decide +kernel
theorem dX8_settle_52 : decode cX8_settle 52 = .ok (.putfield 65, 3) := by decide +kernel
theorem dX8_settle_55 : decode cX8_settle 55 = .ok (.aload_n 0, 1) := by decide +kernel
theorem dX8_settle_56 : decode cX8_settle 56 = .ok (.aload_n 0, 1) := by decide +kernel
theorem dX8_settle_57 : decode cX8_settle 57 = .ok (.getfield 59, 3) := by decide +kernel
theorem dX8_settle_60 : decode cX8_settle 60 = .ok (.aload_n 0, 1) := by decide +kernel
theorem dX8_settle_61 : decode cX8_settle 61 = .ok (.getfield 65, 3) := by decide +kernel
theorem dX8_settle_64 : decode cX8_settle 64 = .ok (.iaload, 1) := by decide +kernel
theorem dX8_settle_65 : decode cX8_settle 65 = .ok (.ineg, 1) := by decide +kernel
theorem dX8_settle_66 : decode cX8_settle 66 = .ok (.invokevirtual 208, 3) := by decide +kernel
theorem dX8_settle_69 : decode cX8_settle 69 = .ok (.goto (-69), 3) := by decide +kernel
theorem dX8_settle_72 : decode cX8_settle 72 = .ok (.return_, 1) := by decide +kernel
theorem dX8_place_0 : decode cX8_place 0 = .ok (.iload_n 1, 1) := by decide +kernel
theorem dX8_place_1 : decode cX8_place 1 = .ok (.lookupswitch 61 #[(97, 51), (98, 53), (102, 59), (108, 57), (115, 55)], 51) := by decide +kernel
theorem dX8_place_52 : decode cX8_place 52 = .ok (.iconst 0, 1) := by decide +kernel
theorem dX8_place_53 : decode cX8_place 53 = .ok (.ireturn, 1) := by decide +kernel
theorem dX8_place_54 : decode cX8_place 54 = .ok (.iconst 1, 1) := by decide +kernel
theorem dX8_place_55 : decode cX8_place 55 = .ok (.ireturn, 1) := by decide +kernel
theorem dX8_place_56 : decode cX8_place 56 = .ok (.iconst 2, 1) := by decide +kernel
theorem dX8_place_57 : decode cX8_place 57 = .ok (.ireturn, 1) := by decide +kernel
theorem dX8_place_58 : decode cX8_place 58 = .ok (.iconst 3, 1) := by decide +kernel
theorem dX8_place_59 : decode cX8_place 59 = .ok (.ireturn, 1) := by decide +kernel
theorem dX8_place_60 : decode cX8_place 60 = .ok (.iconst 4, 1) := by decide +kernel
theorem dX8_place_61 : decode cX8_place 61 = .ok (.ireturn, 1) := by decide +kernel
theorem dX8_place_62 : decode cX8_place 62 = .ok (.iconst (-1), 1) := by decide +kernel
theorem dX8_place_63 : decode cX8_place 63 = .ok (.ireturn, 1) := by decide +kernel
theorem dX8_takesTest_0 : decode cX8_takesTest 0 = .ok (.aload_n 0, 1) := by decide +kernel
theorem dX8_takesTest_1 : decode cX8_takesTest 1 = .ok (.aload_n 0, 1) := by decide +kernel
theorem dX8_takesTest_2 : decode cX8_takesTest 2 = .ok (.invokevirtual 197, 3) := by decide +kernel
theorem dX8_takesTest_5 : decode cX8_takesTest 5 = .ok (.invokevirtual 212, 3) := by decide +kernel
theorem dX8_takesTest_8 : decode cX8_takesTest 8 = .ok (.istore_n 1, 1) := by decide +kernel
theorem dX8_takesTest_9 : decode cX8_takesTest 9 = .ok (.iload_n 1, 1) := by decide +kernel
theorem dX8_takesTest_10 : decode cX8_takesTest 10 = .ok (.ifCond .ge 5, 3) := by decide +kernel
theorem dX8_takesTest_13 : decode cX8_takesTest 13 = .ok (.iconst 0, 1) := by decide +kernel
theorem dX8_takesTest_14 : decode cX8_takesTest 14 = .ok (.ireturn, 1) := by decide +kernel
theorem dX8_takesTest_15 : decode cX8_takesTest 15 = .ok (.aload_n 0, 1) := by decide +kernel
theorem dX8_takesTest_16 : decode cX8_takesTest 16 = .ok (.dup, 1) := by decide +kernel
theorem dX8_takesTest_17 : decode cX8_takesTest 17 = .ok (.getfield 32, 3) := by decide +kernel
theorem dX8_takesTest_20 : decode cX8_takesTest 20 = .ok (.iconst 1, 1) := by decide +kernel
theorem dX8_takesTest_21 : decode cX8_takesTest 21 = .ok (.iadd, 1) := by decide +kernel
theorem dX8_takesTest_22 : decode cX8_takesTest 22 = .ok (.putfield 32, 3) := by decide +kernel
theorem dX8_takesTest_25 : decode cX8_takesTest 25 = .ok (.aload_n 0, 1) := by decide +kernel
theorem dX8_takesTest_26 : decode cX8_takesTest 26 = .ok (.invokevirtual 197, 3) := by decide +kernel
theorem dX8_takesTest_29 : decode cX8_takesTest 29 = .ok (.istore_n 2, 1) := by decide +kernel
theorem dX8_takesTest_30 : decode cX8_takesTest 30 = .ok (.aload_n 0, 1) := by decide +kernel
theorem dX8_takesTest_31 : decode cX8_takesTest 31 = .ok (.iload_n 2, 1) := by decide +kernel
theorem dX8_takesTest_32 : decode cX8_takesTest 32 = .ok (.bipush 60, 2) := by decide +kernel
theorem dX8_takesTest_34 : decode cX8_takesTest 34 = .ok (.bipush 62, 2) := by decide +kernel
theorem dX8_takesTest_36 : decode cX8_takesTest 36 = .ok (.invokevirtual 189, 3) := by decide +kernel
theorem dX8_takesTest_39 : decode cX8_takesTest 39 = .ok (.ifCond .ne 5, 3) := by decide +kernel
theorem dX8_takesTest_42 : decode cX8_takesTest 42 = .ok (.iconst 0, 1) := by decide +kernel
theorem dX8_takesTest_43 : decode cX8_takesTest 43 = .ok (.ireturn, 1) := by decide +kernel
theorem dX8_takesTest_44 : decode cX8_takesTest 44 = .ok (.aload_n 0, 1) := by decide +kernel
theorem dX8_takesTest_45 : decode cX8_takesTest 45 = .ok (.dup, 1) := by decide +kernel
theorem dX8_takesTest_46 : decode cX8_takesTest 46 = .ok (.getfield 32, 3) := by decide +kernel
theorem dX8_takesTest_49 : decode cX8_takesTest 49 = .ok (.iconst 1, 1) := by decide +kernel
theorem dX8_takesTest_50 : decode cX8_takesTest 50 = .ok (.iadd, 1) := by decide +kernel
theorem dX8_takesTest_51 : decode cX8_takesTest 51 = .ok (.putfield 32, 3) := by decide +kernel
theorem dX8_takesTest_54 : decode cX8_takesTest 54 = .ok (.aload_n 0, 1) := by decide +kernel
theorem dX8_takesTest_55 : decode cX8_takesTest 55 = .ok (.iconst 2, 1) := by decide +kernel
theorem dX8_takesTest_56 : decode cX8_takesTest 56 = .ok (.invokevirtual 216, 3) := by decide +kernel
theorem dX8_takesTest_59 : decode cX8_takesTest 59 = .ok (.ifCond .ne 5, 3) := by decide +kernel
theorem dX8_takesTest_62 : decode cX8_takesTest 62 = .ok (.iconst 0, 1) := by decide +kernel
theorem dX8_takesTest_63 : decode cX8_takesTest 63 = .ok (.ireturn, 1) := by decide +kernel
theorem dX8_takesTest_64 : decode cX8_takesTest 64 = .ok (.aload_n 0, 1) := by decide +kernel
theorem dX8_takesTest_65 : decode cX8_takesTest 65 = .ok (.sipush 1000, 3) := by decide +kernel
theorem dX8_takesTest_68 : decode cX8_takesTest 68 = .ok (.iload_n 1, 1) := by decide +kernel
theorem dX8_takesTest_69 : decode cX8_takesTest 69 = .ok (.imul, 1) := by decide +kernel
theorem dX8_takesTest_70 : decode cX8_takesTest 70 = .ok (.bipush 100, 2) := by decide +kernel
theorem dX8_takesTest_72 : decode cX8_takesTest 72 = .ok (.iload_n 2, 1) := by decide +kernel
theorem dX8_takesTest_73 : decode cX8_takesTest 73 = .ok (.bipush 60, 2) := by decide +kernel
theorem dX8_takesTest_75 : decode cX8_takesTest 75 = .ok (.isub, 1) := by decide +kernel
theorem dX8_takesTest_76 : decode cX8_takesTest 76 = .ok (.imul, 1) := by decide +kernel
theorem dX8_takesTest_77 : decode cX8_takesTest 77 = .ok (.iadd, 1) := by decide +kernel
theorem dX8_takesTest_78 : decode cX8_takesTest 78 = .ok (.aload_n 0, 1) := by decide +kernel
theorem dX8_takesTest_79 : decode cX8_takesTest 79 = .ok (.getfield 35, 3) := by decide +kernel
theorem dX8_takesTest_82 : decode cX8_takesTest 82 = .ok (.iadd, 1) := by decide +kernel
theorem dX8_takesTest_83 : decode cX8_takesTest 83 = .ok (.invokevirtual 208, 3) := by decide +kernel
theorem dX8_takesTest_86 : decode cX8_takesTest 86 = .ok (.aload_n 0, 1) := by decide +kernel
theorem dX8_takesTest_87 : decode cX8_takesTest 87 = .ok (.invokevirtual 219, 3) := by decide +kernel
theorem dX8_takesTest_90 : decode cX8_takesTest 90 = .ok (.iconst 1, 1) := by decide +kernel
theorem dX8_takesTest_91 : decode cX8_takesTest 91 = .ok (.ireturn, 1) := by decide +kernel
theorem dX8_takesE_0 : decode cX8_takesE 0 = .ok (.aload_n 0, 1) := by decide +kernel
theorem dX8_takesE_1 : decode cX8_takesE 1 = .ok (.iconst 0, 1) := by decide +kernel
