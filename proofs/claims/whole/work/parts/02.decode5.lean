theorem dX5_levelOf_0 : decode cX5_levelOf 0 = .ok (.aload_n 0, 1) := by decide +kernel
theorem dX5_levelOf_1 : decode cX5_levelOf 1 = .ok (.getfield 39, 3) := by decide +kernel
theorem dX5_levelOf_4 : decode cX5_levelOf 4 = .ok (.bipush 120, 2) := by decide +kernel
theorem dX5_levelOf_6 : decode cX5_levelOf 6 = .ok (.aload_n 0, 1) := by decide +kernel
theorem dX5_levelOf_7 : decode cX5_levelOf 7 = .ok (.getfield 13, 3) := by decide +kernel
theorem dX5_levelOf_10 : decode cX5_levelOf 10 = .ok (.iload_n 1, 1) := by decide +kernel
theorem dX5_levelOf_11 : decode cX5_levelOf 11 = .ok (.iaload, 1) := by decide +kernel
theorem dX5_levelOf_12 : decode cX5_levelOf 12 = .ok (.imul, 1) := by decide +kernel
theorem dX5_levelOf_13 : decode cX5_levelOf 13 = .ok (.iload_n 3, 1) := by decide +kernel
theorem dX5_levelOf_14 : decode cX5_levelOf 14 = .ok (.iadd, 1) := by decide +kernel
theorem dX5_levelOf_15 : decode cX5_levelOf 15 = .ok (.baload, 1) := by decide +kernel
theorem dX5_levelOf_16 : decode cX5_levelOf 16 = .ok (.ifCond .eq 7, 3) := by decide +kernel
theorem dX5_levelOf_19 : decode cX5_levelOf 19 = .ok (.iconst 4, 1) := by decide +kernel
theorem dX5_levelOf_20 : decode cX5_levelOf 20 = .ok (.goto 4, 3) := by decide +kernel
theorem dX5_levelOf_23 : decode cX5_levelOf 23 = .ok (.iconst 0, 1) := by decide +kernel
theorem dX5_levelOf_24 : decode cX5_levelOf 24 = .ok (.aload_n 0, 1) := by decide +kernel
theorem dX5_levelOf_25 : decode cX5_levelOf 25 = .ok (.getfield 39, 3) := by decide +kernel
theorem dX5_levelOf_28 : decode cX5_levelOf 28 = .ok (.bipush 120, 2) := by decide +kernel
theorem dX5_levelOf_30 : decode cX5_levelOf 30 = .ok (.bipush 16, 2) := by decide +kernel
theorem dX5_levelOf_32 : decode cX5_levelOf 32 = .ok (.iload_n 2, 1) := by decide +kernel
theorem dX5_levelOf_33 : decode cX5_levelOf 33 = .ok (.iadd, 1) := by decide +kernel
theorem dX5_levelOf_34 : decode cX5_levelOf 34 = .ok (.imul, 1) := by decide +kernel
theorem dX5_levelOf_35 : decode cX5_levelOf 35 = .ok (.iload_n 3, 1) := by decide +kernel
theorem dX5_levelOf_36 : decode cX5_levelOf 36 = .ok (.iadd, 1) := by decide +kernel
theorem dX5_levelOf_37 : decode cX5_levelOf 37 = .ok (.baload, 1) := by decide +kernel
theorem dX5_levelOf_38 : decode cX5_levelOf 38 = .ok (.ifCond .eq 7, 3) := by decide +kernel
theorem dX5_levelOf_41 : decode cX5_levelOf 41 = .ok (.iconst 4, 1) := by decide +kernel
theorem dX5_levelOf_42 : decode cX5_levelOf 42 = .ok (.goto 4, 3) := by decide +kernel
theorem dX5_levelOf_45 : decode cX5_levelOf 45 = .ok (.iconst 0, 1) := by decide +kernel
theorem dX5_levelOf_46 : decode cX5_levelOf 46 = .ok (.iadd, 1) := by decide +kernel
theorem dX5_levelOf_47 : decode cX5_levelOf 47 = .ok (.aload_n 0, 1) := by decide +kernel
theorem dX5_levelOf_48 : decode cX5_levelOf 48 = .ok (.iload_n 2, 1) := by decide +kernel
theorem dX5_levelOf_49 : decode cX5_levelOf 49 = .ok (.aload_n 0, 1) := by decide +kernel
theorem dX5_levelOf_50 : decode cX5_levelOf 50 = .ok (.getfield 13, 3) := by decide +kernel
theorem dX5_levelOf_53 : decode cX5_levelOf 53 = .ok (.iload_n 1, 1) := by decide +kernel
theorem dX5_levelOf_54 : decode cX5_levelOf 54 = .ok (.iaload, 1) := by decide +kernel
theorem dX5_levelOf_55 : decode cX5_levelOf 55 = .ok (.iload_n 3, 1) := by decide +kernel
theorem dX5_levelOf_56 : decode cX5_levelOf 56 = .ok (.invokevirtual 135, 3) := by decide +kernel
theorem dX5_levelOf_59 : decode cX5_levelOf 59 = .ok (.iadd, 1) := by decide +kernel
theorem dX5_levelOf_60 : decode cX5_levelOf 60 = .ok (.aload_n 0, 1) := by decide +kernel
theorem dX5_levelOf_61 : decode cX5_levelOf 61 = .ok (.iload_n 1, 1) := by decide +kernel
theorem dX5_levelOf_62 : decode cX5_levelOf 62 = .ok (.iload_n 2, 1) := by decide +kernel
theorem dX5_levelOf_63 : decode cX5_levelOf 63 = .ok (.iload_n 3, 1) := by decide +kernel
theorem dX5_levelOf_64 : decode cX5_levelOf 64 = .ok (.invokevirtual 139, 3) := by decide +kernel
theorem dX5_levelOf_67 : decode cX5_levelOf 67 = .ok (.iadd, 1) := by decide +kernel
theorem dX5_levelOf_68 : decode cX5_levelOf 68 = .ok (.ireturn, 1) := by decide +kernel
theorem dX5_level_0 : decode cX5_level 0 = .ok (.aload_n 0, 1) := by decide +kernel
theorem dX5_level_1 : decode cX5_level 1 = .ok (.iload_n 1, 1) := by decide +kernel
theorem dX5_level_2 : decode cX5_level 2 = .ok (.invokevirtual 99, 3) := by decide +kernel
theorem dX5_level_5 : decode cX5_level 5 = .ok (.ifCond .eq 31, 3) := by decide +kernel
theorem dX5_level_8 : decode cX5_level 8 = .ok (.aload_n 0, 1) := by decide +kernel
theorem dX5_level_9 : decode cX5_level 9 = .ok (.iload_n 2, 1) := by decide +kernel
theorem dX5_level_10 : decode cX5_level 10 = .ok (.invokevirtual 142, 3) := by decide +kernel
theorem dX5_level_13 : decode cX5_level 13 = .ok (.ifCond .eq 23, 3) := by decide +kernel
theorem dX5_level_16 : decode cX5_level 16 = .ok (.iload_n 3, 1) := by decide +kernel
theorem dX5_level_17 : decode cX5_level 17 = .ok (.iconst 0, 1) := by decide +kernel
theorem dX5_level_18 : decode cX5_level 18 = .ok (.bipush 119, 2) := by decide +kernel
theorem dX5_level_20 : decode cX5_level 20 = .ok (.invokestatic 88, 3) := by decide +kernel
theorem dX5_level_23 : decode cX5_level 23 = .ok (.ifCond .eq 13, 3) := by decide +kernel
theorem dX5_level_26 : decode cX5_level 26 = .ok (.aload_n 0, 1) := by decide +kernel
theorem dX5_level_27 : decode cX5_level 27 = .ok (.iload_n 1, 1) := by decide +kernel
theorem dX5_level_28 : decode cX5_level 28 = .ok (.iload_n 2, 1) := by decide +kernel
theorem dX5_level_29 : decode cX5_level 29 = .ok (.iload_n 3, 1) := by decide +kernel
theorem dX5_level_30 : decode cX5_level 30 = .ok (.invokevirtual 145, 3) := by decide +kernel
theorem dX5_level_33 : decode cX5_level 33 = .ok (.goto 8, 3) := by decide +kernel
theorem dX5_level_36 : decode cX5_level 36 = .ok (.aload_n 0, 1) := by decide +kernel
theorem dX5_level_37 : decode cX5_level 37 = .ok (.iconst (-1), 1) := by decide +kernel
theorem dX5_level_38 : decode cX5_level 38 = .ok (.invokevirtual 95, 3) := by decide +kernel
theorem dX5_level_41 : decode cX5_level 41 = .ok (.ireturn, 1) := by decide +kernel
theorem dX5_beacon_0 : decode cX5_beacon 0 = .ok (.aload_n 0, 1) := by decide +kernel
theorem dX5_beacon_1 : decode cX5_beacon 1 = .ok (.iload_n 1, 1) := by decide +kernel
theorem dX5_beacon_2 : decode cX5_beacon 2 = .ok (.invokevirtual 142, 3) := by decide +kernel
theorem dX5_beacon_5 : decode cX5_beacon 5 = .ok (.ifCond .eq 32, 3) := by decide +kernel
theorem dX5_beacon_8 : decode cX5_beacon 8 = .ok (.iload_n 2, 1) := by decide +kernel
theorem dX5_beacon_9 : decode cX5_beacon 9 = .ok (.iconst 0, 1) := by decide +kernel
theorem dX5_beacon_10 : decode cX5_beacon 10 = .ok (.bipush 15, 2) := by decide +kernel
theorem dX5_beacon_12 : decode cX5_beacon 12 = .ok (.invokestatic 88, 3) := by decide +kernel
theorem dX5_beacon_15 : decode cX5_beacon 15 = .ok (.ifCond .eq 22, 3) := by decide +kernel
theorem dX5_beacon_18 : decode cX5_beacon 18 = .ok (.aload_n 0, 1) := by decide +kernel
theorem dX5_beacon_19 : decode cX5_beacon 19 = .ok (.iload_n 2, 1) := by decide +kernel
theorem dX5_beacon_20 : decode cX5_beacon 20 = .ok (.iload_n 1, 1) := by decide +kernel
theorem dX5_beacon_21 : decode cX5_beacon 21 = .ok (.aload_n 0, 1) := by decide +kernel
theorem dX5_beacon_22 : decode cX5_beacon 22 = .ok (.getfield 7, 3) := by decide +kernel
theorem dX5_beacon_25 : decode cX5_beacon 25 = .ok (.iload_n 1, 1) := by decide +kernel
theorem dX5_beacon_26 : decode cX5_beacon 26 = .ok (.iaload, 1) := by decide +kernel
theorem dX5_beacon_27 : decode cX5_beacon 27 = .ok (.invokevirtual 148, 3) := by decide +kernel
theorem dX5_beacon_30 : decode cX5_beacon 30 = .ok (.ifCond .eq 7, 3) := by decide +kernel
theorem dX5_beacon_33 : decode cX5_beacon 33 = .ok (.iconst 1, 1) := by decide +kernel
theorem dX5_beacon_34 : decode cX5_beacon 34 = .ok (.goto 4, 3) := by decide +kernel
theorem dX5_beacon_37 : decode cX5_beacon 37 = .ok (.iconst 0, 1) := by decide +kernel
theorem dX5_beacon_38 : decode cX5_beacon 38 = .ok (.ireturn, 1) := by decide +kernel
theorem dX5_bearersOf_0 : decode cX5_bearersOf 0 = .ok (.iconst 0, 1) := by decide +kernel
theorem dX5_bearersOf_1 : decode cX5_bearersOf 1 = .ok (.istore_n 2, 1) := by decide +kernel
theorem dX5_bearersOf_2 : decode cX5_bearersOf 2 = .ok (.iconst 0, 1) := by decide +kernel
theorem dX5_bearersOf_3 : decode cX5_bearersOf 3 = .ok (.istore_n 3, 1) := by decide +kernel
theorem dX5_bearersOf_4 : decode cX5_bearersOf 4 = .ok (.iload_n 3, 1) := by decide +kernel
theorem dX5_bearersOf_5 : decode cX5_bearersOf 5 = .ok (.aload_n 0, 1) := by decide +kernel
theorem dX5_bearersOf_6 : decode cX5_bearersOf 6 = .ok (.getfield 109, 3) := by decide +kernel
theorem dX5_bearersOf_9 : decode cX5_bearersOf 9 = .ok (.if_icmp .ge 27, 3) := by decide +kernel
theorem dX5_bearersOf_12 : decode cX5_bearersOf 12 = .ok (.iload_n 2, 1) := by decide +kernel
theorem dX5_bearersOf_13 : decode cX5_bearersOf 13 = .ok (.aload_n 0, 1) := by decide +kernel
theorem dX5_bearersOf_14 : decode cX5_bearersOf 14 = .ok (.getfield 42, 3) := by decide +kernel
theorem dX5_bearersOf_17 : decode cX5_bearersOf 17 = .ok (.iload_n 3, 1) := by decide +kernel
theorem dX5_bearersOf_18 : decode cX5_bearersOf 18 = .ok (.iaload, 1) := by decide +kernel
theorem dX5_bearersOf_19 : decode cX5_bearersOf 19 = .ok (.iload_n 1, 1) := by decide +kernel
theorem dX5_bearersOf_20 : decode cX5_bearersOf 20 = .ok (.if_icmp .ne 7, 3) := by decide +kernel
theorem dX5_bearersOf_23 : decode cX5_bearersOf 23 = .ok (.iconst 1, 1) := by decide +kernel
theorem dX5_bearersOf_24 : decode cX5_bearersOf 24 = .ok (.goto 4, 3) := by decide +kernel
theorem dX5_bearersOf_27 : decode cX5_bearersOf 27 = .ok (.iconst 0, 1) := by decide +kernel
theorem dX5_bearersOf_28 : decode cX5_bearersOf 28 = .ok (.iadd, 1) := by decide +kernel
theorem dX5_bearersOf_29 : decode cX5_bearersOf 29 = .ok (.istore_n 2, 1) := by decide +kernel
theorem dX5_bearersOf_30 : decode cX5_bearersOf 30 = .ok (.iinc 3 1, 3) := by decide +kernel
theorem dX5_bearersOf_33 : decode cX5_bearersOf 33 = .ok (.goto (-29), 3) := by decide +kernel
theorem dX5_bearersOf_36 : decode cX5_bearersOf 36 = .ok (.iload_n 2, 1) := by decide +kernel
theorem dX5_bearersOf_37 : decode cX5_bearersOf 37 = .ok (.ireturn, 1) := by decide +kernel
theorem dX5_bearerOf_0 : decode cX5_bearerOf 0 = .ok (.iconst 0, 1) := by decide +kernel
theorem dX5_bearerOf_1 : decode cX5_bearerOf 1 = .ok (.istore_n 2, 1) := by decide +kernel
theorem dX5_bearerOf_2 : decode cX5_bearerOf 2 = .ok (.iload_n 2, 1) := by decide +kernel
theorem dX5_bearerOf_3 : decode cX5_bearerOf 3 = .ok (.aload_n 0, 1) := by decide +kernel
theorem dX5_bearerOf_4 : decode cX5_bearerOf 4 = .ok (.getfield 109, 3) := by decide +kernel
theorem dX5_bearerOf_7 : decode cX5_bearerOf 7 = .ok (.if_icmp .ge 19, 3) := by decide +kernel
theorem dX5_bearerOf_10 : decode cX5_bearerOf 10 = .ok (.aload_n 0, 1) := by decide +kernel
theorem dX5_bearerOf_11 : decode cX5_bearerOf 11 = .ok (.getfield 42, 3) := by decide +kernel
theorem dX5_bearerOf_14 : decode cX5_bearerOf 14 = .ok (.iload_n 2, 1) := by decide +kernel
theorem dX5_bearerOf_15 : decode cX5_bearerOf 15 = .ok (.iaload, 1) := by decide +kernel
theorem dX5_bearerOf_16 : decode cX5_bearerOf 16 = .ok (.iload_n 1, 1) := by decide +kernel
theorem dX5_bearerOf_17 : decode cX5_bearerOf 17 = .ok (.if_icmp .eq 9, 3) := by decide +kernel
theorem dX5_bearerOf_20 : decode cX5_bearerOf 20 = .ok (.iinc 2 1, 3) := by decide +kernel
theorem dX5_bearerOf_23 : decode cX5_bearerOf 23 = .ok (.goto (-21), 3) := by decide +kernel
theorem dX5_bearerOf_26 : decode cX5_bearerOf 26 = .ok (.iload_n 2, 1) := by decide +kernel
theorem dX5_bearerOf_27 : decode cX5_bearerOf 27 = .ok (.aload_n 0, 1) := by decide +kernel
theorem dX5_bearerOf_28 : decode cX5_bearerOf 28 = .ok (.getfield 109, 3) := by decide +kernel
theorem dX5_bearerOf_31 : decode cX5_bearerOf 31 = .ok (.if_icmp .ge 7, 3) := by decide +kernel
theorem dX5_bearerOf_34 : decode cX5_bearerOf 34 = .ok (.iload_n 2, 1) := by decide +kernel
theorem dX5_bearerOf_35 : decode cX5_bearerOf 35 = .ok (.goto 4, 3) := by decide +kernel
theorem dX5_bearerOf_38 : decode cX5_bearerOf 38 = .ok (.iconst (-1), 1) := by decide +kernel
theorem dX5_bearerOf_39 : decode cX5_bearerOf 39 = .ok (.ireturn, 1) := by decide +kernel
theorem dX5_handsOver_0 : decode cX5_handsOver 0 = .ok (.aload_n 0, 1) := by decide +kernel
theorem dX5_handsOver_1 : decode cX5_handsOver 1 = .ok (.iload_n 1, 1) := by decide +kernel
theorem dX5_handsOver_2 : decode cX5_handsOver 2 = .ok (.invokevirtual 151, 3) := by decide +kernel
theorem dX5_handsOver_5 : decode cX5_handsOver 5 = .ok (.iconst 1, 1) := by decide +kernel
theorem dX5_handsOver_6 : decode cX5_handsOver 6 = .ok (.if_icmp .ne 21, 3) := by decide +kernel
theorem dX5_handsOver_9 : decode cX5_handsOver 9 = .ok (.aload_n 0, 1) := by decide +kernel
theorem dX5_handsOver_10 : decode cX5_handsOver 10 = .ok (.getfield 51, 3) := by decide +kernel
theorem dX5_handsOver_13 : decode cX5_handsOver 13 = .ok (.aload_n 0, 1) := by decide +kernel
theorem dX5_handsOver_14 : decode cX5_handsOver 14 = .ok (.iload_n 1, 1) := by decide +kernel
theorem dX5_handsOver_15 : decode cX5_handsOver 15 = .ok (.invokevirtual 154, 3) := by decide +kernel
theorem dX5_handsOver_18 : decode cX5_handsOver 18 = .ok (.iaload, 1) := by decide +kernel
theorem dX5_handsOver_19 : decode cX5_handsOver 19 = .ok (.iconst 3, 1) := by decide +kernel
theorem dX5_handsOver_20 : decode cX5_handsOver 20 = .ok (.if_icmp .lt 7, 3) := by decide +kernel
theorem dX5_handsOver_23 : decode cX5_handsOver 23 = .ok (.iconst 1, 1) := by decide +kernel
theorem dX5_handsOver_24 : decode cX5_handsOver 24 = .ok (.goto 4, 3) := by decide +kernel
theorem dX5_handsOver_27 : decode cX5_handsOver 27 = .ok (.iconst 0, 1) := by decide +kernel
theorem dX5_handsOver_28 : decode cX5_handsOver 28 = .ok (.ireturn, 1) := by decide +kernel
theorem dX5_isSlotTaken_0 : decode cX5_isSlotTaken 0 = .ok (.aload_n 0, 1) := by decide +kernel
theorem dX5_isSlotTaken_1 : decode cX5_isSlotTaken 1 = .ok (.getfield 7, 3) := by decide +kernel
theorem dX5_isSlotTaken_4 : decode cX5_isSlotTaken 4 = .ok (.iload_n 2, 1) := by decide +kernel
theorem dX5_isSlotTaken_5 : decode cX5_isSlotTaken 5 = .ok (.iaload, 1) := by decide +kernel
theorem dX5_isSlotTaken_6 : decode cX5_isSlotTaken 6 = .ok (.bipush 10, 2) := by decide +kernel
theorem dX5_isSlotTaken_8 : decode cX5_isSlotTaken 8 = .ok (.idiv, 1) := by decide +kernel
theorem dX5_isSlotTaken_9 : decode cX5_isSlotTaken 9 = .ok (.iload_n 3, 1) := by decide +kernel
theorem dX5_isSlotTaken_10 : decode cX5_isSlotTaken 10 = .ok (.if_icmp .ne 7, 3) := by decide +kernel
theorem dX5_isSlotTaken_13 : decode cX5_isSlotTaken 13 = .ok (.iconst 1, 1) := by decide +kernel
theorem dX5_isSlotTaken_14 : decode cX5_isSlotTaken 14 = .ok (.goto 4, 3) := by decide +kernel
theorem dX5_isSlotTaken_17 : decode cX5_isSlotTaken 17 = .ok (.iconst 0, 1) := by decide +kernel
theorem dX5_isSlotTaken_18 : decode cX5_isSlotTaken 18 = .ok (.istore 4, 2) := by decide +kernel
theorem dX5_isSlotTaken_20 : decode cX5_isSlotTaken 20 = .ok (.iconst 0, 1) := by decide +kernel
theorem dX5_isSlotTaken_21 : decode cX5_isSlotTaken 21 = .ok (.istore 5, 2) := by decide +kernel
theorem dX5_isSlotTaken_23 : decode cX5_isSlotTaken 23 = .ok (.iload 5, 2) := by decide +kernel
theorem dX5_isSlotTaken_25 : decode cX5_isSlotTaken 25 = .ok (.aload_n 0, 1) := by decide +kernel
theorem dX5_isSlotTaken_26 : decode cX5_isSlotTaken 26 = .ok (.getfield 109, 3) := by decide +kernel
theorem dX5_isSlotTaken_29 : decode cX5_isSlotTaken 29 = .ok (.if_icmp .ge 57, 3) := by decide +kernel
theorem dX5_isSlotTaken_32 : decode cX5_isSlotTaken 32 = .ok (.iload 4, 2) := by decide +kernel
theorem dX5_isSlotTaken_34 : decode cX5_isSlotTaken 34 = .ok (.ifCond .ne 39, 3) := by decide +kernel
theorem dX5_isSlotTaken_37 : decode cX5_isSlotTaken 37 = .ok (.aload_n 0, 1) := by decide +kernel
theorem dX5_isSlotTaken_38 : decode cX5_isSlotTaken 38 = .ok (.getfield 45, 3) := by decide +kernel
theorem dX5_isSlotTaken_41 : decode cX5_isSlotTaken 41 = .ok (.iload 5, 2) := by decide +kernel
theorem dX5_isSlotTaken_43 : decode cX5_isSlotTaken 43 = .ok (.iaload, 1) := by decide +kernel
theorem dX5_isSlotTaken_44 : decode cX5_isSlotTaken 44 = .ok (.iload_n 2, 1) := by decide +kernel
theorem dX5_isSlotTaken_45 : decode cX5_isSlotTaken 45 = .ok (.if_icmp .eq 14, 3) := by decide +kernel
theorem dX5_isSlotTaken_48 : decode cX5_isSlotTaken 48 = .ok (.aload_n 0, 1) := by decide +kernel
theorem dX5_isSlotTaken_49 : decode cX5_isSlotTaken 49 = .ok (.getfield 42, 3) := by decide +kernel
theorem dX5_isSlotTaken_52 : decode cX5_isSlotTaken 52 = .ok (.iload 5, 2) := by decide +kernel
theorem dX5_isSlotTaken_54 : decode cX5_isSlotTaken 54 = .ok (.iaload, 1) := by decide +kernel
theorem dX5_isSlotTaken_55 : decode cX5_isSlotTaken 55 = .ok (.iload_n 1, 1) := by decide +kernel
theorem dX5_isSlotTaken_56 : decode cX5_isSlotTaken 56 = .ok (.if_icmp .ne 21, 3) := by decide +kernel
theorem dX5_isSlotTaken_59 : decode cX5_isSlotTaken 59 = .ok (.aload_n 0, 1) := by decide +kernel
theorem dX5_isSlotTaken_60 : decode cX5_isSlotTaken 60 = .ok (.getfield 48, 3) := by decide +kernel
theorem dX5_isSlotTaken_63 : decode cX5_isSlotTaken 63 = .ok (.iload 5, 2) := by decide +kernel
theorem dX5_isSlotTaken_65 : decode cX5_isSlotTaken 65 = .ok (.iaload, 1) := by decide +kernel
theorem dX5_isSlotTaken_66 : decode cX5_isSlotTaken 66 = .ok (.bipush 10, 2) := by decide +kernel
theorem dX5_isSlotTaken_68 : decode cX5_isSlotTaken 68 = .ok (.idiv, 1) := by decide +kernel
theorem dX5_isSlotTaken_69 : decode cX5_isSlotTaken 69 = .ok (.iload_n 3, 1) := by decide +kernel
theorem dX5_isSlotTaken_70 : decode cX5_isSlotTaken 70 = .ok (.if_icmp .ne 7, 3) := by decide +kernel
theorem dX5_isSlotTaken_73 : decode cX5_isSlotTaken 73 = .ok (.iconst 1, 1) := by decide +kernel
theorem dX5_isSlotTaken_74 : decode cX5_isSlotTaken 74 = .ok (.goto 4, 3) := by decide +kernel
theorem dX5_isSlotTaken_77 : decode cX5_isSlotTaken 77 = .ok (.iconst 0, 1) := by decide +kernel
theorem dX5_isSlotTaken_78 : decode cX5_isSlotTaken 78 = .ok (.istore 4, 2) := by decide +kernel
theorem dX5_isSlotTaken_80 : decode cX5_isSlotTaken 80 = .ok (.iinc 5 1, 3) := by decide +kernel
theorem dX5_isSlotTaken_83 : decode cX5_isSlotTaken 83 = .ok (.goto (-60), 3) := by decide +kernel
theorem dX5_isSlotTaken_86 : decode cX5_isSlotTaken 86 = .ok (.iload 4, 2) := by decide +kernel
theorem dX5_isSlotTaken_88 : decode cX5_isSlotTaken 88 = .ok (.ireturn, 1) := by decide +kernel
theorem dX5_setUp_0 : decode cX5_setUp 0 = .ok (.aload_n 0, 1) := by decide +kernel
theorem dX5_setUp_1 : decode cX5_setUp 1 = .ok (.iload_n 1, 1) := by decide +kernel
theorem dX5_setUp_2 : decode cX5_setUp 2 = .ok (.invokevirtual 157, 3) := by decide +kernel
theorem dX5_setUp_5 : decode cX5_setUp 5 = .ok (.istore_n 2, 1) := by decide +kernel
theorem dX5_setUp_6 : decode cX5_setUp 6 = .ok (.aload_n 0, 1) := by decide +kernel
theorem dX5_setUp_7 : decode cX5_setUp 7 = .ok (.getfield 27, 3) := by decide +kernel
theorem dX5_setUp_10 : decode cX5_setUp 10 = .ok (.iload_n 1, 1) := by decide +kernel
theorem dX5_setUp_11 : decode cX5_setUp 11 = .ok (.iaload, 1) := by decide +kernel
theorem dX5_setUp_12 : decode cX5_setUp 12 = .ok (.iconst 1, 1) := by decide +kernel
theorem dX5_setUp_13 : decode cX5_setUp 13 = .ok (.if_icmp .eq 13, 3) := by decide +kernel
theorem dX5_setUp_16 : decode cX5_setUp 16 = .ok (.aload_n 0, 1) := by decide +kernel
theorem dX5_setUp_17 : decode cX5_setUp 17 = .ok (.getfield 27, 3) := by decide +kernel
theorem dX5_setUp_20 : decode cX5_setUp 20 = .ok (.iload_n 1, 1) := by decide +kernel
theorem dX5_setUp_21 : decode cX5_setUp 21 = .ok (.iaload, 1) := by decide +kernel
theorem dX5_setUp_22 : decode cX5_setUp 22 = .ok (.iconst 4, 1) := by decide +kernel
theorem dX5_setUp_23 : decode cX5_setUp 23 = .ok (.if_icmp .ne 15, 3) := by decide +kernel
theorem dX5_setUp_26 : decode cX5_setUp 26 = .ok (.aload_n 0, 1) := by decide +kernel
theorem dX5_setUp_27 : decode cX5_setUp 27 = .ok (.iload_n 1, 1) := by decide +kernel
theorem dX5_setUp_28 : decode cX5_setUp 28 = .ok (.invokevirtual 151, 3) := by decide +kernel
theorem dX5_setUp_31 : decode cX5_setUp 31 = .ok (.ifCond .ne 7, 3) := by decide +kernel
theorem dX5_setUp_34 : decode cX5_setUp 34 = .ok (.iconst 1, 1) := by decide +kernel
theorem dX5_setUp_35 : decode cX5_setUp 35 = .ok (.goto 4, 3) := by decide +kernel
theorem dX5_setUp_38 : decode cX5_setUp 38 = .ok (.iconst 0, 1) := by decide +kernel
theorem dX5_setUp_39 : decode cX5_setUp 39 = .ok (.istore_n 3, 1) := by decide +kernel
theorem dX5_setUp_40 : decode cX5_setUp 40 = .ok (.iload_n 2, 1) := by decide +kernel
theorem dX5_setUp_41 : decode cX5_setUp 41 = .ok (.ifCond .ne 7, 3) := by decide +kernel
theorem dX5_setUp_44 : decode cX5_setUp 44 = .ok (.iload_n 3, 1) := by decide +kernel
theorem dX5_setUp_45 : decode cX5_setUp 45 = .ok (.ifCond .eq 14, 3) := by decide +kernel
theorem dX5_setUp_48 : decode cX5_setUp 48 = .ok (.aload_n 0, 1) := by decide +kernel
theorem dX5_setUp_49 : decode cX5_setUp 49 = .ok (.getfield 103, 3) := by decide +kernel
theorem dX5_setUp_52 : decode cX5_setUp 52 = .ok (.iload_n 1, 1) := by decide +kernel
theorem dX5_setUp_53 : decode cX5_setUp 53 = .ok (.isub, 1) := by decide +kernel
theorem dX5_setUp_54 : decode cX5_setUp 54 = .ok (.iconst 4, 1) := by decide +kernel
theorem dX5_setUp_55 : decode cX5_setUp 55 = .ok (.irem, 1) := by decide +kernel
theorem dX5_setUp_56 : decode cX5_setUp 56 = .ok (.ifCond .eq 4, 3) := by decide +kernel
theorem dX5_setUp_59 : decode cX5_setUp 59 = .ok (.return_, 1) := by decide +kernel
theorem dX5_setUp_60 : decode cX5_setUp 60 = .ok (.iload_n 2, 1) := by decide +kernel
theorem dX5_setUp_61 : decode cX5_setUp 61 = .ok (.ifCond .eq 16, 3) := by decide +kernel
theorem dX5_setUp_64 : decode cX5_setUp 64 = .ok (.aload_n 0, 1) := by decide +kernel
theorem dX5_setUp_65 : decode cX5_setUp 65 = .ok (.getfield 45, 3) := by decide +kernel
theorem dX5_setUp_68 : decode cX5_setUp 68 = .ok (.aload_n 0, 1) := by decide +kernel
theorem dX5_setUp_69 : decode cX5_setUp 69 = .ok (.iload_n 1, 1) := by decide +kernel
theorem dX5_setUp_70 : decode cX5_setUp 70 = .ok (.invokevirtual 154, 3) := by decide +kernel
theorem dX5_setUp_73 : decode cX5_setUp 73 = .ok (.iaload, 1) := by decide +kernel
theorem dX5_setUp_74 : decode cX5_setUp 74 = .ok (.goto 4, 3) := by decide +kernel
theorem dX5_setUp_77 : decode cX5_setUp 77 = .ok (.iconst (-1), 1) := by decide +kernel
theorem dX5_setUp_78 : decode cX5_setUp 78 = .ok (.istore 4, 2) := by decide +kernel
theorem dX5_setUp_80 : decode cX5_setUp 80 = .ok (.iconst (-1), 1) := by decide +kernel
theorem dX5_setUp_81 : decode cX5_setUp 81 = .ok (.istore 5, 2) := by decide +kernel
theorem dX5_setUp_83 : decode cX5_setUp 83 = .ok (.iconst 0, 1) := by decide +kernel
theorem dX5_setUp_84 : decode cX5_setUp 84 = .ok (.istore 6, 2) := by decide +kernel
theorem dX5_setUp_86 : decode cX5_setUp 86 = .ok (.iload 6, 2) := by decide +kernel
theorem dX5_setUp_88 : decode cX5_setUp 88 = .ok (.aload_n 0, 1) := by decide +kernel
theorem dX5_setUp_89 : decode cX5_setUp 89 = .ok (.getfield 84, 3) := by decide +kernel
theorem dX5_setUp_92 : decode cX5_setUp 92 = .ok (.if_icmp .ge 52, 3) := by decide +kernel
theorem dX5_setUp_95 : decode cX5_setUp 95 = .ok (.iload 5, 2) := by decide +kernel
theorem dX5_setUp_97 : decode cX5_setUp 97 = .ok (.ifCond .ge 37, 3) := by decide +kernel
theorem dX5_setUp_100 : decode cX5_setUp 100 = .ok (.iload 6, 2) := by decide +kernel
theorem dX5_setUp_102 : decode cX5_setUp 102 = .ok (.iload 4, 2) := by decide +kernel
theorem dX5_setUp_104 : decode cX5_setUp 104 = .ok (.if_icmp .eq 30, 3) := by decide +kernel
theorem dX5_setUp_107 : decode cX5_setUp 107 = .ok (.aload_n 0, 1) := by decide +kernel
theorem dX5_setUp_108 : decode cX5_setUp 108 = .ok (.aload_n 0, 1) := by decide +kernel
theorem dX5_setUp_109 : decode cX5_setUp 109 = .ok (.getfield 13, 3) := by decide +kernel
theorem dX5_setUp_112 : decode cX5_setUp 112 = .ok (.iload_n 1, 1) := by decide +kernel
theorem dX5_setUp_113 : decode cX5_setUp 113 = .ok (.iaload, 1) := by decide +kernel
theorem dX5_setUp_114 : decode cX5_setUp 114 = .ok (.iload 6, 2) := by decide +kernel
theorem dX5_setUp_116 : decode cX5_setUp 116 = .ok (.aload_n 0, 1) := by decide +kernel
theorem dX5_setUp_117 : decode cX5_setUp 117 = .ok (.getfield 7, 3) := by decide +kernel
theorem dX5_setUp_120 : decode cX5_setUp 120 = .ok (.iload 6, 2) := by decide +kernel
theorem dX5_setUp_122 : decode cX5_setUp 122 = .ok (.iaload, 1) := by decide +kernel
theorem dX5_setUp_123 : decode cX5_setUp 123 = .ok (.invokevirtual 148, 3) := by decide +kernel
theorem dX5_setUp_126 : decode cX5_setUp 126 = .ok (.ifCond .eq 8, 3) := by decide +kernel
theorem dX5_setUp_129 : decode cX5_setUp 129 = .ok (.iload 6, 2) := by decide +kernel
theorem dX5_setUp_131 : decode cX5_setUp 131 = .ok (.goto 5, 3) := by decide +kernel
theorem dX5_setUp_134 : decode cX5_setUp 134 = .ok (.iload 5, 2) := by decide +kernel
theorem dX5_setUp_136 : decode cX5_setUp 136 = .ok (.istore 5, 2) := by decide +kernel
theorem dX5_setUp_138 : decode cX5_setUp 138 = .ok (.iinc 6 1, 3) := by decide +kernel
theorem dX5_setUp_141 : decode cX5_setUp 141 = .ok (.goto (-55), 3) := by decide +kernel
theorem dX5_setUp_144 : decode cX5_setUp 144 = .ok (.iload 5, 2) := by decide +kernel
theorem dX5_setUp_146 : decode cX5_setUp 146 = .ok (.ifCond .ge 33, 3) := by decide +kernel
theorem dX5_setUp_149 : decode cX5_setUp 149 = .ok (.iload_n 2, 1) := by decide +kernel
theorem dX5_setUp_150 : decode cX5_setUp 150 = .ok (.ifCond .eq 29, 3) := by decide +kernel
theorem dX5_setUp_153 : decode cX5_setUp 153 = .ok (.aload_n 0, 1) := by decide +kernel
theorem dX5_setUp_154 : decode cX5_setUp 154 = .ok (.aload_n 0, 1) := by decide +kernel
theorem dX5_setUp_155 : decode cX5_setUp 155 = .ok (.getfield 13, 3) := by decide +kernel
theorem dX5_setUp_158 : decode cX5_setUp 158 = .ok (.iload_n 1, 1) := by decide +kernel
theorem dX5_setUp_159 : decode cX5_setUp 159 = .ok (.iaload, 1) := by decide +kernel
theorem dX5_setUp_160 : decode cX5_setUp 160 = .ok (.iload 4, 2) := by decide +kernel
theorem dX5_setUp_162 : decode cX5_setUp 162 = .ok (.aload_n 0, 1) := by decide +kernel
theorem dX5_setUp_163 : decode cX5_setUp 163 = .ok (.getfield 7, 3) := by decide +kernel
theorem dX5_setUp_166 : decode cX5_setUp 166 = .ok (.iload 4, 2) := by decide +kernel
theorem dX5_setUp_168 : decode cX5_setUp 168 = .ok (.iaload, 1) := by decide +kernel
theorem dX5_setUp_169 : decode cX5_setUp 169 = .ok (.invokevirtual 148, 3) := by decide +kernel
theorem dX5_setUp_172 : decode cX5_setUp 172 = .ok (.ifCond .eq 7, 3) := by decide +kernel
theorem dX5_setUp_175 : decode cX5_setUp 175 = .ok (.iload 4, 2) := by decide +kernel
theorem dX5_setUp_177 : decode cX5_setUp 177 = .ok (.istore 5, 2) := by decide +kernel
theorem dX5_setUp_179 : decode cX5_setUp 179 = .ok (.iload 5, 2) := by decide +kernel
theorem dX5_setUp_181 : decode cX5_setUp 181 = .ok (.ifCond .ge 4, 3) := by decide +kernel
theorem dX5_setUp_184 : decode cX5_setUp 184 = .ok (.return_, 1) := by decide +kernel
theorem dX5_setUp_185 : decode cX5_setUp 185 = .ok (.iconst (-1), 1) := by decide +kernel
theorem dX5_setUp_186 : decode cX5_setUp 186 = .ok (.istore 6, 2) := by decide +kernel
theorem dX5_setUp_188 : decode cX5_setUp 188 = .ok (.iconst 4, 1) := by decide +kernel
theorem dX5_setUp_189 : decode cX5_setUp 189 = .ok (.istore 7, 2) := by decide +kernel
theorem dX5_setUp_191 : decode cX5_setUp 191 = .ok (.iconst 0, 1) := by decide +kernel
theorem dX5_setUp_192 : decode cX5_setUp 192 = .ok (.istore 8, 2) := by decide +kernel
theorem dX5_setUp_194 : decode cX5_setUp 194 = .ok (.iload 8, 2) := by decide +kernel
theorem dX5_setUp_196 : decode cX5_setUp 196 = .ok (.bipush 120, 2) := by decide +kernel
theorem dX5_setUp_198 : decode cX5_setUp 198 = .ok (.if_icmp .ge 71, 3) := by decide +kernel
theorem dX5_setUp_201 : decode cX5_setUp 201 = .ok (.aload_n 0, 1) := by decide +kernel
theorem dX5_setUp_202 : decode cX5_setUp 202 = .ok (.iload_n 1, 1) := by decide +kernel
theorem dX5_setUp_203 : decode cX5_setUp 203 = .ok (.iload 5, 2) := by decide +kernel
theorem dX5_setUp_205 : decode cX5_setUp 205 = .ok (.iload 8, 2) := by decide +kernel
theorem dX5_setUp_207 : decode cX5_setUp 207 = .ok (.bipush 10, 2) := by decide +kernel
theorem dX5_setUp_209 : decode cX5_setUp 209 = .ok (.idiv, 1) := by decide +kernel
theorem dX5_setUp_210 : decode cX5_setUp 210 = .ok (.invokevirtual 160, 3) := by decide +kernel
theorem dX5_setUp_213 : decode cX5_setUp 213 = .ok (.ifCond .eq 7, 3) := by decide +kernel
theorem dX5_setUp_216 : decode cX5_setUp 216 = .ok (.iconst 4, 1) := by decide +kernel
theorem dX5_setUp_217 : decode cX5_setUp 217 = .ok (.goto 12, 3) := by decide +kernel
theorem dX5_setUp_220 : decode cX5_setUp 220 = .ok (.aload_n 0, 1) := by decide +kernel
theorem dX5_setUp_221 : decode cX5_setUp 221 = .ok (.iload_n 1, 1) := by decide +kernel
theorem dX5_setUp_222 : decode cX5_setUp 222 = .ok (.iload 5, 2) := by decide +kernel
theorem dX5_setUp_224 : decode cX5_setUp 224 = .ok (.iload 8, 2) := by decide +kernel
theorem dX5_setUp_226 : decode cX5_setUp 226 = .ok (.invokevirtual 145, 3) := by decide +kernel
theorem dX5_setUp_229 : decode cX5_setUp 229 = .ok (.istore 9, 2) := by decide +kernel
theorem dX5_setUp_231 : decode cX5_setUp 231 = .ok (.iload 9, 2) := by decide +kernel
theorem dX5_setUp_233 : decode cX5_setUp 233 = .ok (.iload 7, 2) := by decide +kernel
theorem dX5_setUp_235 : decode cX5_setUp 235 = .ok (.if_icmp .ge 8, 3) := by decide +kernel
theorem dX5_setUp_238 : decode cX5_setUp 238 = .ok (.iload 8, 2) := by decide +kernel
theorem dX5_setUp_240 : decode cX5_setUp 240 = .ok (.goto 5, 3) := by decide +kernel
theorem dX5_setUp_243 : decode cX5_setUp 243 = .ok (.iload 6, 2) := by decide +kernel
theorem dX5_setUp_245 : decode cX5_setUp 245 = .ok (.istore 6, 2) := by decide +kernel
theorem dX5_setUp_247 : decode cX5_setUp 247 = .ok (.iload 9, 2) := by decide +kernel
theorem dX5_setUp_249 : decode cX5_setUp 249 = .ok (.iload 7, 2) := by decide +kernel
theorem dX5_setUp_251 : decode cX5_setUp 251 = .ok (.if_icmp .ge 8, 3) := by decide +kernel
theorem dX5_setUp_254 : decode cX5_setUp 254 = .ok (.iload 9, 2) := by decide +kernel
theorem dX5_setUp_256 : decode cX5_setUp 256 = .ok (.goto 5, 3) := by decide +kernel
theorem dX5_setUp_259 : decode cX5_setUp 259 = .ok (.iload 7, 2) := by decide +kernel
theorem dX5_setUp_261 : decode cX5_setUp 261 = .ok (.istore 7, 2) := by decide +kernel
theorem dX5_setUp_263 : decode cX5_setUp 263 = .ok (.iinc 8 1, 3) := by decide +kernel
theorem dX5_setUp_266 : decode cX5_setUp 266 = .ok (.goto (-72), 3) := by decide +kernel
theorem dX5_setUp_269 : decode cX5_setUp 269 = .ok (.iload 6, 2) := by decide +kernel
theorem dX5_setUp_271 : decode cX5_setUp 271 = .ok (.ifCond .lt 75, 3) := by decide +kernel
theorem dX5_setUp_274 : decode cX5_setUp 274 = .ok (.aload_n 0, 1) := by decide +kernel
theorem dX5_setUp_275 : decode cX5_setUp 275 = .ok (.getfield 42, 3) := by decide +kernel
theorem dX5_setUp_278 : decode cX5_setUp 278 = .ok (.aload_n 0, 1) := by decide +kernel
theorem dX5_setUp_279 : decode cX5_setUp 279 = .ok (.getfield 109, 3) := by decide +kernel
theorem dX5_setUp_282 : decode cX5_setUp 282 = .ok (.iload_n 1, 1) := by decide +kernel
theorem dX5_setUp_283 : decode cX5_setUp 283 = .ok (.iastore, 1) := by decide +kernel
theorem dX5_setUp_284 : decode cX5_setUp 284 = .ok (.aload_n 0, 1) := by decide +kernel
theorem dX5_setUp_285 : decode cX5_setUp 285 = .ok (.getfield 45, 3) := by decide +kernel
theorem dX5_setUp_288 : decode cX5_setUp 288 = .ok (.aload_n 0, 1) := by decide +kernel
theorem dX5_setUp_289 : decode cX5_setUp 289 = .ok (.getfield 109, 3) := by decide +kernel
theorem dX5_setUp_292 : decode cX5_setUp 292 = .ok (.iload 5, 2) := by decide +kernel
theorem dX5_setUp_294 : decode cX5_setUp 294 = .ok (.iastore, 1) := by decide +kernel
theorem dX5_setUp_295 : decode cX5_setUp 295 = .ok (.aload_n 0, 1) := by decide +kernel
theorem dX5_setUp_296 : decode cX5_setUp 296 = .ok (.getfield 48, 3) := by decide +kernel
theorem dX5_setUp_299 : decode cX5_setUp 299 = .ok (.aload_n 0, 1) := by decide +kernel
theorem dX5_setUp_300 : decode cX5_setUp 300 = .ok (.getfield 109, 3) := by decide +kernel
theorem dX5_setUp_303 : decode cX5_setUp 303 = .ok (.iload 6, 2) := by decide +kernel
theorem dX5_setUp_305 : decode cX5_setUp 305 = .ok (.iastore, 1) := by decide +kernel
theorem dX5_setUp_306 : decode cX5_setUp 306 = .ok (.aload_n 0, 1) := by decide +kernel
theorem dX5_setUp_307 : decode cX5_setUp 307 = .ok (.getfield 51, 3) := by decide +kernel
theorem dX5_setUp_310 : decode cX5_setUp 310 = .ok (.aload_n 0, 1) := by decide +kernel
theorem dX5_setUp_311 : decode cX5_setUp 311 = .ok (.getfield 109, 3) := by decide +kernel
theorem dX5_setUp_314 : decode cX5_setUp 314 = .ok (.iconst 0, 1) := by decide +kernel
theorem dX5_setUp_315 : decode cX5_setUp 315 = .ok (.iastore, 1) := by decide +kernel
theorem dX5_setUp_316 : decode cX5_setUp 316 = .ok (.aload_n 0, 1) := by decide +kernel
theorem dX5_setUp_317 : decode cX5_setUp 317 = .ok (.getfield 54, 3) := by decide +kernel
theorem dX5_setUp_320 : decode cX5_setUp 320 = .ok (.aload_n 0, 1) := by decide +kernel
theorem dX5_setUp_321 : decode cX5_setUp 321 = .ok (.getfield 109, 3) := by decide +kernel
theorem dX5_setUp_324 : decode cX5_setUp 324 = .ok (.iconst 0, 1) := by decide +kernel
theorem dX5_setUp_325 : decode cX5_setUp 325 = .ok (.bastore, 1) := by decide +kernel
theorem dX5_setUp_326 : decode cX5_setUp 326 = .ok (.aload_n 0, 1) := by decide +kernel
theorem dX5_setUp_327 : decode cX5_setUp 327 = .ok (.dup, 1) := by decide +kernel
theorem dX5_setUp_328 : decode cX5_setUp 328 = .ok (.getfield 109, 3) := by decide +kernel
theorem dX5_setUp_331 : decode cX5_setUp 331 = .ok (.iconst 1, 1) := by decide +kernel
theorem dX5_setUp_332 : decode cX5_setUp 332 = .ok (.iadd, 1) := by decide +kernel
theorem dX5_setUp_333 : decode cX5_setUp 333 = .ok (.putfield 109, 3) := by decide +kernel
theorem dX5_setUp_336 : decode cX5_setUp 336 = .ok (.aload_n 0, 1) := by decide +kernel
theorem dX5_setUp_337 : decode cX5_setUp 337 = .ok (.dup, 1) := by decide +kernel
theorem dX5_setUp_338 : decode cX5_setUp 338 = .ok (.getfield 163, 3) := by decide +kernel
theorem dX5_setUp_341 : decode cX5_setUp 341 = .ok (.iconst 1, 1) := by decide +kernel
theorem dX5_setUp_342 : decode cX5_setUp 342 = .ok (.iadd, 1) := by decide +kernel
theorem dX5_setUp_343 : decode cX5_setUp 343 = .ok (.putfield 163, 3) := by decide +kernel
theorem dX5_setUp_346 : decode cX5_setUp 346 = .ok (.return_, 1) := by decide +kernel
theorem dX5_send_0 : decode cX5_send 0 = .ok (.iconst 0, 1) := by decide +kernel
theorem dX5_send_1 : decode cX5_send 1 = .ok (.istore_n 1, 1) := by decide +kernel
theorem dX5_send_2 : decode cX5_send 2 = .ok (.iload_n 1, 1) := by decide +kernel
theorem dX5_send_3 : decode cX5_send 3 = .ok (.aload_n 0, 1) := by decide +kernel
theorem dX5_send_4 : decode cX5_send 4 = .ok (.getfield 109, 3) := by decide +kernel
theorem dX5_send_7 : decode cX5_send 7 = .ok (.if_icmp .ge 75, 3) := by decide +kernel
theorem dX5_send_10 : decode cX5_send 10 = .ok (.aload_n 0, 1) := by decide +kernel
theorem dX5_send_11 : decode cX5_send 11 = .ok (.getfield 54, 3) := by decide +kernel
theorem dX5_send_14 : decode cX5_send 14 = .ok (.iload_n 1, 1) := by decide +kernel
theorem dX5_send_15 : decode cX5_send 15 = .ok (.aload_n 0, 1) := by decide +kernel
theorem dX5_send_16 : decode cX5_send 16 = .ok (.aload_n 0, 1) := by decide +kernel
theorem dX5_send_17 : decode cX5_send 17 = .ok (.getfield 13, 3) := by decide +kernel
theorem dX5_send_20 : decode cX5_send 20 = .ok (.aload_n 0, 1) := by decide +kernel
theorem dX5_send_21 : decode cX5_send 21 = .ok (.getfield 42, 3) := by decide +kernel
theorem dX5_send_24 : decode cX5_send 24 = .ok (.iload_n 1, 1) := by decide +kernel
theorem dX5_send_25 : decode cX5_send 25 = .ok (.iaload, 1) := by decide +kernel
theorem dX5_send_26 : decode cX5_send 26 = .ok (.iaload, 1) := by decide +kernel
theorem dX5_send_27 : decode cX5_send 27 = .ok (.aload_n 0, 1) := by decide +kernel
theorem dX5_send_28 : decode cX5_send 28 = .ok (.getfield 45, 3) := by decide +kernel
theorem dX5_send_31 : decode cX5_send 31 = .ok (.iload_n 1, 1) := by decide +kernel
theorem dX5_send_32 : decode cX5_send 32 = .ok (.iaload, 1) := by decide +kernel
theorem dX5_send_33 : decode cX5_send 33 = .ok (.aload_n 0, 1) := by decide +kernel
theorem dX5_send_34 : decode cX5_send 34 = .ok (.getfield 48, 3) := by decide +kernel
theorem dX5_send_37 : decode cX5_send 37 = .ok (.iload_n 1, 1) := by decide +kernel
theorem dX5_send_38 : decode cX5_send 38 = .ok (.iaload, 1) := by decide +kernel
theorem dX5_send_39 : decode cX5_send 39 = .ok (.invokevirtual 148, 3) := by decide +kernel
theorem dX5_send_42 : decode cX5_send 42 = .ok (.ifCond .eq 32, 3) := by decide +kernel
theorem dX5_send_45 : decode cX5_send 45 = .ok (.aload_n 0, 1) := by decide +kernel
theorem dX5_send_46 : decode cX5_send 46 = .ok (.aload_n 0, 1) := by decide +kernel
theorem dX5_send_47 : decode cX5_send 47 = .ok (.getfield 45, 3) := by decide +kernel
theorem dX5_send_50 : decode cX5_send 50 = .ok (.iload_n 1, 1) := by decide +kernel
theorem dX5_send_51 : decode cX5_send 51 = .ok (.iaload, 1) := by decide +kernel
theorem dX5_send_52 : decode cX5_send 52 = .ok (.aload_n 0, 1) := by decide +kernel
theorem dX5_send_53 : decode cX5_send 53 = .ok (.getfield 42, 3) := by decide +kernel
theorem dX5_send_56 : decode cX5_send 56 = .ok (.iload_n 1, 1) := by decide +kernel
theorem dX5_send_57 : decode cX5_send 57 = .ok (.iaload, 1) := by decide +kernel
theorem dX5_send_58 : decode cX5_send 58 = .ok (.aload_n 0, 1) := by decide +kernel
theorem dX5_send_59 : decode cX5_send 59 = .ok (.getfield 48, 3) := by decide +kernel
theorem dX5_send_62 : decode cX5_send 62 = .ok (.iload_n 1, 1) := by decide +kernel
theorem dX5_send_63 : decode cX5_send 63 = .ok (.iaload, 1) := by decide +kernel
theorem dX5_send_64 : decode cX5_send 64 = .ok (.invokevirtual 166, 3) := by decide +kernel
theorem dX5_send_67 : decode cX5_send 67 = .ok (.ifCond .eq 7, 3) := by decide +kernel
theorem dX5_send_70 : decode cX5_send 70 = .ok (.iconst 1, 1) := by decide +kernel
theorem dX5_send_71 : decode cX5_send 71 = .ok (.goto 4, 3) := by decide +kernel
theorem dX5_send_74 : decode cX5_send 74 = .ok (.iconst 0, 1) := by decide +kernel
theorem dX5_send_75 : decode cX5_send 75 = .ok (.bastore, 1) := by decide +kernel
theorem dX5_send_76 : decode cX5_send 76 = .ok (.iinc 1 1, 3) := by decide +kernel
theorem dX5_send_79 : decode cX5_send 79 = .ok (.goto (-77), 3) := by decide +kernel
theorem dX5_send_82 : decode cX5_send 82 = .ok (.iconst 0, 1) := by decide +kernel
theorem dX5_send_83 : decode cX5_send 83 = .ok (.istore_n 1, 1) := by decide +kernel
theorem dX5_send_84 : decode cX5_send 84 = .ok (.iload_n 1, 1) := by decide +kernel
theorem dX5_send_85 : decode cX5_send 85 = .ok (.aload_n 0, 1) := by decide +kernel
theorem dX5_send_86 : decode cX5_send 86 = .ok (.getfield 109, 3) := by decide +kernel
theorem dX5_send_89 : decode cX5_send 89 = .ok (.if_icmp .ge 36, 3) := by decide +kernel
theorem dX5_send_92 : decode cX5_send 92 = .ok (.aload_n 0, 1) := by decide +kernel
theorem dX5_send_93 : decode cX5_send 93 = .ok (.getfield 51, 3) := by decide +kernel
theorem dX5_send_96 : decode cX5_send 96 = .ok (.iload_n 1, 1) := by decide +kernel
theorem dX5_send_97 : decode cX5_send 97 = .ok (.aload_n 0, 1) := by decide +kernel
theorem dX5_send_98 : decode cX5_send 98 = .ok (.getfield 54, 3) := by decide +kernel
theorem dX5_send_101 : decode cX5_send 101 = .ok (.iload_n 1, 1) := by decide +kernel
theorem dX5_send_102 : decode cX5_send 102 = .ok (.baload, 1) := by decide +kernel
theorem dX5_send_103 : decode cX5_send 103 = .ok (.ifCond .eq 7, 3) := by decide +kernel
theorem dX5_send_106 : decode cX5_send 106 = .ok (.iconst 0, 1) := by decide +kernel
theorem dX5_send_107 : decode cX5_send 107 = .ok (.goto 11, 3) := by decide +kernel
theorem dX5_send_110 : decode cX5_send 110 = .ok (.aload_n 0, 1) := by decide +kernel
theorem dX5_send_111 : decode cX5_send 111 = .ok (.getfield 51, 3) := by decide +kernel
theorem dX5_send_114 : decode cX5_send 114 = .ok (.iload_n 1, 1) := by decide +kernel
theorem dX5_send_115 : decode cX5_send 115 = .ok (.iaload, 1) := by decide +kernel
theorem dX5_send_116 : decode cX5_send 116 = .ok (.iconst 1, 1) := by decide +kernel
theorem dX5_send_117 : decode cX5_send 117 = .ok (.iadd, 1) := by decide +kernel
theorem dX5_send_118 : decode cX5_send 118 = .ok (.iastore, 1) := by decide +kernel
theorem dX5_send_119 : decode cX5_send 119 = .ok (.iinc 1 1, 3) := by decide +kernel
theorem dX5_send_122 : decode cX5_send 122 = .ok (.goto (-38), 3) := by decide +kernel
theorem dX5_send_125 : decode cX5_send 125 = .ok (.return_, 1) := by decide +kernel
theorem dX5_goOrStay_0 : decode cX5_goOrStay 0 = .ok (.aload_n 0, 1) := by decide +kernel
theorem dX5_goOrStay_1 : decode cX5_goOrStay 1 = .ok (.getfield 109, 3) := by decide +kernel
theorem dX5_goOrStay_4 : decode cX5_goOrStay 4 = .ok (.iconst 1, 1) := by decide +kernel
theorem dX5_goOrStay_5 : decode cX5_goOrStay 5 = .ok (.isub, 1) := by decide +kernel
theorem dX5_goOrStay_6 : decode cX5_goOrStay 6 = .ok (.istore_n 1, 1) := by decide +kernel
theorem dX5_goOrStay_7 : decode cX5_goOrStay 7 = .ok (.iload_n 1, 1) := by decide +kernel
theorem dX5_goOrStay_8 : decode cX5_goOrStay 8 = .ok (.ifCond .lt 25, 3) := by decide +kernel
theorem dX5_goOrStay_11 : decode cX5_goOrStay 11 = .ok (.aload_n 0, 1) := by decide +kernel
theorem dX5_goOrStay_12 : decode cX5_goOrStay 12 = .ok (.getfield 51, 3) := by decide +kernel
theorem dX5_goOrStay_15 : decode cX5_goOrStay 15 = .ok (.iload_n 1, 1) := by decide +kernel
theorem dX5_goOrStay_16 : decode cX5_goOrStay 16 = .ok (.iaload, 1) := by decide +kernel
theorem dX5_goOrStay_17 : decode cX5_goOrStay 17 = .ok (.bipush 8, 2) := by decide +kernel
theorem dX5_goOrStay_19 : decode cX5_goOrStay 19 = .ok (.if_icmp .lt 8, 3) := by decide +kernel
theorem dX5_goOrStay_22 : decode cX5_goOrStay 22 = .ok (.aload_n 0, 1) := by decide +kernel
theorem dX5_goOrStay_23 : decode cX5_goOrStay 23 = .ok (.iload_n 1, 1) := by decide +kernel
theorem dX5_goOrStay_24 : decode cX5_goOrStay 24 = .ok (.invokevirtual 112, 3) := by decide +kernel
theorem dX5_goOrStay_27 : decode cX5_goOrStay 27 = .ok (.iinc 1 (-1), 3) := by decide +kernel
theorem dX5_goOrStay_30 : decode cX5_goOrStay 30 = .ok (.goto (-23), 3) := by decide +kernel
theorem dX5_goOrStay_33 : decode cX5_goOrStay 33 = .ok (.iconst 0, 1) := by decide +kernel
theorem dX5_goOrStay_34 : decode cX5_goOrStay 34 = .ok (.istore_n 1, 1) := by decide +kernel
theorem dX5_goOrStay_35 : decode cX5_goOrStay 35 = .ok (.iload_n 1, 1) := by decide +kernel
theorem dX5_goOrStay_36 : decode cX5_goOrStay 36 = .ok (.aload_n 0, 1) := by decide +kernel
theorem dX5_goOrStay_37 : decode cX5_goOrStay 37 = .ok (.getfield 92, 3) := by decide +kernel
theorem dX5_goOrStay_40 : decode cX5_goOrStay 40 = .ok (.if_icmp .ge 70, 3) := by decide +kernel
theorem dX5_goOrStay_43 : decode cX5_goOrStay 43 = .ok (.aload_n 0, 1) := by decide +kernel
theorem dX5_goOrStay_44 : decode cX5_goOrStay 44 = .ok (.iload_n 1, 1) := by decide +kernel
theorem dX5_goOrStay_45 : decode cX5_goOrStay 45 = .ok (.invokevirtual 151, 3) := by decide +kernel
theorem dX5_goOrStay_48 : decode cX5_goOrStay 48 = .ok (.iconst 2, 1) := by decide +kernel
theorem dX5_goOrStay_49 : decode cX5_goOrStay 49 = .ok (.if_icmp .ne 55, 3) := by decide +kernel
theorem dX5_goOrStay_52 : decode cX5_goOrStay 52 = .ok (.aload_n 0, 1) := by decide +kernel
theorem dX5_goOrStay_53 : decode cX5_goOrStay 53 = .ok (.iload_n 1, 1) := by decide +kernel
theorem dX5_goOrStay_54 : decode cX5_goOrStay 54 = .ok (.invokevirtual 154, 3) := by decide +kernel
theorem dX5_goOrStay_57 : decode cX5_goOrStay 57 = .ok (.iconst 1, 1) := by decide +kernel
theorem dX5_goOrStay_58 : decode cX5_goOrStay 58 = .ok (.iadd, 1) := by decide +kernel
theorem dX5_goOrStay_59 : decode cX5_goOrStay 59 = .ok (.istore_n 2, 1) := by decide +kernel
theorem dX5_goOrStay_60 : decode cX5_goOrStay 60 = .ok (.aload_n 0, 1) := by decide +kernel
theorem dX5_goOrStay_61 : decode cX5_goOrStay 61 = .ok (.getfield 42, 3) := by decide +kernel
theorem dX5_goOrStay_64 : decode cX5_goOrStay 64 = .ok (.iload_n 2, 1) := by decide +kernel
theorem dX5_goOrStay_65 : decode cX5_goOrStay 65 = .ok (.iaload, 1) := by decide +kernel
theorem dX5_goOrStay_66 : decode cX5_goOrStay 66 = .ok (.iload_n 1, 1) := by decide +kernel
theorem dX5_goOrStay_67 : decode cX5_goOrStay 67 = .ok (.if_icmp .eq 9, 3) := by decide +kernel
theorem dX5_goOrStay_70 : decode cX5_goOrStay 70 = .ok (.iinc 2 1, 3) := by decide +kernel
theorem dX5_goOrStay_73 : decode cX5_goOrStay 73 = .ok (.goto (-13), 3) := by decide +kernel
theorem dX5_goOrStay_76 : decode cX5_goOrStay 76 = .ok (.aload_n 0, 1) := by decide +kernel
theorem dX5_goOrStay_77 : decode cX5_goOrStay 77 = .ok (.getfield 54, 3) := by decide +kernel
theorem dX5_goOrStay_80 : decode cX5_goOrStay 80 = .ok (.iload_n 2, 1) := by decide +kernel
theorem dX5_goOrStay_81 : decode cX5_goOrStay 81 = .ok (.baload, 1) := by decide +kernel
theorem dX5_goOrStay_82 : decode cX5_goOrStay 82 = .ok (.ifCond .eq 22, 3) := by decide +kernel
theorem dX5_goOrStay_85 : decode cX5_goOrStay 85 = .ok (.aload_n 0, 1) := by decide +kernel
theorem dX5_goOrStay_86 : decode cX5_goOrStay 86 = .ok (.aload_n 0, 1) := by decide +kernel
theorem dX5_goOrStay_87 : decode cX5_goOrStay 87 = .ok (.iload_n 1, 1) := by decide +kernel
theorem dX5_goOrStay_88 : decode cX5_goOrStay 88 = .ok (.invokevirtual 154, 3) := by decide +kernel
theorem dX5_goOrStay_91 : decode cX5_goOrStay 91 = .ok (.invokevirtual 112, 3) := by decide +kernel
theorem dX5_goOrStay_94 : decode cX5_goOrStay 94 = .ok (.aload_n 0, 1) := by decide +kernel
theorem dX5_goOrStay_95 : decode cX5_goOrStay 95 = .ok (.dup, 1) := by decide +kernel
theorem dX5_goOrStay_96 : decode cX5_goOrStay 96 = .ok (.getfield 169, 3) := by decide +kernel
theorem dX5_goOrStay_99 : decode cX5_goOrStay 99 = .ok (.iconst 1, 1) := by decide +kernel
theorem dX5_goOrStay_100 : decode cX5_goOrStay 100 = .ok (.iadd, 1) := by decide +kernel
theorem dX5_goOrStay_101 : decode cX5_goOrStay 101 = .ok (.putfield 169, 3) := by decide +kernel
theorem dX5_goOrStay_104 : decode cX5_goOrStay 104 = .ok (.iinc 1 1, 3) := by decide +kernel
theorem dX5_goOrStay_107 : decode cX5_goOrStay 107 = .ok (.goto (-72), 3) := by decide +kernel
theorem dX5_goOrStay_110 : decode cX5_goOrStay 110 = .ok (.iconst 0, 1) := by decide +kernel
theorem dX5_goOrStay_111 : decode cX5_goOrStay 111 = .ok (.istore_n 1, 1) := by decide +kernel
theorem dX5_goOrStay_112 : decode cX5_goOrStay 112 = .ok (.iload_n 1, 1) := by decide +kernel
theorem dX5_goOrStay_113 : decode cX5_goOrStay 113 = .ok (.aload_n 0, 1) := by decide +kernel
theorem dX5_goOrStay_114 : decode cX5_goOrStay 114 = .ok (.getfield 92, 3) := by decide +kernel
theorem dX5_goOrStay_117 : decode cX5_goOrStay 117 = .ok (.if_icmp .ge 51, 3) := by decide +kernel
theorem dX5_goOrStay_120 : decode cX5_goOrStay 120 = .ok (.aload_n 0, 1) := by decide +kernel
theorem dX5_goOrStay_121 : decode cX5_goOrStay 121 = .ok (.getfield 27, 3) := by decide +kernel
theorem dX5_goOrStay_124 : decode cX5_goOrStay 124 = .ok (.iload_n 1, 1) := by decide +kernel
theorem dX5_goOrStay_125 : decode cX5_goOrStay 125 = .ok (.iaload, 1) := by decide +kernel
theorem dX5_goOrStay_126 : decode cX5_goOrStay 126 = .ok (.ifCond .eq 36, 3) := by decide +kernel
theorem dX5_goOrStay_129 : decode cX5_goOrStay 129 = .ok (.aload_n 0, 1) := by decide +kernel
theorem dX5_goOrStay_130 : decode cX5_goOrStay 130 = .ok (.getfield 27, 3) := by decide +kernel
theorem dX5_goOrStay_133 : decode cX5_goOrStay 133 = .ok (.iload_n 1, 1) := by decide +kernel
theorem dX5_goOrStay_134 : decode cX5_goOrStay 134 = .ok (.iaload, 1) := by decide +kernel
theorem dX5_goOrStay_135 : decode cX5_goOrStay 135 = .ok (.iconst 1, 1) := by decide +kernel
theorem dX5_goOrStay_136 : decode cX5_goOrStay 136 = .ok (.if_icmp .eq 26, 3) := by decide +kernel
theorem dX5_goOrStay_139 : decode cX5_goOrStay 139 = .ok (.aload_n 0, 1) := by decide +kernel
theorem dX5_goOrStay_140 : decode cX5_goOrStay 140 = .ok (.getfield 27, 3) := by decide +kernel
theorem dX5_goOrStay_143 : decode cX5_goOrStay 143 = .ok (.iload_n 1, 1) := by decide +kernel
theorem dX5_goOrStay_144 : decode cX5_goOrStay 144 = .ok (.iaload, 1) := by decide +kernel
theorem dX5_goOrStay_145 : decode cX5_goOrStay 145 = .ok (.iconst 4, 1) := by decide +kernel
theorem dX5_goOrStay_146 : decode cX5_goOrStay 146 = .ok (.if_icmp .eq 16, 3) := by decide +kernel
theorem dX5_goOrStay_149 : decode cX5_goOrStay 149 = .ok (.aload_n 0, 1) := by decide +kernel
theorem dX5_goOrStay_150 : decode cX5_goOrStay 150 = .ok (.iload_n 1, 1) := by decide +kernel
theorem dX5_goOrStay_151 : decode cX5_goOrStay 151 = .ok (.invokevirtual 151, 3) := by decide +kernel
theorem dX5_goOrStay_154 : decode cX5_goOrStay 154 = .ok (.ifCond .ne 8, 3) := by decide +kernel
theorem dX5_goOrStay_157 : decode cX5_goOrStay 157 = .ok (.aload_n 0, 1) := by decide +kernel
theorem dX5_goOrStay_158 : decode cX5_goOrStay 158 = .ok (.iload_n 1, 1) := by decide +kernel
theorem dX5_goOrStay_159 : decode cX5_goOrStay 159 = .ok (.invokevirtual 125, 3) := by decide +kernel
theorem dX5_goOrStay_162 : decode cX5_goOrStay 162 = .ok (.iinc 1 1, 3) := by decide +kernel
theorem dX5_goOrStay_165 : decode cX5_goOrStay 165 = .ok (.goto (-53), 3) := by decide +kernel
theorem dX5_goOrStay_168 : decode cX5_goOrStay 168 = .ok (.return_, 1) := by decide +kernel
theorem dX5_isGood_0 : decode cX5_isGood 0 = .ok (.iconst 0, 1) := by decide +kernel
theorem dX5_isGood_1 : decode cX5_isGood 1 = .ok (.istore_n 2, 1) := by decide +kernel
theorem dX5_isGood_2 : decode cX5_isGood 2 = .ok (.iconst 0, 1) := by decide +kernel
theorem dX5_isGood_3 : decode cX5_isGood 3 = .ok (.istore_n 3, 1) := by decide +kernel
theorem dX5_isGood_4 : decode cX5_isGood 4 = .ok (.iload_n 3, 1) := by decide +kernel
theorem dX5_isGood_5 : decode cX5_isGood 5 = .ok (.aload_n 0, 1) := by decide +kernel
theorem dX5_isGood_6 : decode cX5_isGood 6 = .ok (.getfield 109, 3) := by decide +kernel
theorem dX5_isGood_9 : decode cX5_isGood 9 = .ok (.if_icmp .ge 38, 3) := by decide +kernel
theorem dX5_isGood_12 : decode cX5_isGood 12 = .ok (.iload_n 2, 1) := by decide +kernel
theorem dX5_isGood_13 : decode cX5_isGood 13 = .ok (.ifCond .ne 22, 3) := by decide +kernel
theorem dX5_isGood_16 : decode cX5_isGood 16 = .ok (.aload_n 0, 1) := by decide +kernel
theorem dX5_isGood_17 : decode cX5_isGood 17 = .ok (.getfield 42, 3) := by decide +kernel
theorem dX5_isGood_20 : decode cX5_isGood 20 = .ok (.iload_n 3, 1) := by decide +kernel
theorem dX5_isGood_21 : decode cX5_isGood 21 = .ok (.iaload, 1) := by decide +kernel
theorem dX5_isGood_22 : decode cX5_isGood 22 = .ok (.iload_n 1, 1) := by decide +kernel
theorem dX5_isGood_23 : decode cX5_isGood 23 = .ok (.if_icmp .ne 16, 3) := by decide +kernel
theorem dX5_isGood_26 : decode cX5_isGood 26 = .ok (.aload_n 0, 1) := by decide +kernel
theorem dX5_isGood_27 : decode cX5_isGood 27 = .ok (.getfield 54, 3) := by decide +kernel
theorem dX5_isGood_30 : decode cX5_isGood 30 = .ok (.iload_n 3, 1) := by decide +kernel
theorem dX5_isGood_31 : decode cX5_isGood 31 = .ok (.baload, 1) := by decide +kernel
theorem dX5_isGood_32 : decode cX5_isGood 32 = .ok (.ifCond .eq 7, 3) := by decide +kernel
theorem dX5_isGood_35 : decode cX5_isGood 35 = .ok (.iconst 1, 1) := by decide +kernel
theorem dX5_isGood_36 : decode cX5_isGood 36 = .ok (.goto 4, 3) := by decide +kernel
theorem dX5_isGood_39 : decode cX5_isGood 39 = .ok (.iconst 0, 1) := by decide +kernel
theorem dX5_isGood_40 : decode cX5_isGood 40 = .ok (.istore_n 2, 1) := by decide +kernel
theorem dX5_isGood_41 : decode cX5_isGood 41 = .ok (.iinc 3 1, 3) := by decide +kernel
theorem dX5_isGood_44 : decode cX5_isGood 44 = .ok (.goto (-40), 3) := by decide +kernel
theorem dX5_isGood_47 : decode cX5_isGood 47 = .ok (.iload_n 2, 1) := by decide +kernel
theorem dX5_isGood_48 : decode cX5_isGood 48 = .ok (.ireturn, 1) := by decide +kernel
theorem dX5_callOf_0 : decode cX5_callOf 0 = .ok (.aload_n 0, 1) := by decide +kernel
theorem dX5_callOf_1 : decode cX5_callOf 1 = .ok (.iload_n 1, 1) := by decide +kernel
theorem dX5_callOf_2 : decode cX5_callOf 2 = .ok (.invokevirtual 172, 3) := by decide +kernel
theorem dX5_callOf_5 : decode cX5_callOf 5 = .ok (.ifCond .ne 4, 3) := by decide +kernel
theorem dX5_callOf_8 : decode cX5_callOf 8 = .ok (.return_, 1) := by decide +kernel
theorem dX5_callOf_9 : decode cX5_callOf 9 = .ok (.aload_n 0, 1) := by decide +kernel
theorem dX5_callOf_10 : decode cX5_callOf 10 = .ok (.getfield 27, 3) := by decide +kernel
theorem dX5_callOf_13 : decode cX5_callOf 13 = .ok (.iload_n 1, 1) := by decide +kernel
theorem dX5_callOf_14 : decode cX5_callOf 14 = .ok (.iaload, 1) := by decide +kernel
theorem dX5_callOf_15 : decode cX5_callOf 15 = .ok (.istore_n 2, 1) := by decide +kernel
theorem dX5_callOf_16 : decode cX5_callOf 16 = .ok (.iload_n 2, 1) := by decide +kernel
theorem dX5_callOf_17 : decode cX5_callOf 17 = .ok (.iconst 1, 1) := by decide +kernel
theorem dX5_callOf_18 : decode cX5_callOf 18 = .ok (.if_icmp .eq 8, 3) := by decide +kernel
theorem dX5_callOf_21 : decode cX5_callOf 21 = .ok (.iload_n 2, 1) := by decide +kernel
theorem dX5_callOf_22 : decode cX5_callOf 22 = .ok (.iconst 4, 1) := by decide +kernel
theorem dX5_callOf_23 : decode cX5_callOf 23 = .ok (.if_icmp .ne 13, 3) := by decide +kernel
theorem dX5_callOf_26 : decode cX5_callOf 26 = .ok (.aload_n 0, 1) := by decide +kernel
theorem dX5_callOf_27 : decode cX5_callOf 27 = .ok (.getfield 27, 3) := by decide +kernel
theorem dX5_callOf_30 : decode cX5_callOf 30 = .ok (.iload_n 1, 1) := by decide +kernel
theorem dX5_callOf_31 : decode cX5_callOf 31 = .ok (.iload_n 2, 1) := by decide +kernel
theorem dX5_callOf_32 : decode cX5_callOf 32 = .ok (.iconst 1, 1) := by decide +kernel
theorem dX5_callOf_33 : decode cX5_callOf 33 = .ok (.iadd, 1) := by decide +kernel
theorem dX5_callOf_34 : decode cX5_callOf 34 = .ok (.iastore, 1) := by decide +kernel
theorem dX5_callOf_35 : decode cX5_callOf 35 = .ok (.return_, 1) := by decide +kernel
theorem dX5_callOf_36 : decode cX5_callOf 36 = .ok (.iload_n 2, 1) := by decide +kernel
theorem dX5_callOf_37 : decode cX5_callOf 37 = .ok (.iconst 2, 1) := by decide +kernel
theorem dX5_callOf_38 : decode cX5_callOf 38 = .ok (.if_icmp .eq 8, 3) := by decide +kernel
theorem dX5_callOf_41 : decode cX5_callOf 41 = .ok (.iload_n 2, 1) := by decide +kernel
theorem dX5_callOf_42 : decode cX5_callOf 42 = .ok (.iconst 5, 1) := by decide +kernel
theorem dX5_callOf_43 : decode cX5_callOf 43 = .ok (.if_icmp .ne 13, 3) := by decide +kernel
theorem dX5_callOf_46 : decode cX5_callOf 46 = .ok (.aload_n 0, 1) := by decide +kernel
theorem dX5_callOf_47 : decode cX5_callOf 47 = .ok (.getfield 78, 3) := by decide +kernel
theorem dX5_callOf_50 : decode cX5_callOf 50 = .ok (.iload_n 1, 1) := by decide +kernel
theorem dX5_callOf_51 : decode cX5_callOf 51 = .ok (.iaload, 1) := by decide +kernel
theorem dX5_callOf_52 : decode cX5_callOf 52 = .ok (.iload_n 2, 1) := by decide +kernel
theorem dX5_callOf_53 : decode cX5_callOf 53 = .ok (.if_icmp .eq 4, 3) := by decide +kernel
theorem dX5_callOf_56 : decode cX5_callOf 56 = .ok (.return_, 1) := by decide +kernel
theorem dX5_callOf_57 : decode cX5_callOf 57 = .ok (.aload_n 0, 1) := by decide +kernel
theorem dX5_callOf_58 : decode cX5_callOf 58 = .ok (.aload_n 0, 1) := by decide +kernel
theorem dX5_callOf_59 : decode cX5_callOf 59 = .ok (.getfield 16, 3) := by decide +kernel
theorem dX5_callOf_62 : decode cX5_callOf 62 = .ok (.iload_n 1, 1) := by decide +kernel
theorem dX5_callOf_63 : decode cX5_callOf 63 = .ok (.laload, 1) := by decide +kernel
theorem dX5_callOf_64 : decode cX5_callOf 64 = .ok (.aload_n 0, 1) := by decide +kernel
theorem dX5_callOf_65 : decode cX5_callOf 65 = .ok (.getfield 103, 3) := by decide +kernel
theorem dX5_callOf_68 : decode cX5_callOf 68 = .ok (.i2l, 1) := by decide +kernel
theorem dX5_callOf_69 : decode cX5_callOf 69 = .ok (.invokevirtual 175, 3) := by decide +kernel
theorem dX5_callOf_72 : decode cX5_callOf 72 = .ok (.aload_n 0, 1) := by decide +kernel
theorem dX5_callOf_73 : decode cX5_callOf 73 = .ok (.aload_n 0, 1) := by decide +kernel
theorem dX5_callOf_74 : decode cX5_callOf 74 = .ok (.getfield 24, 3) := by decide +kernel
theorem dX5_callOf_77 : decode cX5_callOf 77 = .ok (.iload_n 1, 1) := by decide +kernel
theorem dX5_callOf_78 : decode cX5_callOf 78 = .ok (.laload, 1) := by decide +kernel
theorem dX5_callOf_79 : decode cX5_callOf 79 = .ok (.aload_n 0, 1) := by decide +kernel
theorem dX5_callOf_80 : decode cX5_callOf 80 = .ok (.getfield 103, 3) := by decide +kernel
theorem dX5_callOf_83 : decode cX5_callOf 83 = .ok (.i2l, 1) := by decide +kernel
theorem dX5_callOf_84 : decode cX5_callOf 84 = .ok (.invokevirtual 175, 3) := by decide +kernel
theorem dX5_callOf_87 : decode cX5_callOf 87 = .ok (.lcmp, 1) := by decide +kernel
theorem dX5_callOf_88 : decode cX5_callOf 88 = .ok (.ifCond .eq 11, 3) := by decide +kernel
theorem dX5_callOf_91 : decode cX5_callOf 91 = .ok (.aload_n 0, 1) := by decide +kernel
theorem dX5_callOf_92 : decode cX5_callOf 92 = .ok (.iload_n 1, 1) := by decide +kernel
theorem dX5_callOf_93 : decode cX5_callOf 93 = .ok (.invokevirtual 125, 3) := by decide +kernel
theorem dX5_callOf_96 : decode cX5_callOf 96 = .ok (.goto 83, 3) := by decide +kernel
theorem dX5_callOf_99 : decode cX5_callOf 99 = .ok (.iload_n 2, 1) := by decide +kernel
theorem dX5_callOf_100 : decode cX5_callOf 100 = .ok (.iconst 5, 1) := by decide +kernel
theorem dX5_callOf_101 : decode cX5_callOf 101 = .ok (.if_icmp .ne 14, 3) := by decide +kernel
theorem dX5_callOf_104 : decode cX5_callOf 104 = .ok (.aload_n 0, 1) := by decide +kernel
theorem dX5_callOf_105 : decode cX5_callOf 105 = .ok (.getfield 27, 3) := by decide +kernel
theorem dX5_callOf_108 : decode cX5_callOf 108 = .ok (.iload_n 1, 1) := by decide +kernel
theorem dX5_callOf_109 : decode cX5_callOf 109 = .ok (.bipush 6, 2) := by decide +kernel
theorem dX5_callOf_111 : decode cX5_callOf 111 = .ok (.iastore, 1) := by decide +kernel
theorem dX5_callOf_112 : decode cX5_callOf 112 = .ok (.goto 67, 3) := by decide +kernel
theorem dX5_callOf_115 : decode cX5_callOf 115 = .ok (.aload_n 0, 1) := by decide +kernel
theorem dX5_callOf_116 : decode cX5_callOf 116 = .ok (.getfield 30, 3) := by decide +kernel
theorem dX5_callOf_119 : decode cX5_callOf 119 = .ok (.iload_n 1, 1) := by decide +kernel
theorem dX5_callOf_120 : decode cX5_callOf 120 = .ok (.iaload, 1) := by decide +kernel
theorem dX5_callOf_121 : decode cX5_callOf 121 = .ok (.istore_n 3, 1) := by decide +kernel
theorem dX5_callOf_122 : decode cX5_callOf 122 = .ok (.aload_n 0, 1) := by decide +kernel
theorem dX5_callOf_123 : decode cX5_callOf 123 = .ok (.getfield 27, 3) := by decide +kernel
theorem dX5_callOf_126 : decode cX5_callOf 126 = .ok (.iload_n 1, 1) := by decide +kernel
theorem dX5_callOf_127 : decode cX5_callOf 127 = .ok (.iconst 3, 1) := by decide +kernel
theorem dX5_callOf_128 : decode cX5_callOf 128 = .ok (.iastore, 1) := by decide +kernel
theorem dX5_callOf_129 : decode cX5_callOf 129 = .ok (.aload_n 0, 1) := by decide +kernel
theorem dX5_callOf_130 : decode cX5_callOf 130 = .ok (.getfield 27, 3) := by decide +kernel
theorem dX5_callOf_133 : decode cX5_callOf 133 = .ok (.iload_n 3, 1) := by decide +kernel
theorem dX5_callOf_134 : decode cX5_callOf 134 = .ok (.iaload, 1) := by decide +kernel
theorem dX5_callOf_135 : decode cX5_callOf 135 = .ok (.ifCond .ne 39, 3) := by decide +kernel
theorem dX5_callOf_138 : decode cX5_callOf 138 = .ok (.aload_n 0, 1) := by decide +kernel
theorem dX5_callOf_139 : decode cX5_callOf 139 = .ok (.getfield 20, 3) := by decide +kernel
theorem dX5_callOf_142 : decode cX5_callOf 142 = .ok (.iload_n 3, 1) := by decide +kernel
theorem dX5_callOf_143 : decode cX5_callOf 143 = .ok (.baload, 1) := by decide +kernel
theorem dX5_callOf_144 : decode cX5_callOf 144 = .ok (.ifCond .eq 30, 3) := by decide +kernel
theorem dX5_callOf_147 : decode cX5_callOf 147 = .ok (.aload_n 0, 1) := by decide +kernel
theorem dX5_callOf_148 : decode cX5_callOf 148 = .ok (.getfield 27, 3) := by decide +kernel
theorem dX5_callOf_151 : decode cX5_callOf 151 = .ok (.iload_n 3, 1) := by decide +kernel
theorem dX5_callOf_152 : decode cX5_callOf 152 = .ok (.iconst 4, 1) := by decide +kernel
theorem dX5_callOf_153 : decode cX5_callOf 153 = .ok (.iastore, 1) := by decide +kernel
theorem dX5_callOf_154 : decode cX5_callOf 154 = .ok (.aload_n 0, 1) := by decide +kernel
theorem dX5_callOf_155 : decode cX5_callOf 155 = .ok (.getfield 30, 3) := by decide +kernel
theorem dX5_callOf_158 : decode cX5_callOf 158 = .ok (.iload_n 3, 1) := by decide +kernel
theorem dX5_callOf_159 : decode cX5_callOf 159 = .ok (.iload_n 1, 1) := by decide +kernel
theorem dX5_callOf_160 : decode cX5_callOf 160 = .ok (.iastore, 1) := by decide +kernel
theorem dX5_callOf_161 : decode cX5_callOf 161 = .ok (.aload_n 0, 1) := by decide +kernel
theorem dX5_callOf_162 : decode cX5_callOf 162 = .ok (.getfield 33, 3) := by decide +kernel
theorem dX5_callOf_165 : decode cX5_callOf 165 = .ok (.iload_n 3, 1) := by decide +kernel
theorem dX5_callOf_166 : decode cX5_callOf 166 = .ok (.aload_n 0, 1) := by decide +kernel
theorem dX5_callOf_167 : decode cX5_callOf 167 = .ok (.getfield 103, 3) := by decide +kernel
theorem dX5_callOf_170 : decode cX5_callOf 170 = .ok (.iastore, 1) := by decide +kernel
theorem dX5_callOf_171 : decode cX5_callOf 171 = .ok (.goto 8, 3) := by decide +kernel
theorem dX5_callOf_174 : decode cX5_callOf 174 = .ok (.aload_n 0, 1) := by decide +kernel
theorem dX5_callOf_175 : decode cX5_callOf 175 = .ok (.iload_n 1, 1) := by decide +kernel
theorem dX5_callOf_176 : decode cX5_callOf 176 = .ok (.invokevirtual 125, 3) := by decide +kernel
theorem dX5_callOf_179 : decode cX5_callOf 179 = .ok (.return_, 1) := by decide +kernel
