theorem dX5_isCell_0 : decode cX5_isCell 0 = .ok (.iload_n 1, 1) := by decide +kernel
theorem dX5_isCell_1 : decode cX5_isCell 1 = .ok (.iconst 0, 1) := by decide +kernel
theorem dX5_isCell_2 : decode cX5_isCell 2 = .ok (.aload_n 0, 1) := by decide +kernel
theorem dX5_isCell_3 : decode cX5_isCell 3 = .ok (.getfield 84, 3) := by decide +kernel
theorem dX5_isCell_6 : decode cX5_isCell 6 = .ok (.iconst 1, 1) := by decide +kernel
theorem dX5_isCell_7 : decode cX5_isCell 7 = .ok (.isub, 1) := by decide +kernel
theorem dX5_isCell_8 : decode cX5_isCell 8 = .ok (.invokestatic 88, 3) := by decide +kernel
theorem dX5_isCell_11 : decode cX5_isCell 11 = .ok (.ireturn, 1) := by decide +kernel
theorem dX5_isPortable_0 : decode cX5_isPortable 0 = .ok (.iload_n 1, 1) := by decide +kernel
theorem dX5_isPortable_1 : decode cX5_isPortable 1 = .ok (.iconst 0, 1) := by decide +kernel
theorem dX5_isPortable_2 : decode cX5_isPortable 2 = .ok (.aload_n 0, 1) := by decide +kernel
theorem dX5_isPortable_3 : decode cX5_isPortable 3 = .ok (.getfield 92, 3) := by decide +kernel
theorem dX5_isPortable_6 : decode cX5_isPortable 6 = .ok (.iconst 1, 1) := by decide +kernel
theorem dX5_isPortable_7 : decode cX5_isPortable 7 = .ok (.isub, 1) := by decide +kernel
theorem dX5_isPortable_8 : decode cX5_isPortable 8 = .ok (.invokestatic 88, 3) := by decide +kernel
theorem dX5_isPortable_11 : decode cX5_isPortable 11 = .ok (.ireturn, 1) := by decide +kernel
theorem dX5_cell_0 : decode cX5_cell 0 = .ok (.iload_n 1, 1) := by decide +kernel
theorem dX5_cell_1 : decode cX5_cell 1 = .ok (.iconst 0, 1) := by decide +kernel
theorem dX5_cell_2 : decode cX5_cell 2 = .ok (.bipush 119, 2) := by decide +kernel
theorem dX5_cell_4 : decode cX5_cell 4 = .ok (.invokestatic 88, 3) := by decide +kernel
theorem dX5_cell_7 : decode cX5_cell 7 = .ok (.ifCond .ne 9, 3) := by decide +kernel
theorem dX5_cell_10 : decode cX5_cell 10 = .ok (.aload_n 0, 1) := by decide +kernel
theorem dX5_cell_11 : decode cX5_cell 11 = .ok (.iconst (-1), 1) := by decide +kernel
theorem dX5_cell_12 : decode cX5_cell 12 = .ok (.invokevirtual 95, 3) := by decide +kernel
theorem dX5_cell_15 : decode cX5_cell 15 = .ok (.ireturn, 1) := by decide +kernel
theorem dX5_cell_16 : decode cX5_cell 16 = .ok (.aload_n 0, 1) := by decide +kernel
theorem dX5_cell_17 : decode cX5_cell 17 = .ok (.getfield 84, 3) := by decide +kernel
theorem dX5_cell_20 : decode cX5_cell 20 = .ok (.iconst 4, 1) := by decide +kernel
theorem dX5_cell_21 : decode cX5_cell 21 = .ok (.if_icmp .ne 10, 3) := by decide +kernel
theorem dX5_cell_24 : decode cX5_cell 24 = .ok (.aload_n 0, 1) := by decide +kernel
theorem dX5_cell_25 : decode cX5_cell 25 = .ok (.bipush (-6), 2) := by decide +kernel
theorem dX5_cell_27 : decode cX5_cell 27 = .ok (.invokevirtual 95, 3) := by decide +kernel
theorem dX5_cell_30 : decode cX5_cell 30 = .ok (.ireturn, 1) := by decide +kernel
theorem dX5_cell_31 : decode cX5_cell 31 = .ok (.aload_n 0, 1) := by decide +kernel
theorem dX5_cell_32 : decode cX5_cell 32 = .ok (.getfield 7, 3) := by decide +kernel
theorem dX5_cell_35 : decode cX5_cell 35 = .ok (.aload_n 0, 1) := by decide +kernel
theorem dX5_cell_36 : decode cX5_cell 36 = .ok (.getfield 84, 3) := by decide +kernel
theorem dX5_cell_39 : decode cX5_cell 39 = .ok (.iload_n 1, 1) := by decide +kernel
theorem dX5_cell_40 : decode cX5_cell 40 = .ok (.iastore, 1) := by decide +kernel
theorem dX5_cell_41 : decode cX5_cell 41 = .ok (.aload_n 0, 1) := by decide +kernel
theorem dX5_cell_42 : decode cX5_cell 42 = .ok (.dup, 1) := by decide +kernel
theorem dX5_cell_43 : decode cX5_cell 43 = .ok (.getfield 84, 3) := by decide +kernel
theorem dX5_cell_46 : decode cX5_cell 46 = .ok (.iconst 1, 1) := by decide +kernel
theorem dX5_cell_47 : decode cX5_cell 47 = .ok (.iadd, 1) := by decide +kernel
theorem dX5_cell_48 : decode cX5_cell 48 = .ok (.putfield 84, 3) := by decide +kernel
theorem dX5_cell_51 : decode cX5_cell 51 = .ok (.aload_n 0, 1) := by decide +kernel
theorem dX5_cell_52 : decode cX5_cell 52 = .ok (.getfield 84, 3) := by decide +kernel
theorem dX5_cell_55 : decode cX5_cell 55 = .ok (.iconst 1, 1) := by decide +kernel
theorem dX5_cell_56 : decode cX5_cell 56 = .ok (.isub, 1) := by decide +kernel
theorem dX5_cell_57 : decode cX5_cell 57 = .ok (.ireturn, 1) := by decide +kernel
theorem dX5_portable_0 : decode cX5_portable 0 = .ok (.iload_n 1, 1) := by decide +kernel
theorem dX5_portable_1 : decode cX5_portable 1 = .ok (.iconst 0, 1) := by decide +kernel
theorem dX5_portable_2 : decode cX5_portable 2 = .ok (.bipush 15, 2) := by decide +kernel
theorem dX5_portable_4 : decode cX5_portable 4 = .ok (.invokestatic 88, 3) := by decide +kernel
theorem dX5_portable_7 : decode cX5_portable 7 = .ok (.ifCond .ne 9, 3) := by decide +kernel
theorem dX5_portable_10 : decode cX5_portable 10 = .ok (.aload_n 0, 1) := by decide +kernel
theorem dX5_portable_11 : decode cX5_portable 11 = .ok (.iconst (-1), 1) := by decide +kernel
theorem dX5_portable_12 : decode cX5_portable 12 = .ok (.invokevirtual 95, 3) := by decide +kernel
theorem dX5_portable_15 : decode cX5_portable 15 = .ok (.ireturn, 1) := by decide +kernel
theorem dX5_portable_16 : decode cX5_portable 16 = .ok (.aload_n 0, 1) := by decide +kernel
theorem dX5_portable_17 : decode cX5_portable 17 = .ok (.getfield 92, 3) := by decide +kernel
theorem dX5_portable_20 : decode cX5_portable 20 = .ok (.bipush 8, 2) := by decide +kernel
theorem dX5_portable_22 : decode cX5_portable 22 = .ok (.if_icmp .ne 10, 3) := by decide +kernel
theorem dX5_portable_25 : decode cX5_portable 25 = .ok (.aload_n 0, 1) := by decide +kernel
theorem dX5_portable_26 : decode cX5_portable 26 = .ok (.bipush (-6), 2) := by decide +kernel
theorem dX5_portable_28 : decode cX5_portable 28 = .ok (.invokevirtual 95, 3) := by decide +kernel
theorem dX5_portable_31 : decode cX5_portable 31 = .ok (.ireturn, 1) := by decide +kernel
theorem dX5_portable_32 : decode cX5_portable 32 = .ok (.aload_n 0, 1) := by decide +kernel
theorem dX5_portable_33 : decode cX5_portable 33 = .ok (.getfield 13, 3) := by decide +kernel
theorem dX5_portable_36 : decode cX5_portable 36 = .ok (.aload_n 0, 1) := by decide +kernel
theorem dX5_portable_37 : decode cX5_portable 37 = .ok (.getfield 92, 3) := by decide +kernel
theorem dX5_portable_40 : decode cX5_portable 40 = .ok (.iload_n 1, 1) := by decide +kernel
theorem dX5_portable_41 : decode cX5_portable 41 = .ok (.iastore, 1) := by decide +kernel
theorem dX5_portable_42 : decode cX5_portable 42 = .ok (.aload_n 0, 1) := by decide +kernel
theorem dX5_portable_43 : decode cX5_portable 43 = .ok (.getfield 16, 3) := by decide +kernel
theorem dX5_portable_46 : decode cX5_portable 46 = .ok (.aload_n 0, 1) := by decide +kernel
theorem dX5_portable_47 : decode cX5_portable 47 = .ok (.getfield 92, 3) := by decide +kernel
theorem dX5_portable_50 : decode cX5_portable 50 = .ok (.lload_n 2, 1) := by decide +kernel
theorem dX5_portable_51 : decode cX5_portable 51 = .ok (.lastore, 1) := by decide +kernel
theorem dX5_portable_52 : decode cX5_portable 52 = .ok (.aload_n 0, 1) := by decide +kernel
theorem dX5_portable_53 : decode cX5_portable 53 = .ok (.getfield 30, 3) := by decide +kernel
theorem dX5_portable_56 : decode cX5_portable 56 = .ok (.aload_n 0, 1) := by decide +kernel
theorem dX5_portable_57 : decode cX5_portable 57 = .ok (.getfield 92, 3) := by decide +kernel
theorem dX5_portable_60 : decode cX5_portable 60 = .ok (.bipush (-9), 2) := by decide +kernel
theorem dX5_portable_62 : decode cX5_portable 62 = .ok (.iastore, 1) := by decide +kernel
theorem dX5_portable_63 : decode cX5_portable 63 = .ok (.aload_n 0, 1) := by decide +kernel
theorem dX5_portable_64 : decode cX5_portable 64 = .ok (.dup, 1) := by decide +kernel
theorem dX5_portable_65 : decode cX5_portable 65 = .ok (.getfield 92, 3) := by decide +kernel
theorem dX5_portable_68 : decode cX5_portable 68 = .ok (.iconst 1, 1) := by decide +kernel
theorem dX5_portable_69 : decode cX5_portable 69 = .ok (.iadd, 1) := by decide +kernel
theorem dX5_portable_70 : decode cX5_portable 70 = .ok (.putfield 92, 3) := by decide +kernel
theorem dX5_portable_73 : decode cX5_portable 73 = .ok (.aload_n 0, 1) := by decide +kernel
theorem dX5_portable_74 : decode cX5_portable 74 = .ok (.getfield 92, 3) := by decide +kernel
theorem dX5_portable_77 : decode cX5_portable 77 = .ok (.iconst 1, 1) := by decide +kernel
theorem dX5_portable_78 : decode cX5_portable 78 = .ok (.isub, 1) := by decide +kernel
theorem dX5_portable_79 : decode cX5_portable 79 = .ok (.ireturn, 1) := by decide +kernel
theorem dX5_reach_0 : decode cX5_reach 0 = .ok (.iload_n 1, 1) := by decide +kernel
theorem dX5_reach_1 : decode cX5_reach 1 = .ok (.iconst 0, 1) := by decide +kernel
theorem dX5_reach_2 : decode cX5_reach 2 = .ok (.bipush 15, 2) := by decide +kernel
theorem dX5_reach_4 : decode cX5_reach 4 = .ok (.invokestatic 88, 3) := by decide +kernel
theorem dX5_reach_7 : decode cX5_reach 7 = .ok (.ifCond .ne 9, 3) := by decide +kernel
theorem dX5_reach_10 : decode cX5_reach 10 = .ok (.aload_n 0, 1) := by decide +kernel
theorem dX5_reach_11 : decode cX5_reach 11 = .ok (.iconst (-1), 1) := by decide +kernel
theorem dX5_reach_12 : decode cX5_reach 12 = .ok (.invokevirtual 95, 3) := by decide +kernel
theorem dX5_reach_15 : decode cX5_reach 15 = .ok (.ireturn, 1) := by decide +kernel
theorem dX5_reach_16 : decode cX5_reach 16 = .ok (.iload_n 2, 1) := by decide +kernel
theorem dX5_reach_17 : decode cX5_reach 17 = .ok (.ifCond .ge 10, 3) := by decide +kernel
theorem dX5_reach_20 : decode cX5_reach 20 = .ok (.aload_n 0, 1) := by decide +kernel
theorem dX5_reach_21 : decode cX5_reach 21 = .ok (.bipush (-4), 2) := by decide +kernel
theorem dX5_reach_23 : decode cX5_reach 23 = .ok (.invokevirtual 95, 3) := by decide +kernel
theorem dX5_reach_26 : decode cX5_reach 26 = .ok (.ireturn, 1) := by decide +kernel
theorem dX5_reach_27 : decode cX5_reach 27 = .ok (.iload_n 2, 1) := by decide +kernel
theorem dX5_reach_28 : decode cX5_reach 28 = .ok (.bipush 15, 2) := by decide +kernel
theorem dX5_reach_30 : decode cX5_reach 30 = .ok (.if_icmp .le 10, 3) := by decide +kernel
theorem dX5_reach_33 : decode cX5_reach 33 = .ok (.aload_n 0, 1) := by decide +kernel
theorem dX5_reach_34 : decode cX5_reach 34 = .ok (.bipush (-6), 2) := by decide +kernel
theorem dX5_reach_36 : decode cX5_reach 36 = .ok (.invokevirtual 95, 3) := by decide +kernel
theorem dX5_reach_39 : decode cX5_reach 39 = .ok (.ireturn, 1) := by decide +kernel
theorem dX5_reach_40 : decode cX5_reach 40 = .ok (.aload_n 0, 1) := by decide +kernel
theorem dX5_reach_41 : decode cX5_reach 41 = .ok (.getfield 36, 3) := by decide +kernel
theorem dX5_reach_44 : decode cX5_reach 44 = .ok (.iload_n 1, 1) := by decide +kernel
theorem dX5_reach_45 : decode cX5_reach 45 = .ok (.iaload, 1) := by decide +kernel
theorem dX5_reach_46 : decode cX5_reach 46 = .ok (.istore_n 3, 1) := by decide +kernel
theorem dX5_reach_47 : decode cX5_reach 47 = .ok (.aload_n 0, 1) := by decide +kernel
theorem dX5_reach_48 : decode cX5_reach 48 = .ok (.getfield 36, 3) := by decide +kernel
theorem dX5_reach_51 : decode cX5_reach 51 = .ok (.iload_n 1, 1) := by decide +kernel
theorem dX5_reach_52 : decode cX5_reach 52 = .ok (.iload_n 2, 1) := by decide +kernel
theorem dX5_reach_53 : decode cX5_reach 53 = .ok (.iastore, 1) := by decide +kernel
theorem dX5_reach_54 : decode cX5_reach 54 = .ok (.iload_n 3, 1) := by decide +kernel
theorem dX5_reach_55 : decode cX5_reach 55 = .ok (.ireturn, 1) := by decide +kernel
theorem dX5_noise_0 : decode cX5_noise 0 = .ok (.iload_n 1, 1) := by decide +kernel
theorem dX5_noise_1 : decode cX5_noise 1 = .ok (.iconst 0, 1) := by decide +kernel
theorem dX5_noise_2 : decode cX5_noise 2 = .ok (.bipush 15, 2) := by decide +kernel
theorem dX5_noise_4 : decode cX5_noise 4 = .ok (.aload_n 0, 1) := by decide +kernel
theorem dX5_noise_5 : decode cX5_noise 5 = .ok (.getfield 84, 3) := by decide +kernel
theorem dX5_noise_8 : decode cX5_noise 8 = .ok (.iadd, 1) := by decide +kernel
theorem dX5_noise_9 : decode cX5_noise 9 = .ok (.invokestatic 88, 3) := by decide +kernel
theorem dX5_noise_12 : decode cX5_noise 12 = .ok (.ifCond .eq 28, 3) := by decide +kernel
theorem dX5_noise_15 : decode cX5_noise 15 = .ok (.iload_n 2, 1) := by decide +kernel
theorem dX5_noise_16 : decode cX5_noise 16 = .ok (.iconst 0, 1) := by decide +kernel
theorem dX5_noise_17 : decode cX5_noise 17 = .ok (.bipush 119, 2) := by decide +kernel
theorem dX5_noise_19 : decode cX5_noise 19 = .ok (.invokestatic 88, 3) := by decide +kernel
theorem dX5_noise_22 : decode cX5_noise 22 = .ok (.ifCond .eq 18, 3) := by decide +kernel
theorem dX5_noise_25 : decode cX5_noise 25 = .ok (.aload_n 0, 1) := by decide +kernel
theorem dX5_noise_26 : decode cX5_noise 26 = .ok (.getfield 39, 3) := by decide +kernel
theorem dX5_noise_29 : decode cX5_noise 29 = .ok (.bipush 120, 2) := by decide +kernel
theorem dX5_noise_31 : decode cX5_noise 31 = .ok (.iload_n 1, 1) := by decide +kernel
theorem dX5_noise_32 : decode cX5_noise 32 = .ok (.imul, 1) := by decide +kernel
theorem dX5_noise_33 : decode cX5_noise 33 = .ok (.iload_n 2, 1) := by decide +kernel
theorem dX5_noise_34 : decode cX5_noise 34 = .ok (.iadd, 1) := by decide +kernel
theorem dX5_noise_35 : decode cX5_noise 35 = .ok (.baload, 1) := by decide +kernel
theorem dX5_noise_36 : decode cX5_noise 36 = .ok (.iload_n 3, 1) := by decide +kernel
theorem dX5_noise_37 : decode cX5_noise 37 = .ok (.if_icmp .ne 5, 3) := by decide +kernel
theorem dX5_noise_40 : decode cX5_noise 40 = .ok (.iconst 0, 1) := by decide +kernel
theorem dX5_noise_41 : decode cX5_noise 41 = .ok (.ireturn, 1) := by decide +kernel
theorem dX5_noise_42 : decode cX5_noise 42 = .ok (.aload_n 0, 1) := by decide +kernel
theorem dX5_noise_43 : decode cX5_noise 43 = .ok (.getfield 39, 3) := by decide +kernel
theorem dX5_noise_46 : decode cX5_noise 46 = .ok (.bipush 120, 2) := by decide +kernel
theorem dX5_noise_48 : decode cX5_noise 48 = .ok (.iload_n 1, 1) := by decide +kernel
theorem dX5_noise_49 : decode cX5_noise 49 = .ok (.imul, 1) := by decide +kernel
theorem dX5_noise_50 : decode cX5_noise 50 = .ok (.iload_n 2, 1) := by decide +kernel
theorem dX5_noise_51 : decode cX5_noise 51 = .ok (.iadd, 1) := by decide +kernel
theorem dX5_noise_52 : decode cX5_noise 52 = .ok (.iload_n 3, 1) := by decide +kernel
theorem dX5_noise_53 : decode cX5_noise 53 = .ok (.bastore, 1) := by decide +kernel
theorem dX5_noise_54 : decode cX5_noise 54 = .ok (.iconst 1, 1) := by decide +kernel
theorem dX5_noise_55 : decode cX5_noise 55 = .ok (.ireturn, 1) := by decide +kernel
theorem dX5_go_0 : decode cX5_go 0 = .ok (.aload_n 0, 1) := by decide +kernel
theorem dX5_go_1 : decode cX5_go 1 = .ok (.iload_n 1, 1) := by decide +kernel
theorem dX5_go_2 : decode cX5_go 2 = .ok (.invokevirtual 99, 3) := by decide +kernel
theorem dX5_go_5 : decode cX5_go 5 = .ok (.ifCond .eq 13, 3) := by decide +kernel
theorem dX5_go_8 : decode cX5_go 8 = .ok (.iload_n 2, 1) := by decide +kernel
theorem dX5_go_9 : decode cX5_go 9 = .ok (.iconst 0, 1) := by decide +kernel
theorem dX5_go_10 : decode cX5_go 10 = .ok (.bipush 15, 2) := by decide +kernel
theorem dX5_go_12 : decode cX5_go 12 = .ok (.invokestatic 88, 3) := by decide +kernel
theorem dX5_go_15 : decode cX5_go 15 = .ok (.ifCond .ne 9, 3) := by decide +kernel
theorem dX5_go_18 : decode cX5_go 18 = .ok (.aload_n 0, 1) := by decide +kernel
theorem dX5_go_19 : decode cX5_go 19 = .ok (.iconst (-1), 1) := by decide +kernel
theorem dX5_go_20 : decode cX5_go 20 = .ok (.invokevirtual 95, 3) := by decide +kernel
theorem dX5_go_23 : decode cX5_go 23 = .ok (.ireturn, 1) := by decide +kernel
theorem dX5_go_24 : decode cX5_go 24 = .ok (.aload_n 0, 1) := by decide +kernel
theorem dX5_go_25 : decode cX5_go 25 = .ok (.getfield 13, 3) := by decide +kernel
theorem dX5_go_28 : decode cX5_go 28 = .ok (.iload_n 1, 1) := by decide +kernel
theorem dX5_go_29 : decode cX5_go 29 = .ok (.iaload, 1) := by decide +kernel
theorem dX5_go_30 : decode cX5_go 30 = .ok (.istore_n 3, 1) := by decide +kernel
theorem dX5_go_31 : decode cX5_go 31 = .ok (.aload_n 0, 1) := by decide +kernel
theorem dX5_go_32 : decode cX5_go 32 = .ok (.getfield 13, 3) := by decide +kernel
theorem dX5_go_35 : decode cX5_go 35 = .ok (.iload_n 1, 1) := by decide +kernel
theorem dX5_go_36 : decode cX5_go 36 = .ok (.iload_n 2, 1) := by decide +kernel
theorem dX5_go_37 : decode cX5_go 37 = .ok (.iastore, 1) := by decide +kernel
theorem dX5_go_38 : decode cX5_go 38 = .ok (.iload_n 3, 1) := by decide +kernel
theorem dX5_go_39 : decode cX5_go 39 = .ok (.ireturn, 1) := by decide +kernel
theorem dX5_enter_0 : decode cX5_enter 0 = .ok (.aload_n 0, 1) := by decide +kernel
theorem dX5_enter_1 : decode cX5_enter 1 = .ok (.iload_n 1, 1) := by decide +kernel
theorem dX5_enter_2 : decode cX5_enter 2 = .ok (.invokevirtual 99, 3) := by decide +kernel
theorem dX5_enter_5 : decode cX5_enter 5 = .ok (.ifCond .ne 9, 3) := by decide +kernel
theorem dX5_enter_8 : decode cX5_enter 8 = .ok (.aload_n 0, 1) := by decide +kernel
theorem dX5_enter_9 : decode cX5_enter 9 = .ok (.iconst (-1), 1) := by decide +kernel
theorem dX5_enter_10 : decode cX5_enter 10 = .ok (.invokevirtual 95, 3) := by decide +kernel
theorem dX5_enter_13 : decode cX5_enter 13 = .ok (.ireturn, 1) := by decide +kernel
theorem dX5_enter_14 : decode cX5_enter 14 = .ok (.aload_n 0, 1) := by decide +kernel
theorem dX5_enter_15 : decode cX5_enter 15 = .ok (.getfield 27, 3) := by decide +kernel
theorem dX5_enter_18 : decode cX5_enter 18 = .ok (.iload_n 1, 1) := by decide +kernel
theorem dX5_enter_19 : decode cX5_enter 19 = .ok (.iaload, 1) := by decide +kernel
theorem dX5_enter_20 : decode cX5_enter 20 = .ok (.ifCond .eq 10, 3) := by decide +kernel
theorem dX5_enter_23 : decode cX5_enter 23 = .ok (.aload_n 0, 1) := by decide +kernel
theorem dX5_enter_24 : decode cX5_enter 24 = .ok (.bipush (-2), 2) := by decide +kernel
theorem dX5_enter_26 : decode cX5_enter 26 = .ok (.invokevirtual 95, 3) := by decide +kernel
theorem dX5_enter_29 : decode cX5_enter 29 = .ok (.ireturn, 1) := by decide +kernel
theorem dX5_enter_30 : decode cX5_enter 30 = .ok (.aload_n 0, 1) := by decide +kernel
theorem dX5_enter_31 : decode cX5_enter 31 = .ok (.getfield 20, 3) := by decide +kernel
theorem dX5_enter_34 : decode cX5_enter 34 = .ok (.iload_n 1, 1) := by decide +kernel
theorem dX5_enter_35 : decode cX5_enter 35 = .ok (.iconst 1, 1) := by decide +kernel
theorem dX5_enter_36 : decode cX5_enter 36 = .ok (.bastore, 1) := by decide +kernel
theorem dX5_enter_37 : decode cX5_enter 37 = .ok (.aload_n 0, 1) := by decide +kernel
theorem dX5_enter_38 : decode cX5_enter 38 = .ok (.getfield 24, 3) := by decide +kernel
theorem dX5_enter_41 : decode cX5_enter 41 = .ok (.iload_n 1, 1) := by decide +kernel
theorem dX5_enter_42 : decode cX5_enter 42 = .ok (.lload_n 2, 1) := by decide +kernel
theorem dX5_enter_43 : decode cX5_enter 43 = .ok (.lastore, 1) := by decide +kernel
theorem dX5_enter_44 : decode cX5_enter 44 = .ok (.iconst 1, 1) := by decide +kernel
theorem dX5_enter_45 : decode cX5_enter 45 = .ok (.ireturn, 1) := by decide +kernel
theorem dX5_dial_0 : decode cX5_dial 0 = .ok (.aload_n 0, 1) := by decide +kernel
theorem dX5_dial_1 : decode cX5_dial 1 = .ok (.iload_n 1, 1) := by decide +kernel
theorem dX5_dial_2 : decode cX5_dial 2 = .ok (.invokevirtual 99, 3) := by decide +kernel
theorem dX5_dial_5 : decode cX5_dial 5 = .ok (.ifCond .eq 16, 3) := by decide +kernel
theorem dX5_dial_8 : decode cX5_dial 8 = .ok (.aload_n 0, 1) := by decide +kernel
theorem dX5_dial_9 : decode cX5_dial 9 = .ok (.iload_n 2, 1) := by decide +kernel
theorem dX5_dial_10 : decode cX5_dial 10 = .ok (.invokevirtual 99, 3) := by decide +kernel
theorem dX5_dial_13 : decode cX5_dial 13 = .ok (.ifCond .eq 8, 3) := by decide +kernel
theorem dX5_dial_16 : decode cX5_dial 16 = .ok (.iload_n 1, 1) := by decide +kernel
theorem dX5_dial_17 : decode cX5_dial 17 = .ok (.iload_n 2, 1) := by decide +kernel
theorem dX5_dial_18 : decode cX5_dial 18 = .ok (.if_icmp .ne 9, 3) := by decide +kernel
theorem dX5_dial_21 : decode cX5_dial 21 = .ok (.aload_n 0, 1) := by decide +kernel
theorem dX5_dial_22 : decode cX5_dial 22 = .ok (.iconst (-1), 1) := by decide +kernel
theorem dX5_dial_23 : decode cX5_dial 23 = .ok (.invokevirtual 95, 3) := by decide +kernel
theorem dX5_dial_26 : decode cX5_dial 26 = .ok (.ireturn, 1) := by decide +kernel
theorem dX5_dial_27 : decode cX5_dial 27 = .ok (.aload_n 0, 1) := by decide +kernel
theorem dX5_dial_28 : decode cX5_dial 28 = .ok (.getfield 27, 3) := by decide +kernel
theorem dX5_dial_31 : decode cX5_dial 31 = .ok (.iload_n 1, 1) := by decide +kernel
theorem dX5_dial_32 : decode cX5_dial 32 = .ok (.iaload, 1) := by decide +kernel
theorem dX5_dial_33 : decode cX5_dial 33 = .ok (.ifCond .eq 10, 3) := by decide +kernel
theorem dX5_dial_36 : decode cX5_dial 36 = .ok (.aload_n 0, 1) := by decide +kernel
theorem dX5_dial_37 : decode cX5_dial 37 = .ok (.bipush (-2), 2) := by decide +kernel
theorem dX5_dial_39 : decode cX5_dial 39 = .ok (.invokevirtual 95, 3) := by decide +kernel
theorem dX5_dial_42 : decode cX5_dial 42 = .ok (.ireturn, 1) := by decide +kernel
theorem dX5_dial_43 : decode cX5_dial 43 = .ok (.aload_n 0, 1) := by decide +kernel
theorem dX5_dial_44 : decode cX5_dial 44 = .ok (.getfield 20, 3) := by decide +kernel
theorem dX5_dial_47 : decode cX5_dial 47 = .ok (.iload_n 1, 1) := by decide +kernel
theorem dX5_dial_48 : decode cX5_dial 48 = .ok (.baload, 1) := by decide +kernel
theorem dX5_dial_49 : decode cX5_dial 49 = .ok (.ifCond .eq 12, 3) := by decide +kernel
theorem dX5_dial_52 : decode cX5_dial 52 = .ok (.aload_n 0, 1) := by decide +kernel
theorem dX5_dial_53 : decode cX5_dial 53 = .ok (.getfield 20, 3) := by decide +kernel
theorem dX5_dial_56 : decode cX5_dial 56 = .ok (.iload_n 2, 1) := by decide +kernel
theorem dX5_dial_57 : decode cX5_dial 57 = .ok (.baload, 1) := by decide +kernel
theorem dX5_dial_58 : decode cX5_dial 58 = .ok (.ifCond .ne 10, 3) := by decide +kernel
theorem dX5_dial_61 : decode cX5_dial 61 = .ok (.aload_n 0, 1) := by decide +kernel
theorem dX5_dial_62 : decode cX5_dial 62 = .ok (.bipush (-3), 2) := by decide +kernel
theorem dX5_dial_64 : decode cX5_dial 64 = .ok (.invokevirtual 95, 3) := by decide +kernel
theorem dX5_dial_67 : decode cX5_dial 67 = .ok (.ireturn, 1) := by decide +kernel
theorem dX5_dial_68 : decode cX5_dial 68 = .ok (.aload_n 0, 1) := by decide +kernel
theorem dX5_dial_69 : decode cX5_dial 69 = .ok (.getfield 27, 3) := by decide +kernel
theorem dX5_dial_72 : decode cX5_dial 72 = .ok (.iload_n 1, 1) := by decide +kernel
theorem dX5_dial_73 : decode cX5_dial 73 = .ok (.iconst 1, 1) := by decide +kernel
theorem dX5_dial_74 : decode cX5_dial 74 = .ok (.iastore, 1) := by decide +kernel
theorem dX5_dial_75 : decode cX5_dial 75 = .ok (.aload_n 0, 1) := by decide +kernel
theorem dX5_dial_76 : decode cX5_dial 76 = .ok (.getfield 30, 3) := by decide +kernel
theorem dX5_dial_79 : decode cX5_dial 79 = .ok (.iload_n 1, 1) := by decide +kernel
theorem dX5_dial_80 : decode cX5_dial 80 = .ok (.iload_n 2, 1) := by decide +kernel
theorem dX5_dial_81 : decode cX5_dial 81 = .ok (.iastore, 1) := by decide +kernel
theorem dX5_dial_82 : decode cX5_dial 82 = .ok (.aload_n 0, 1) := by decide +kernel
theorem dX5_dial_83 : decode cX5_dial 83 = .ok (.getfield 33, 3) := by decide +kernel
theorem dX5_dial_86 : decode cX5_dial 86 = .ok (.iload_n 1, 1) := by decide +kernel
theorem dX5_dial_87 : decode cX5_dial 87 = .ok (.aload_n 0, 1) := by decide +kernel
theorem dX5_dial_88 : decode cX5_dial 88 = .ok (.getfield 103, 3) := by decide +kernel
theorem dX5_dial_91 : decode cX5_dial 91 = .ok (.iastore, 1) := by decide +kernel
theorem dX5_dial_92 : decode cX5_dial 92 = .ok (.iconst 1, 1) := by decide +kernel
theorem dX5_dial_93 : decode cX5_dial 93 = .ok (.ireturn, 1) := by decide +kernel
theorem dX5_answer_0 : decode cX5_answer 0 = .ok (.aload_n 0, 1) := by decide +kernel
theorem dX5_answer_1 : decode cX5_answer 1 = .ok (.iload_n 1, 1) := by decide +kernel
theorem dX5_answer_2 : decode cX5_answer 2 = .ok (.invokevirtual 99, 3) := by decide +kernel
theorem dX5_answer_5 : decode cX5_answer 5 = .ok (.ifCond .ne 9, 3) := by decide +kernel
theorem dX5_answer_8 : decode cX5_answer 8 = .ok (.aload_n 0, 1) := by decide +kernel
theorem dX5_answer_9 : decode cX5_answer 9 = .ok (.iconst (-1), 1) := by decide +kernel
theorem dX5_answer_10 : decode cX5_answer 10 = .ok (.invokevirtual 95, 3) := by decide +kernel
theorem dX5_answer_13 : decode cX5_answer 13 = .ok (.ireturn, 1) := by decide +kernel
theorem dX5_answer_14 : decode cX5_answer 14 = .ok (.aload_n 0, 1) := by decide +kernel
theorem dX5_answer_15 : decode cX5_answer 15 = .ok (.getfield 27, 3) := by decide +kernel
theorem dX5_answer_18 : decode cX5_answer 18 = .ok (.iload_n 1, 1) := by decide +kernel
theorem dX5_answer_19 : decode cX5_answer 19 = .ok (.iaload, 1) := by decide +kernel
theorem dX5_answer_20 : decode cX5_answer 20 = .ok (.bipush 6, 2) := by decide +kernel
theorem dX5_answer_22 : decode cX5_answer 22 = .ok (.if_icmp .eq 10, 3) := by decide +kernel
theorem dX5_answer_25 : decode cX5_answer 25 = .ok (.aload_n 0, 1) := by decide +kernel
theorem dX5_answer_26 : decode cX5_answer 26 = .ok (.bipush (-2), 2) := by decide +kernel
theorem dX5_answer_28 : decode cX5_answer 28 = .ok (.invokevirtual 95, 3) := by decide +kernel
theorem dX5_answer_31 : decode cX5_answer 31 = .ok (.ireturn, 1) := by decide +kernel
theorem dX5_answer_32 : decode cX5_answer 32 = .ok (.aload_n 0, 1) := by decide +kernel
theorem dX5_answer_33 : decode cX5_answer 33 = .ok (.getfield 27, 3) := by decide +kernel
theorem dX5_answer_36 : decode cX5_answer 36 = .ok (.iload_n 1, 1) := by decide +kernel
theorem dX5_answer_37 : decode cX5_answer 37 = .ok (.bipush 7, 2) := by decide +kernel
theorem dX5_answer_39 : decode cX5_answer 39 = .ok (.iastore, 1) := by decide +kernel
theorem dX5_answer_40 : decode cX5_answer 40 = .ok (.aload_n 0, 1) := by decide +kernel
theorem dX5_answer_41 : decode cX5_answer 41 = .ok (.getfield 27, 3) := by decide +kernel
theorem dX5_answer_44 : decode cX5_answer 44 = .ok (.aload_n 0, 1) := by decide +kernel
theorem dX5_answer_45 : decode cX5_answer 45 = .ok (.getfield 30, 3) := by decide +kernel
theorem dX5_answer_48 : decode cX5_answer 48 = .ok (.iload_n 1, 1) := by decide +kernel
theorem dX5_answer_49 : decode cX5_answer 49 = .ok (.iaload, 1) := by decide +kernel
theorem dX5_answer_50 : decode cX5_answer 50 = .ok (.bipush 7, 2) := by decide +kernel
theorem dX5_answer_52 : decode cX5_answer 52 = .ok (.iastore, 1) := by decide +kernel
theorem dX5_answer_53 : decode cX5_answer 53 = .ok (.aload_n 0, 1) := by decide +kernel
theorem dX5_answer_54 : decode cX5_answer 54 = .ok (.dup, 1) := by decide +kernel
theorem dX5_answer_55 : decode cX5_answer 55 = .ok (.getfield 106, 3) := by decide +kernel
theorem dX5_answer_58 : decode cX5_answer 58 = .ok (.iconst 1, 1) := by decide +kernel
theorem dX5_answer_59 : decode cX5_answer 59 = .ok (.iadd, 1) := by decide +kernel
theorem dX5_answer_60 : decode cX5_answer 60 = .ok (.putfield 106, 3) := by decide +kernel
theorem dX5_answer_63 : decode cX5_answer 63 = .ok (.iconst 1, 1) := by decide +kernel
theorem dX5_answer_64 : decode cX5_answer 64 = .ok (.ireturn, 1) := by decide +kernel
theorem dX5_dropBearer_0 : decode cX5_dropBearer 0 = .ok (.aload_n 0, 1) := by decide +kernel
theorem dX5_dropBearer_1 : decode cX5_dropBearer 1 = .ok (.dup, 1) := by decide +kernel
theorem dX5_dropBearer_2 : decode cX5_dropBearer 2 = .ok (.getfield 109, 3) := by decide +kernel
theorem dX5_dropBearer_5 : decode cX5_dropBearer 5 = .ok (.iconst 1, 1) := by decide +kernel
theorem dX5_dropBearer_6 : decode cX5_dropBearer 6 = .ok (.isub, 1) := by decide +kernel
theorem dX5_dropBearer_7 : decode cX5_dropBearer 7 = .ok (.putfield 109, 3) := by decide +kernel
theorem dX5_dropBearer_10 : decode cX5_dropBearer 10 = .ok (.iload_n 1, 1) := by decide +kernel
theorem dX5_dropBearer_11 : decode cX5_dropBearer 11 = .ok (.istore_n 2, 1) := by decide +kernel
theorem dX5_dropBearer_12 : decode cX5_dropBearer 12 = .ok (.iload_n 2, 1) := by decide +kernel
theorem dX5_dropBearer_13 : decode cX5_dropBearer 13 = .ok (.aload_n 0, 1) := by decide +kernel
theorem dX5_dropBearer_14 : decode cX5_dropBearer 14 = .ok (.getfield 109, 3) := by decide +kernel
theorem dX5_dropBearer_17 : decode cX5_dropBearer 17 = .ok (.if_icmp .ge 79, 3) := by decide +kernel
theorem dX5_dropBearer_20 : decode cX5_dropBearer 20 = .ok (.aload_n 0, 1) := by decide +kernel
theorem dX5_dropBearer_21 : decode cX5_dropBearer 21 = .ok (.getfield 42, 3) := by decide +kernel
theorem dX5_dropBearer_24 : decode cX5_dropBearer 24 = .ok (.iload_n 2, 1) := by decide +kernel
theorem dX5_dropBearer_25 : decode cX5_dropBearer 25 = .ok (.aload_n 0, 1) := by decide +kernel
theorem dX5_dropBearer_26 : decode cX5_dropBearer 26 = .ok (.getfield 42, 3) := by decide +kernel
theorem dX5_dropBearer_29 : decode cX5_dropBearer 29 = .ok (.iload_n 2, 1) := by decide +kernel
theorem dX5_dropBearer_30 : decode cX5_dropBearer 30 = .ok (.iconst 1, 1) := by decide +kernel
theorem dX5_dropBearer_31 : decode cX5_dropBearer 31 = .ok (.iadd, 1) := by decide +kernel
theorem dX5_dropBearer_32 : decode cX5_dropBearer 32 = .ok (.iaload, 1) := by decide +kernel
theorem dX5_dropBearer_33 : decode cX5_dropBearer 33 = .ok (.iastore, 1) := by decide +kernel
theorem dX5_dropBearer_34 : decode cX5_dropBearer 34 = .ok (.aload_n 0, 1) := by decide +kernel
theorem dX5_dropBearer_35 : decode cX5_dropBearer 35 = .ok (.getfield 45, 3) := by decide +kernel
theorem dX5_dropBearer_38 : decode cX5_dropBearer 38 = .ok (.iload_n 2, 1) := by decide +kernel
theorem dX5_dropBearer_39 : decode cX5_dropBearer 39 = .ok (.aload_n 0, 1) := by decide +kernel
theorem dX5_dropBearer_40 : decode cX5_dropBearer 40 = .ok (.getfield 45, 3) := by decide +kernel
theorem dX5_dropBearer_43 : decode cX5_dropBearer 43 = .ok (.iload_n 2, 1) := by decide +kernel
theorem dX5_dropBearer_44 : decode cX5_dropBearer 44 = .ok (.iconst 1, 1) := by decide +kernel
theorem dX5_dropBearer_45 : decode cX5_dropBearer 45 = .ok (.iadd, 1) := by decide +kernel
theorem dX5_dropBearer_46 : decode cX5_dropBearer 46 = .ok (.iaload, 1) := by decide +kernel
theorem dX5_dropBearer_47 : decode cX5_dropBearer 47 = .ok (.iastore, 1) := by decide +kernel
theorem dX5_dropBearer_48 : decode cX5_dropBearer 48 = .ok (.aload_n 0, 1) := by decide +kernel
theorem dX5_dropBearer_49 : decode cX5_dropBearer 49 = .ok (.getfield 48, 3) := by decide +kernel
theorem dX5_dropBearer_52 : decode cX5_dropBearer 52 = .ok (.iload_n 2, 1) := by decide +kernel
theorem dX5_dropBearer_53 : decode cX5_dropBearer 53 = .ok (.aload_n 0, 1) := by decide +kernel
theorem dX5_dropBearer_54 : decode cX5_dropBearer 54 = .ok (.getfield 48, 3) := by decide +kernel
theorem dX5_dropBearer_57 : decode cX5_dropBearer 57 = .ok (.iload_n 2, 1) := by decide +kernel
theorem dX5_dropBearer_58 : decode cX5_dropBearer 58 = .ok (.iconst 1, 1) := by decide +kernel
theorem dX5_dropBearer_59 : decode cX5_dropBearer 59 = .ok (.iadd, 1) := by decide +kernel
theorem dX5_dropBearer_60 : decode cX5_dropBearer 60 = .ok (.iaload, 1) := by decide +kernel
theorem dX5_dropBearer_61 : decode cX5_dropBearer 61 = .ok (.iastore, 1) := by decide +kernel
theorem dX5_dropBearer_62 : decode cX5_dropBearer 62 = .ok (.aload_n 0, 1) := by decide +kernel
theorem dX5_dropBearer_63 : decode cX5_dropBearer 63 = .ok (.getfield 51, 3) := by decide +kernel
theorem dX5_dropBearer_66 : decode cX5_dropBearer 66 = .ok (.iload_n 2, 1) := by decide +kernel
theorem dX5_dropBearer_67 : decode cX5_dropBearer 67 = .ok (.aload_n 0, 1) := by decide +kernel
theorem dX5_dropBearer_68 : decode cX5_dropBearer 68 = .ok (.getfield 51, 3) := by decide +kernel
theorem dX5_dropBearer_71 : decode cX5_dropBearer 71 = .ok (.iload_n 2, 1) := by decide +kernel
theorem dX5_dropBearer_72 : decode cX5_dropBearer 72 = .ok (.iconst 1, 1) := by decide +kernel
theorem dX5_dropBearer_73 : decode cX5_dropBearer 73 = .ok (.iadd, 1) := by decide +kernel
theorem dX5_dropBearer_74 : decode cX5_dropBearer 74 = .ok (.iaload, 1) := by decide +kernel
theorem dX5_dropBearer_75 : decode cX5_dropBearer 75 = .ok (.iastore, 1) := by decide +kernel
theorem dX5_dropBearer_76 : decode cX5_dropBearer 76 = .ok (.aload_n 0, 1) := by decide +kernel
theorem dX5_dropBearer_77 : decode cX5_dropBearer 77 = .ok (.getfield 54, 3) := by decide +kernel
theorem dX5_dropBearer_80 : decode cX5_dropBearer 80 = .ok (.iload_n 2, 1) := by decide +kernel
theorem dX5_dropBearer_81 : decode cX5_dropBearer 81 = .ok (.aload_n 0, 1) := by decide +kernel
theorem dX5_dropBearer_82 : decode cX5_dropBearer 82 = .ok (.getfield 54, 3) := by decide +kernel
theorem dX5_dropBearer_85 : decode cX5_dropBearer 85 = .ok (.iload_n 2, 1) := by decide +kernel
theorem dX5_dropBearer_86 : decode cX5_dropBearer 86 = .ok (.iconst 1, 1) := by decide +kernel
theorem dX5_dropBearer_87 : decode cX5_dropBearer 87 = .ok (.iadd, 1) := by decide +kernel
theorem dX5_dropBearer_88 : decode cX5_dropBearer 88 = .ok (.baload, 1) := by decide +kernel
theorem dX5_dropBearer_89 : decode cX5_dropBearer 89 = .ok (.bastore, 1) := by decide +kernel
theorem dX5_dropBearer_90 : decode cX5_dropBearer 90 = .ok (.iinc 2 1, 3) := by decide +kernel
theorem dX5_dropBearer_93 : decode cX5_dropBearer 93 = .ok (.goto (-81), 3) := by decide +kernel
theorem dX5_dropBearer_96 : decode cX5_dropBearer 96 = .ok (.return_, 1) := by decide +kernel
theorem dX5_idle_0 : decode cX5_idle 0 = .ok (.aload_n 0, 1) := by decide +kernel
theorem dX5_idle_1 : decode cX5_idle 1 = .ok (.getfield 27, 3) := by decide +kernel
theorem dX5_idle_4 : decode cX5_idle 4 = .ok (.iload_n 1, 1) := by decide +kernel
theorem dX5_idle_5 : decode cX5_idle 5 = .ok (.iconst 0, 1) := by decide +kernel
theorem dX5_idle_6 : decode cX5_idle 6 = .ok (.iastore, 1) := by decide +kernel
theorem dX5_idle_7 : decode cX5_idle 7 = .ok (.aload_n 0, 1) := by decide +kernel
theorem dX5_idle_8 : decode cX5_idle 8 = .ok (.getfield 30, 3) := by decide +kernel
theorem dX5_idle_11 : decode cX5_idle 11 = .ok (.iload_n 1, 1) := by decide +kernel
theorem dX5_idle_12 : decode cX5_idle 12 = .ok (.bipush (-9), 2) := by decide +kernel
theorem dX5_idle_14 : decode cX5_idle 14 = .ok (.iastore, 1) := by decide +kernel
theorem dX5_idle_15 : decode cX5_idle 15 = .ok (.aload_n 0, 1) := by decide +kernel
theorem dX5_idle_16 : decode cX5_idle 16 = .ok (.getfield 57, 3) := by decide +kernel
theorem dX5_idle_19 : decode cX5_idle 19 = .ok (.iload_n 1, 1) := by decide +kernel
theorem dX5_idle_20 : decode cX5_idle 20 = .ok (.iconst 0, 1) := by decide +kernel
theorem dX5_idle_21 : decode cX5_idle 21 = .ok (.iastore, 1) := by decide +kernel
theorem dX5_idle_22 : decode cX5_idle 22 = .ok (.aload_n 0, 1) := by decide +kernel
theorem dX5_idle_23 : decode cX5_idle 23 = .ok (.getfield 63, 3) := by decide +kernel
theorem dX5_idle_26 : decode cX5_idle 26 = .ok (.iload_n 1, 1) := by decide +kernel
theorem dX5_idle_27 : decode cX5_idle 27 = .ok (.iconst 0, 1) := by decide +kernel
theorem dX5_idle_28 : decode cX5_idle 28 = .ok (.iastore, 1) := by decide +kernel
theorem dX5_idle_29 : decode cX5_idle 29 = .ok (.aload_n 0, 1) := by decide +kernel
theorem dX5_idle_30 : decode cX5_idle 30 = .ok (.getfield 109, 3) := by decide +kernel
theorem dX5_idle_33 : decode cX5_idle 33 = .ok (.iconst 1, 1) := by decide +kernel
theorem dX5_idle_34 : decode cX5_idle 34 = .ok (.isub, 1) := by decide +kernel
theorem dX5_idle_35 : decode cX5_idle 35 = .ok (.istore_n 2, 1) := by decide +kernel
theorem dX5_idle_36 : decode cX5_idle 36 = .ok (.iload_n 2, 1) := by decide +kernel
theorem dX5_idle_37 : decode cX5_idle 37 = .ok (.ifCond .lt 24, 3) := by decide +kernel
theorem dX5_idle_40 : decode cX5_idle 40 = .ok (.aload_n 0, 1) := by decide +kernel
theorem dX5_idle_41 : decode cX5_idle 41 = .ok (.getfield 42, 3) := by decide +kernel
theorem dX5_idle_44 : decode cX5_idle 44 = .ok (.iload_n 2, 1) := by decide +kernel
theorem dX5_idle_45 : decode cX5_idle 45 = .ok (.iaload, 1) := by decide +kernel
theorem dX5_idle_46 : decode cX5_idle 46 = .ok (.iload_n 1, 1) := by decide +kernel
theorem dX5_idle_47 : decode cX5_idle 47 = .ok (.if_icmp .ne 8, 3) := by decide +kernel
theorem dX5_idle_50 : decode cX5_idle 50 = .ok (.aload_n 0, 1) := by decide +kernel
theorem dX5_idle_51 : decode cX5_idle 51 = .ok (.iload_n 2, 1) := by decide +kernel
theorem dX5_idle_52 : decode cX5_idle 52 = .ok (.invokevirtual 112, 3) := by decide +kernel
theorem dX5_idle_55 : decode cX5_idle 55 = .ok (.iinc 2 (-1), 3) := by decide +kernel
theorem dX5_idle_58 : decode cX5_idle 58 = .ok (.goto (-22), 3) := by decide +kernel
theorem dX5_idle_61 : decode cX5_idle 61 = .ok (.return_, 1) := by decide +kernel
theorem dX5_isCaller_0 : decode cX5_isCaller 0 = .ok (.iload_n 0, 1) := by decide +kernel
theorem dX5_isCaller_1 : decode cX5_isCaller 1 = .ok (.iconst 1, 1) := by decide +kernel
theorem dX5_isCaller_2 : decode cX5_isCaller 2 = .ok (.iconst 3, 1) := by decide +kernel
theorem dX5_isCaller_3 : decode cX5_isCaller 3 = .ok (.invokestatic 88, 3) := by decide +kernel
theorem dX5_isCaller_6 : decode cX5_isCaller 6 = .ok (.ireturn, 1) := by decide +kernel
theorem dX5_ends_0 : decode cX5_ends 0 = .ok (.aload_n 0, 1) := by decide +kernel
theorem dX5_ends_1 : decode cX5_ends 1 = .ok (.getfield 30, 3) := by decide +kernel
theorem dX5_ends_4 : decode cX5_ends 4 = .ok (.iload_n 1, 1) := by decide +kernel
theorem dX5_ends_5 : decode cX5_ends 5 = .ok (.iaload, 1) := by decide +kernel
theorem dX5_ends_6 : decode cX5_ends 6 = .ok (.istore_n 2, 1) := by decide +kernel
theorem dX5_ends_7 : decode cX5_ends 7 = .ok (.aload_n 0, 1) := by decide +kernel
theorem dX5_ends_8 : decode cX5_ends 8 = .ok (.getfield 27, 3) := by decide +kernel
theorem dX5_ends_11 : decode cX5_ends 11 = .ok (.iload_n 1, 1) := by decide +kernel
theorem dX5_ends_12 : decode cX5_ends 12 = .ok (.iaload, 1) := by decide +kernel
theorem dX5_ends_13 : decode cX5_ends 13 = .ok (.bipush 7, 2) := by decide +kernel
theorem dX5_ends_15 : decode cX5_ends 15 = .ok (.if_icmp .ne 14, 3) := by decide +kernel
theorem dX5_ends_18 : decode cX5_ends 18 = .ok (.aload_n 0, 1) := by decide +kernel
theorem dX5_ends_19 : decode cX5_ends 19 = .ok (.getfield 27, 3) := by decide +kernel
theorem dX5_ends_22 : decode cX5_ends 22 = .ok (.iload_n 2, 1) := by decide +kernel
theorem dX5_ends_23 : decode cX5_ends 23 = .ok (.iaload, 1) := by decide +kernel
theorem dX5_ends_24 : decode cX5_ends 24 = .ok (.bipush 7, 2) := by decide +kernel
theorem dX5_ends_26 : decode cX5_ends 26 = .ok (.if_icmp .eq 57, 3) := by decide +kernel
theorem dX5_ends_29 : decode cX5_ends 29 = .ok (.aload_n 0, 1) := by decide +kernel
theorem dX5_ends_30 : decode cX5_ends 30 = .ok (.getfield 27, 3) := by decide +kernel
theorem dX5_ends_33 : decode cX5_ends 33 = .ok (.iload_n 1, 1) := by decide +kernel
theorem dX5_ends_34 : decode cX5_ends 34 = .ok (.iaload, 1) := by decide +kernel
theorem dX5_ends_35 : decode cX5_ends 35 = .ok (.invokestatic 116, 3) := by decide +kernel
theorem dX5_ends_38 : decode cX5_ends 38 = .ok (.ifCond .eq 18, 3) := by decide +kernel
theorem dX5_ends_41 : decode cX5_ends 41 = .ok (.aload_n 0, 1) := by decide +kernel
theorem dX5_ends_42 : decode cX5_ends 42 = .ok (.getfield 27, 3) := by decide +kernel
theorem dX5_ends_45 : decode cX5_ends 45 = .ok (.iload_n 2, 1) := by decide +kernel
theorem dX5_ends_46 : decode cX5_ends 46 = .ok (.iaload, 1) := by decide +kernel
theorem dX5_ends_47 : decode cX5_ends 47 = .ok (.iconst 4, 1) := by decide +kernel
theorem dX5_ends_48 : decode cX5_ends 48 = .ok (.bipush 6, 2) := by decide +kernel
theorem dX5_ends_50 : decode cX5_ends 50 = .ok (.invokestatic 88, 3) := by decide +kernel
theorem dX5_ends_53 : decode cX5_ends 53 = .ok (.ifCond .ne 30, 3) := by decide +kernel
theorem dX5_ends_56 : decode cX5_ends 56 = .ok (.aload_n 0, 1) := by decide +kernel
theorem dX5_ends_57 : decode cX5_ends 57 = .ok (.getfield 27, 3) := by decide +kernel
theorem dX5_ends_60 : decode cX5_ends 60 = .ok (.iload_n 1, 1) := by decide +kernel
theorem dX5_ends_61 : decode cX5_ends 61 = .ok (.iaload, 1) := by decide +kernel
theorem dX5_ends_62 : decode cX5_ends 62 = .ok (.iconst 4, 1) := by decide +kernel
theorem dX5_ends_63 : decode cX5_ends 63 = .ok (.bipush 6, 2) := by decide +kernel
theorem dX5_ends_65 : decode cX5_ends 65 = .ok (.invokestatic 88, 3) := by decide +kernel
theorem dX5_ends_68 : decode cX5_ends 68 = .ok (.ifCond .eq 19, 3) := by decide +kernel
theorem dX5_ends_71 : decode cX5_ends 71 = .ok (.aload_n 0, 1) := by decide +kernel
theorem dX5_ends_72 : decode cX5_ends 72 = .ok (.getfield 27, 3) := by decide +kernel
theorem dX5_ends_75 : decode cX5_ends 75 = .ok (.iload_n 2, 1) := by decide +kernel
theorem dX5_ends_76 : decode cX5_ends 76 = .ok (.iaload, 1) := by decide +kernel
theorem dX5_ends_77 : decode cX5_ends 77 = .ok (.invokestatic 116, 3) := by decide +kernel
theorem dX5_ends_80 : decode cX5_ends 80 = .ok (.ifCond .eq 7, 3) := by decide +kernel
theorem dX5_ends_83 : decode cX5_ends 83 = .ok (.iconst 1, 1) := by decide +kernel
theorem dX5_ends_84 : decode cX5_ends 84 = .ok (.goto 4, 3) := by decide +kernel
theorem dX5_ends_87 : decode cX5_ends 87 = .ok (.iconst 0, 1) := by decide +kernel
theorem dX5_ends_88 : decode cX5_ends 88 = .ok (.istore_n 3, 1) := by decide +kernel
theorem dX5_ends_89 : decode cX5_ends 89 = .ok (.aload_n 0, 1) := by decide +kernel
theorem dX5_ends_90 : decode cX5_ends 90 = .ok (.getfield 30, 3) := by decide +kernel
theorem dX5_ends_93 : decode cX5_ends 93 = .ok (.iload_n 2, 1) := by decide +kernel
theorem dX5_ends_94 : decode cX5_ends 94 = .ok (.iaload, 1) := by decide +kernel
theorem dX5_ends_95 : decode cX5_ends 95 = .ok (.iload_n 1, 1) := by decide +kernel
theorem dX5_ends_96 : decode cX5_ends 96 = .ok (.if_icmp .ne 11, 3) := by decide +kernel
theorem dX5_ends_99 : decode cX5_ends 99 = .ok (.iload_n 3, 1) := by decide +kernel
theorem dX5_ends_100 : decode cX5_ends 100 = .ok (.ifCond .eq 7, 3) := by decide +kernel
theorem dX5_ends_103 : decode cX5_ends 103 = .ok (.iconst 1, 1) := by decide +kernel
theorem dX5_ends_104 : decode cX5_ends 104 = .ok (.goto 4, 3) := by decide +kernel
theorem dX5_ends_107 : decode cX5_ends 107 = .ok (.iconst 0, 1) := by decide +kernel
theorem dX5_ends_108 : decode cX5_ends 108 = .ok (.istore 4, 2) := by decide +kernel
theorem dX5_ends_110 : decode cX5_ends 110 = .ok (.aload_n 0, 1) := by decide +kernel
theorem dX5_ends_111 : decode cX5_ends 111 = .ok (.iload_n 1, 1) := by decide +kernel
theorem dX5_ends_112 : decode cX5_ends 112 = .ok (.invokevirtual 119, 3) := by decide +kernel
theorem dX5_ends_115 : decode cX5_ends 115 = .ok (.iload 4, 2) := by decide +kernel
theorem dX5_ends_117 : decode cX5_ends 117 = .ok (.ifCond .eq 8, 3) := by decide +kernel
theorem dX5_ends_120 : decode cX5_ends 120 = .ok (.aload_n 0, 1) := by decide +kernel
theorem dX5_ends_121 : decode cX5_ends 121 = .ok (.iload_n 2, 1) := by decide +kernel
theorem dX5_ends_122 : decode cX5_ends 122 = .ok (.invokevirtual 119, 3) := by decide +kernel
theorem dX5_ends_125 : decode cX5_ends 125 = .ok (.aload_n 0, 1) := by decide +kernel
theorem dX5_ends_126 : decode cX5_ends 126 = .ok (.dup, 1) := by decide +kernel
theorem dX5_ends_127 : decode cX5_ends 127 = .ok (.getfield 122, 3) := by decide +kernel
theorem dX5_ends_130 : decode cX5_ends 130 = .ok (.iconst 1, 1) := by decide +kernel
theorem dX5_ends_131 : decode cX5_ends 131 = .ok (.iadd, 1) := by decide +kernel
theorem dX5_ends_132 : decode cX5_ends 132 = .ok (.putfield 122, 3) := by decide +kernel
theorem dX5_ends_135 : decode cX5_ends 135 = .ok (.return_, 1) := by decide +kernel
theorem dX5_hang_0 : decode cX5_hang 0 = .ok (.aload_n 0, 1) := by decide +kernel
theorem dX5_hang_1 : decode cX5_hang 1 = .ok (.iload_n 1, 1) := by decide +kernel
theorem dX5_hang_2 : decode cX5_hang 2 = .ok (.invokevirtual 99, 3) := by decide +kernel
theorem dX5_hang_5 : decode cX5_hang 5 = .ok (.ifCond .ne 9, 3) := by decide +kernel
theorem dX5_hang_8 : decode cX5_hang 8 = .ok (.aload_n 0, 1) := by decide +kernel
theorem dX5_hang_9 : decode cX5_hang 9 = .ok (.iconst (-1), 1) := by decide +kernel
theorem dX5_hang_10 : decode cX5_hang 10 = .ok (.invokevirtual 95, 3) := by decide +kernel
theorem dX5_hang_13 : decode cX5_hang 13 = .ok (.ireturn, 1) := by decide +kernel
theorem dX5_hang_14 : decode cX5_hang 14 = .ok (.aload_n 0, 1) := by decide +kernel
theorem dX5_hang_15 : decode cX5_hang 15 = .ok (.getfield 27, 3) := by decide +kernel
theorem dX5_hang_18 : decode cX5_hang 18 = .ok (.iload_n 1, 1) := by decide +kernel
theorem dX5_hang_19 : decode cX5_hang 19 = .ok (.iaload, 1) := by decide +kernel
theorem dX5_hang_20 : decode cX5_hang 20 = .ok (.ifCond .ne 10, 3) := by decide +kernel
theorem dX5_hang_23 : decode cX5_hang 23 = .ok (.aload_n 0, 1) := by decide +kernel
theorem dX5_hang_24 : decode cX5_hang 24 = .ok (.bipush (-2), 2) := by decide +kernel
theorem dX5_hang_26 : decode cX5_hang 26 = .ok (.invokevirtual 95, 3) := by decide +kernel
theorem dX5_hang_29 : decode cX5_hang 29 = .ok (.ireturn, 1) := by decide +kernel
theorem dX5_hang_30 : decode cX5_hang 30 = .ok (.aload_n 0, 1) := by decide +kernel
theorem dX5_hang_31 : decode cX5_hang 31 = .ok (.iload_n 1, 1) := by decide +kernel
theorem dX5_hang_32 : decode cX5_hang 32 = .ok (.invokevirtual 125, 3) := by decide +kernel
theorem dX5_hang_35 : decode cX5_hang 35 = .ok (.iconst 1, 1) := by decide +kernel
theorem dX5_hang_36 : decode cX5_hang 36 = .ok (.ireturn, 1) := by decide +kernel
theorem dX5_say_0 : decode cX5_say 0 = .ok (.aload_n 0, 1) := by decide +kernel
theorem dX5_say_1 : decode cX5_say 1 = .ok (.iload_n 1, 1) := by decide +kernel
theorem dX5_say_2 : decode cX5_say 2 = .ok (.invokevirtual 99, 3) := by decide +kernel
theorem dX5_say_5 : decode cX5_say 5 = .ok (.ifCond .ne 9, 3) := by decide +kernel
theorem dX5_say_8 : decode cX5_say 8 = .ok (.aload_n 0, 1) := by decide +kernel
theorem dX5_say_9 : decode cX5_say 9 = .ok (.iconst (-1), 1) := by decide +kernel
theorem dX5_say_10 : decode cX5_say 10 = .ok (.invokevirtual 95, 3) := by decide +kernel
theorem dX5_say_13 : decode cX5_say 13 = .ok (.ireturn, 1) := by decide +kernel
theorem dX5_say_14 : decode cX5_say 14 = .ok (.aload_n 0, 1) := by decide +kernel
theorem dX5_say_15 : decode cX5_say 15 = .ok (.getfield 27, 3) := by decide +kernel
theorem dX5_say_18 : decode cX5_say 18 = .ok (.iload_n 1, 1) := by decide +kernel
theorem dX5_say_19 : decode cX5_say 19 = .ok (.iaload, 1) := by decide +kernel
theorem dX5_say_20 : decode cX5_say 20 = .ok (.bipush 7, 2) := by decide +kernel
theorem dX5_say_22 : decode cX5_say 22 = .ok (.if_icmp .eq 10, 3) := by decide +kernel
theorem dX5_say_25 : decode cX5_say 25 = .ok (.aload_n 0, 1) := by decide +kernel
theorem dX5_say_26 : decode cX5_say 26 = .ok (.bipush (-2), 2) := by decide +kernel
theorem dX5_say_28 : decode cX5_say 28 = .ok (.invokevirtual 95, 3) := by decide +kernel
theorem dX5_say_31 : decode cX5_say 31 = .ok (.ireturn, 1) := by decide +kernel
theorem dX5_say_32 : decode cX5_say 32 = .ok (.aload_n 0, 1) := by decide +kernel
theorem dX5_say_33 : decode cX5_say 33 = .ok (.getfield 57, 3) := by decide +kernel
theorem dX5_say_36 : decode cX5_say 36 = .ok (.iload_n 1, 1) := by decide +kernel
theorem dX5_say_37 : decode cX5_say 37 = .ok (.iaload, 1) := by decide +kernel
theorem dX5_say_38 : decode cX5_say 38 = .ok (.bipush 8, 2) := by decide +kernel
theorem dX5_say_40 : decode cX5_say 40 = .ok (.if_icmp .ne 10, 3) := by decide +kernel
theorem dX5_say_43 : decode cX5_say 43 = .ok (.aload_n 0, 1) := by decide +kernel
theorem dX5_say_44 : decode cX5_say 44 = .ok (.bipush (-6), 2) := by decide +kernel
theorem dX5_say_46 : decode cX5_say 46 = .ok (.invokevirtual 95, 3) := by decide +kernel
theorem dX5_say_49 : decode cX5_say 49 = .ok (.ireturn, 1) := by decide +kernel
theorem dX5_say_50 : decode cX5_say 50 = .ok (.aload_n 0, 1) := by decide +kernel
theorem dX5_say_51 : decode cX5_say 51 = .ok (.getfield 60, 3) := by decide +kernel
theorem dX5_say_54 : decode cX5_say 54 = .ok (.bipush 8, 2) := by decide +kernel
theorem dX5_say_56 : decode cX5_say 56 = .ok (.iload_n 1, 1) := by decide +kernel
theorem dX5_say_57 : decode cX5_say 57 = .ok (.imul, 1) := by decide +kernel
theorem dX5_say_58 : decode cX5_say 58 = .ok (.aload_n 0, 1) := by decide +kernel
theorem dX5_say_59 : decode cX5_say 59 = .ok (.getfield 57, 3) := by decide +kernel
theorem dX5_say_62 : decode cX5_say 62 = .ok (.iload_n 1, 1) := by decide +kernel
theorem dX5_say_63 : decode cX5_say 63 = .ok (.iaload, 1) := by decide +kernel
theorem dX5_say_64 : decode cX5_say 64 = .ok (.iadd, 1) := by decide +kernel
theorem dX5_say_65 : decode cX5_say 65 = .ok (.lload_n 2, 1) := by decide +kernel
theorem dX5_say_66 : decode cX5_say 66 = .ok (.lastore, 1) := by decide +kernel
theorem dX5_say_67 : decode cX5_say 67 = .ok (.aload_n 0, 1) := by decide +kernel
theorem dX5_say_68 : decode cX5_say 68 = .ok (.getfield 57, 3) := by decide +kernel
theorem dX5_say_71 : decode cX5_say 71 = .ok (.iload_n 1, 1) := by decide +kernel
theorem dX5_say_72 : decode cX5_say 72 = .ok (.dup2, 1) := by decide +kernel
theorem dX5_say_73 : decode cX5_say 73 = .ok (.iaload, 1) := by decide +kernel
theorem dX5_say_74 : decode cX5_say 74 = .ok (.iconst 1, 1) := by decide +kernel
theorem dX5_say_75 : decode cX5_say 75 = .ok (.iadd, 1) := by decide +kernel
theorem dX5_say_76 : decode cX5_say 76 = .ok (.iastore, 1) := by decide +kernel
theorem dX5_say_77 : decode cX5_say 77 = .ok (.aload_n 0, 1) := by decide +kernel
theorem dX5_say_78 : decode cX5_say 78 = .ok (.getfield 57, 3) := by decide +kernel
theorem dX5_say_81 : decode cX5_say 81 = .ok (.iload_n 1, 1) := by decide +kernel
theorem dX5_say_82 : decode cX5_say 82 = .ok (.iaload, 1) := by decide +kernel
theorem dX5_say_83 : decode cX5_say 83 = .ok (.ireturn, 1) := by decide +kernel
theorem dX5_reaches_0 : decode cX5_reaches 0 = .ok (.aload_n 0, 1) := by decide +kernel
theorem dX5_reaches_1 : decode cX5_reaches 1 = .ok (.getfield 36, 3) := by decide +kernel
theorem dX5_reaches_4 : decode cX5_reaches 4 = .ok (.iload_n 2, 1) := by decide +kernel
theorem dX5_reaches_5 : decode cX5_reaches 5 = .ok (.iaload, 1) := by decide +kernel
theorem dX5_reaches_6 : decode cX5_reaches 6 = .ok (.iload_n 1, 1) := by decide +kernel
theorem dX5_reaches_7 : decode cX5_reaches 7 = .ok (.ishr, 1) := by decide +kernel
theorem dX5_reaches_8 : decode cX5_reaches 8 = .ok (.iconst 1, 1) := by decide +kernel
theorem dX5_reaches_9 : decode cX5_reaches 9 = .ok (.iand, 1) := by decide +kernel
theorem dX5_reaches_10 : decode cX5_reaches 10 = .ok (.iconst 1, 1) := by decide +kernel
theorem dX5_reaches_11 : decode cX5_reaches 11 = .ok (.if_icmp .ne 7, 3) := by decide +kernel
theorem dX5_reaches_14 : decode cX5_reaches 14 = .ok (.iconst 1, 1) := by decide +kernel
theorem dX5_reaches_15 : decode cX5_reaches 15 = .ok (.goto 4, 3) := by decide +kernel
theorem dX5_reaches_18 : decode cX5_reaches 18 = .ok (.iconst 0, 1) := by decide +kernel
theorem dX5_reaches_19 : decode cX5_reaches 19 = .ok (.ireturn, 1) := by decide +kernel
theorem dX5_sends_0 : decode cX5_sends 0 = .ok (.aload_n 0, 1) := by decide +kernel
theorem dX5_sends_1 : decode cX5_sends 1 = .ok (.getfield 7, 3) := by decide +kernel
theorem dX5_sends_4 : decode cX5_sends 4 = .ok (.iload_n 1, 1) := by decide +kernel
theorem dX5_sends_5 : decode cX5_sends 5 = .ok (.iaload, 1) := by decide +kernel
theorem dX5_sends_6 : decode cX5_sends 6 = .ok (.iload_n 2, 1) := by decide +kernel
theorem dX5_sends_7 : decode cX5_sends 7 = .ok (.if_icmp .ne 7, 3) := by decide +kernel
theorem dX5_sends_10 : decode cX5_sends 10 = .ok (.iconst 1, 1) := by decide +kernel
theorem dX5_sends_11 : decode cX5_sends 11 = .ok (.goto 4, 3) := by decide +kernel
theorem dX5_sends_14 : decode cX5_sends 14 = .ok (.iconst 0, 1) := by decide +kernel
theorem dX5_sends_15 : decode cX5_sends 15 = .ok (.istore_n 3, 1) := by decide +kernel
theorem dX5_sends_16 : decode cX5_sends 16 = .ok (.iconst 0, 1) := by decide +kernel
theorem dX5_sends_17 : decode cX5_sends 17 = .ok (.istore 4, 2) := by decide +kernel
theorem dX5_sends_19 : decode cX5_sends 19 = .ok (.iload 4, 2) := by decide +kernel
theorem dX5_sends_21 : decode cX5_sends 21 = .ok (.aload_n 0, 1) := by decide +kernel
theorem dX5_sends_22 : decode cX5_sends 22 = .ok (.getfield 109, 3) := by decide +kernel
theorem dX5_sends_25 : decode cX5_sends 25 = .ok (.if_icmp .ge 41, 3) := by decide +kernel
theorem dX5_sends_28 : decode cX5_sends 28 = .ok (.iload_n 3, 1) := by decide +kernel
theorem dX5_sends_29 : decode cX5_sends 29 = .ok (.ifCond .ne 25, 3) := by decide +kernel
theorem dX5_sends_32 : decode cX5_sends 32 = .ok (.aload_n 0, 1) := by decide +kernel
theorem dX5_sends_33 : decode cX5_sends 33 = .ok (.getfield 45, 3) := by decide +kernel
theorem dX5_sends_36 : decode cX5_sends 36 = .ok (.iload 4, 2) := by decide +kernel
theorem dX5_sends_38 : decode cX5_sends 38 = .ok (.iaload, 1) := by decide +kernel
theorem dX5_sends_39 : decode cX5_sends 39 = .ok (.iload_n 1, 1) := by decide +kernel
theorem dX5_sends_40 : decode cX5_sends 40 = .ok (.if_icmp .ne 18, 3) := by decide +kernel
theorem dX5_sends_43 : decode cX5_sends 43 = .ok (.aload_n 0, 1) := by decide +kernel
theorem dX5_sends_44 : decode cX5_sends 44 = .ok (.getfield 48, 3) := by decide +kernel
theorem dX5_sends_47 : decode cX5_sends 47 = .ok (.iload 4, 2) := by decide +kernel
theorem dX5_sends_49 : decode cX5_sends 49 = .ok (.iaload, 1) := by decide +kernel
theorem dX5_sends_50 : decode cX5_sends 50 = .ok (.iload_n 2, 1) := by decide +kernel
theorem dX5_sends_51 : decode cX5_sends 51 = .ok (.if_icmp .ne 7, 3) := by decide +kernel
theorem dX5_sends_54 : decode cX5_sends 54 = .ok (.iconst 1, 1) := by decide +kernel
theorem dX5_sends_55 : decode cX5_sends 55 = .ok (.goto 4, 3) := by decide +kernel
theorem dX5_sends_58 : decode cX5_sends 58 = .ok (.iconst 0, 1) := by decide +kernel
theorem dX5_sends_59 : decode cX5_sends 59 = .ok (.istore_n 3, 1) := by decide +kernel
theorem dX5_sends_60 : decode cX5_sends 60 = .ok (.iinc 4 1, 3) := by decide +kernel
theorem dX5_sends_63 : decode cX5_sends 63 = .ok (.goto (-44), 3) := by decide +kernel
theorem dX5_sends_66 : decode cX5_sends 66 = .ok (.iload_n 3, 1) := by decide +kernel
theorem dX5_sends_67 : decode cX5_sends 67 = .ok (.ireturn, 1) := by decide +kernel
theorem dX5_othersSending_0 : decode cX5_othersSending 0 = .ok (.iconst 0, 1) := by decide +kernel
theorem dX5_othersSending_1 : decode cX5_othersSending 1 = .ok (.istore 4, 2) := by decide +kernel
theorem dX5_othersSending_3 : decode cX5_othersSending 3 = .ok (.iconst 0, 1) := by decide +kernel
theorem dX5_othersSending_4 : decode cX5_othersSending 4 = .ok (.istore 5, 2) := by decide +kernel
theorem dX5_othersSending_6 : decode cX5_othersSending 6 = .ok (.iload 5, 2) := by decide +kernel
theorem dX5_othersSending_8 : decode cX5_othersSending 8 = .ok (.aload_n 0, 1) := by decide +kernel
theorem dX5_othersSending_9 : decode cX5_othersSending 9 = .ok (.getfield 84, 3) := by decide +kernel
theorem dX5_othersSending_12 : decode cX5_othersSending 12 = .ok (.if_icmp .ge 45, 3) := by decide +kernel
theorem dX5_othersSending_15 : decode cX5_othersSending 15 = .ok (.iload 4, 2) := by decide +kernel
theorem dX5_othersSending_17 : decode cX5_othersSending 17 = .ok (.iload 5, 2) := by decide +kernel
theorem dX5_othersSending_19 : decode cX5_othersSending 19 = .ok (.iload_n 1, 1) := by decide +kernel
theorem dX5_othersSending_20 : decode cX5_othersSending 20 = .ok (.if_icmp .eq 27, 3) := by decide +kernel
theorem dX5_othersSending_23 : decode cX5_othersSending 23 = .ok (.aload_n 0, 1) := by decide +kernel
theorem dX5_othersSending_24 : decode cX5_othersSending 24 = .ok (.iload 5, 2) := by decide +kernel
theorem dX5_othersSending_26 : decode cX5_othersSending 26 = .ok (.iload_n 2, 1) := by decide +kernel
theorem dX5_othersSending_27 : decode cX5_othersSending 27 = .ok (.invokevirtual 128, 3) := by decide +kernel
theorem dX5_othersSending_30 : decode cX5_othersSending 30 = .ok (.ifCond .eq 17, 3) := by decide +kernel
theorem dX5_othersSending_33 : decode cX5_othersSending 33 = .ok (.aload_n 0, 1) := by decide +kernel
theorem dX5_othersSending_34 : decode cX5_othersSending 34 = .ok (.iload 5, 2) := by decide +kernel
theorem dX5_othersSending_36 : decode cX5_othersSending 36 = .ok (.iload_n 3, 1) := by decide +kernel
theorem dX5_othersSending_37 : decode cX5_othersSending 37 = .ok (.invokevirtual 132, 3) := by decide +kernel
theorem dX5_othersSending_40 : decode cX5_othersSending 40 = .ok (.ifCond .eq 7, 3) := by decide +kernel
theorem dX5_othersSending_43 : decode cX5_othersSending 43 = .ok (.iconst 1, 1) := by decide +kernel
theorem dX5_othersSending_44 : decode cX5_othersSending 44 = .ok (.goto 4, 3) := by decide +kernel
theorem dX5_othersSending_47 : decode cX5_othersSending 47 = .ok (.iconst 0, 1) := by decide +kernel
theorem dX5_othersSending_48 : decode cX5_othersSending 48 = .ok (.iadd, 1) := by decide +kernel
theorem dX5_othersSending_49 : decode cX5_othersSending 49 = .ok (.istore 4, 2) := by decide +kernel
theorem dX5_othersSending_51 : decode cX5_othersSending 51 = .ok (.iinc 5 1, 3) := by decide +kernel
theorem dX5_othersSending_54 : decode cX5_othersSending 54 = .ok (.goto (-48), 3) := by decide +kernel
theorem dX5_othersSending_57 : decode cX5_othersSending 57 = .ok (.iload 4, 2) := by decide +kernel
theorem dX5_othersSending_59 : decode cX5_othersSending 59 = .ok (.ireturn, 1) := by decide +kernel
theorem dX5_othersTalking_0 : decode cX5_othersTalking 0 = .ok (.iconst 0, 1) := by decide +kernel
theorem dX5_othersTalking_1 : decode cX5_othersTalking 1 = .ok (.istore 4, 2) := by decide +kernel
theorem dX5_othersTalking_3 : decode cX5_othersTalking 3 = .ok (.iconst 0, 1) := by decide +kernel
theorem dX5_othersTalking_4 : decode cX5_othersTalking 4 = .ok (.istore 5, 2) := by decide +kernel
theorem dX5_othersTalking_6 : decode cX5_othersTalking 6 = .ok (.iload 5, 2) := by decide +kernel
theorem dX5_othersTalking_8 : decode cX5_othersTalking 8 = .ok (.aload_n 0, 1) := by decide +kernel
theorem dX5_othersTalking_9 : decode cX5_othersTalking 9 = .ok (.getfield 92, 3) := by decide +kernel
theorem dX5_othersTalking_12 : decode cX5_othersTalking 12 = .ok (.if_icmp .ge 101, 3) := by decide +kernel
theorem dX5_othersTalking_15 : decode cX5_othersTalking 15 = .ok (.iconst 0, 1) := by decide +kernel
theorem dX5_othersTalking_16 : decode cX5_othersTalking 16 = .ok (.istore 6, 2) := by decide +kernel
theorem dX5_othersTalking_18 : decode cX5_othersTalking 18 = .ok (.iconst 0, 1) := by decide +kernel
theorem dX5_othersTalking_19 : decode cX5_othersTalking 19 = .ok (.istore 7, 2) := by decide +kernel
theorem dX5_othersTalking_21 : decode cX5_othersTalking 21 = .ok (.iload 7, 2) := by decide +kernel
theorem dX5_othersTalking_23 : decode cX5_othersTalking 23 = .ok (.aload_n 0, 1) := by decide +kernel
theorem dX5_othersTalking_24 : decode cX5_othersTalking 24 = .ok (.getfield 109, 3) := by decide +kernel
theorem dX5_othersTalking_27 : decode cX5_othersTalking 27 = .ok (.if_icmp .ge 44, 3) := by decide +kernel
theorem dX5_othersTalking_30 : decode cX5_othersTalking 30 = .ok (.iload 6, 2) := by decide +kernel
theorem dX5_othersTalking_32 : decode cX5_othersTalking 32 = .ok (.ifCond .ne 26, 3) := by decide +kernel
theorem dX5_othersTalking_35 : decode cX5_othersTalking 35 = .ok (.aload_n 0, 1) := by decide +kernel
theorem dX5_othersTalking_36 : decode cX5_othersTalking 36 = .ok (.getfield 42, 3) := by decide +kernel
theorem dX5_othersTalking_39 : decode cX5_othersTalking 39 = .ok (.iload 7, 2) := by decide +kernel
theorem dX5_othersTalking_41 : decode cX5_othersTalking 41 = .ok (.iaload, 1) := by decide +kernel
theorem dX5_othersTalking_42 : decode cX5_othersTalking 42 = .ok (.iload 5, 2) := by decide +kernel
theorem dX5_othersTalking_44 : decode cX5_othersTalking 44 = .ok (.if_icmp .ne 18, 3) := by decide +kernel
theorem dX5_othersTalking_47 : decode cX5_othersTalking 47 = .ok (.aload_n 0, 1) := by decide +kernel
theorem dX5_othersTalking_48 : decode cX5_othersTalking 48 = .ok (.getfield 48, 3) := by decide +kernel
theorem dX5_othersTalking_51 : decode cX5_othersTalking 51 = .ok (.iload 7, 2) := by decide +kernel
theorem dX5_othersTalking_53 : decode cX5_othersTalking 53 = .ok (.iaload, 1) := by decide +kernel
theorem dX5_othersTalking_54 : decode cX5_othersTalking 54 = .ok (.iload_n 3, 1) := by decide +kernel
theorem dX5_othersTalking_55 : decode cX5_othersTalking 55 = .ok (.if_icmp .ne 7, 3) := by decide +kernel
theorem dX5_othersTalking_58 : decode cX5_othersTalking 58 = .ok (.iconst 1, 1) := by decide +kernel
theorem dX5_othersTalking_59 : decode cX5_othersTalking 59 = .ok (.goto 4, 3) := by decide +kernel
theorem dX5_othersTalking_62 : decode cX5_othersTalking 62 = .ok (.iconst 0, 1) := by decide +kernel
theorem dX5_othersTalking_63 : decode cX5_othersTalking 63 = .ok (.istore 6, 2) := by decide +kernel
theorem dX5_othersTalking_65 : decode cX5_othersTalking 65 = .ok (.iinc 7 1, 3) := by decide +kernel
theorem dX5_othersTalking_68 : decode cX5_othersTalking 68 = .ok (.goto (-47), 3) := by decide +kernel
theorem dX5_othersTalking_71 : decode cX5_othersTalking 71 = .ok (.iload 4, 2) := by decide +kernel
theorem dX5_othersTalking_73 : decode cX5_othersTalking 73 = .ok (.iload 5, 2) := by decide +kernel
theorem dX5_othersTalking_75 : decode cX5_othersTalking 75 = .ok (.iload_n 1, 1) := by decide +kernel
theorem dX5_othersTalking_76 : decode cX5_othersTalking 76 = .ok (.if_icmp .eq 27, 3) := by decide +kernel
theorem dX5_othersTalking_79 : decode cX5_othersTalking 79 = .ok (.iload 6, 2) := by decide +kernel
theorem dX5_othersTalking_81 : decode cX5_othersTalking 81 = .ok (.ifCond .eq 22, 3) := by decide +kernel
theorem dX5_othersTalking_84 : decode cX5_othersTalking 84 = .ok (.aload_n 0, 1) := by decide +kernel
theorem dX5_othersTalking_85 : decode cX5_othersTalking 85 = .ok (.iload_n 2, 1) := by decide +kernel
theorem dX5_othersTalking_86 : decode cX5_othersTalking 86 = .ok (.aload_n 0, 1) := by decide +kernel
theorem dX5_othersTalking_87 : decode cX5_othersTalking 87 = .ok (.getfield 13, 3) := by decide +kernel
theorem dX5_othersTalking_90 : decode cX5_othersTalking 90 = .ok (.iload 5, 2) := by decide +kernel
theorem dX5_othersTalking_92 : decode cX5_othersTalking 92 = .ok (.iaload, 1) := by decide +kernel
theorem dX5_othersTalking_93 : decode cX5_othersTalking 93 = .ok (.invokevirtual 128, 3) := by decide +kernel
theorem dX5_othersTalking_96 : decode cX5_othersTalking 96 = .ok (.ifCond .eq 7, 3) := by decide +kernel
theorem dX5_othersTalking_99 : decode cX5_othersTalking 99 = .ok (.iconst 1, 1) := by decide +kernel
theorem dX5_othersTalking_100 : decode cX5_othersTalking 100 = .ok (.goto 4, 3) := by decide +kernel
theorem dX5_othersTalking_103 : decode cX5_othersTalking 103 = .ok (.iconst 0, 1) := by decide +kernel
theorem dX5_othersTalking_104 : decode cX5_othersTalking 104 = .ok (.iadd, 1) := by decide +kernel
theorem dX5_othersTalking_105 : decode cX5_othersTalking 105 = .ok (.istore 4, 2) := by decide +kernel
theorem dX5_othersTalking_107 : decode cX5_othersTalking 107 = .ok (.iinc 5 1, 3) := by decide +kernel
theorem dX5_othersTalking_110 : decode cX5_othersTalking 110 = .ok (.goto (-104), 3) := by decide +kernel
theorem dX5_othersTalking_113 : decode cX5_othersTalking 113 = .ok (.iload 4, 2) := by decide +kernel
theorem dX5_othersTalking_115 : decode cX5_othersTalking 115 = .ok (.ireturn, 1) := by decide +kernel
theorem dX5_isHeardAt_0 : decode cX5_isHeardAt 0 = .ok (.aload_n 0, 1) := by decide +kernel
theorem dX5_isHeardAt_1 : decode cX5_isHeardAt 1 = .ok (.iload_n 2, 1) := by decide +kernel
theorem dX5_isHeardAt_2 : decode cX5_isHeardAt 2 = .ok (.iload_n 1, 1) := by decide +kernel
theorem dX5_isHeardAt_3 : decode cX5_isHeardAt 3 = .ok (.invokevirtual 128, 3) := by decide +kernel
theorem dX5_isHeardAt_6 : decode cX5_isHeardAt 6 = .ok (.ifCond .eq 31, 3) := by decide +kernel
theorem dX5_isHeardAt_9 : decode cX5_isHeardAt 9 = .ok (.aload_n 0, 1) := by decide +kernel
theorem dX5_isHeardAt_10 : decode cX5_isHeardAt 10 = .ok (.getfield 39, 3) := by decide +kernel
theorem dX5_isHeardAt_13 : decode cX5_isHeardAt 13 = .ok (.bipush 120, 2) := by decide +kernel
theorem dX5_isHeardAt_15 : decode cX5_isHeardAt 15 = .ok (.iload_n 1, 1) := by decide +kernel
theorem dX5_isHeardAt_16 : decode cX5_isHeardAt 16 = .ok (.imul, 1) := by decide +kernel
theorem dX5_isHeardAt_17 : decode cX5_isHeardAt 17 = .ok (.iload_n 3, 1) := by decide +kernel
theorem dX5_isHeardAt_18 : decode cX5_isHeardAt 18 = .ok (.iadd, 1) := by decide +kernel
theorem dX5_isHeardAt_19 : decode cX5_isHeardAt 19 = .ok (.baload, 1) := by decide +kernel
theorem dX5_isHeardAt_20 : decode cX5_isHeardAt 20 = .ok (.ifCond .ne 17, 3) := by decide +kernel
theorem dX5_isHeardAt_23 : decode cX5_isHeardAt 23 = .ok (.aload_n 0, 1) := by decide +kernel
theorem dX5_isHeardAt_24 : decode cX5_isHeardAt 24 = .ok (.iload_n 2, 1) := by decide +kernel
theorem dX5_isHeardAt_25 : decode cX5_isHeardAt 25 = .ok (.iload_n 1, 1) := by decide +kernel
theorem dX5_isHeardAt_26 : decode cX5_isHeardAt 26 = .ok (.iload_n 3, 1) := by decide +kernel
theorem dX5_isHeardAt_27 : decode cX5_isHeardAt 27 = .ok (.invokevirtual 135, 3) := by decide +kernel
theorem dX5_isHeardAt_30 : decode cX5_isHeardAt 30 = .ok (.ifCond .ne 7, 3) := by decide +kernel
theorem dX5_isHeardAt_33 : decode cX5_isHeardAt 33 = .ok (.iconst 1, 1) := by decide +kernel
theorem dX5_isHeardAt_34 : decode cX5_isHeardAt 34 = .ok (.goto 4, 3) := by decide +kernel
theorem dX5_isHeardAt_37 : decode cX5_isHeardAt 37 = .ok (.iconst 0, 1) := by decide +kernel
theorem dX5_isHeardAt_38 : decode cX5_isHeardAt 38 = .ok (.ireturn, 1) := by decide +kernel
theorem dX5_isHeardBy_0 : decode cX5_isHeardBy 0 = .ok (.aload_n 0, 1) := by decide +kernel
theorem dX5_isHeardBy_1 : decode cX5_isHeardBy 1 = .ok (.iload_n 1, 1) := by decide +kernel
theorem dX5_isHeardBy_2 : decode cX5_isHeardBy 2 = .ok (.aload_n 0, 1) := by decide +kernel
theorem dX5_isHeardBy_3 : decode cX5_isHeardBy 3 = .ok (.getfield 13, 3) := by decide +kernel
theorem dX5_isHeardBy_6 : decode cX5_isHeardBy 6 = .ok (.iload_n 2, 1) := by decide +kernel
theorem dX5_isHeardBy_7 : decode cX5_isHeardBy 7 = .ok (.iaload, 1) := by decide +kernel
theorem dX5_isHeardBy_8 : decode cX5_isHeardBy 8 = .ok (.invokevirtual 128, 3) := by decide +kernel
theorem dX5_isHeardBy_11 : decode cX5_isHeardBy 11 = .ok (.ifCond .eq 34, 3) := by decide +kernel
theorem dX5_isHeardBy_14 : decode cX5_isHeardBy 14 = .ok (.aload_n 0, 1) := by decide +kernel
theorem dX5_isHeardBy_15 : decode cX5_isHeardBy 15 = .ok (.getfield 39, 3) := by decide +kernel
theorem dX5_isHeardBy_18 : decode cX5_isHeardBy 18 = .ok (.bipush 120, 2) := by decide +kernel
theorem dX5_isHeardBy_20 : decode cX5_isHeardBy 20 = .ok (.bipush 16, 2) := by decide +kernel
theorem dX5_isHeardBy_22 : decode cX5_isHeardBy 22 = .ok (.iload_n 1, 1) := by decide +kernel
theorem dX5_isHeardBy_23 : decode cX5_isHeardBy 23 = .ok (.iadd, 1) := by decide +kernel
theorem dX5_isHeardBy_24 : decode cX5_isHeardBy 24 = .ok (.imul, 1) := by decide +kernel
theorem dX5_isHeardBy_25 : decode cX5_isHeardBy 25 = .ok (.iload_n 3, 1) := by decide +kernel
theorem dX5_isHeardBy_26 : decode cX5_isHeardBy 26 = .ok (.iadd, 1) := by decide +kernel
theorem dX5_isHeardBy_27 : decode cX5_isHeardBy 27 = .ok (.baload, 1) := by decide +kernel
theorem dX5_isHeardBy_28 : decode cX5_isHeardBy 28 = .ok (.ifCond .ne 17, 3) := by decide +kernel
theorem dX5_isHeardBy_31 : decode cX5_isHeardBy 31 = .ok (.aload_n 0, 1) := by decide +kernel
theorem dX5_isHeardBy_32 : decode cX5_isHeardBy 32 = .ok (.iload_n 2, 1) := by decide +kernel
theorem dX5_isHeardBy_33 : decode cX5_isHeardBy 33 = .ok (.iload_n 1, 1) := by decide +kernel
theorem dX5_isHeardBy_34 : decode cX5_isHeardBy 34 = .ok (.iload_n 3, 1) := by decide +kernel
theorem dX5_isHeardBy_35 : decode cX5_isHeardBy 35 = .ok (.invokevirtual 139, 3) := by decide +kernel
theorem dX5_isHeardBy_38 : decode cX5_isHeardBy 38 = .ok (.ifCond .ne 7, 3) := by decide +kernel
theorem dX5_isHeardBy_41 : decode cX5_isHeardBy 41 = .ok (.iconst 1, 1) := by decide +kernel
theorem dX5_isHeardBy_42 : decode cX5_isHeardBy 42 = .ok (.goto 4, 3) := by decide +kernel
theorem dX5_isHeardBy_45 : decode cX5_isHeardBy 45 = .ok (.iconst 0, 1) := by decide +kernel
theorem dX5_isHeardBy_46 : decode cX5_isHeardBy 46 = .ok (.ireturn, 1) := by decide +kernel
