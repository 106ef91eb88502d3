theorem dX4_beacon_0 : decode cX4_beacon 0 = .ok (.aload_n 0, 1) := by decide +kernel
theorem dX4_beacon_1 : decode cX4_beacon 1 = .ok (.getfield 12, 3) := by decide +kernel
theorem dX4_beacon_4 : decode cX4_beacon 4 = .ok (.iload_n 1, 1) := by decide +kernel
theorem dX4_beacon_5 : decode cX4_beacon 5 = .ok (.invokevirtual 56, 3) := by decide +kernel
theorem dX4_beacon_8 : decode cX4_beacon 8 = .ok (.ifCond .eq 35, 3) := by decide +kernel
theorem dX4_beacon_11 : decode cX4_beacon 11 = .ok (.iload_n 2, 1) := by decide +kernel
theorem dX4_beacon_12 : decode cX4_beacon 12 = .ok (.invokestatic 41, 3) := by decide +kernel
theorem dX4_beacon_15 : decode cX4_beacon 15 = .ok (.ifCond .eq 28, 3) := by decide +kernel
theorem dX4_beacon_18 : decode cX4_beacon 18 = .ok (.aload_n 0, 1) := by decide +kernel
theorem dX4_beacon_19 : decode cX4_beacon 19 = .ok (.getfield 12, 3) := by decide +kernel
theorem dX4_beacon_22 : decode cX4_beacon 22 = .ok (.iload_n 1, 1) := by decide +kernel
theorem dX4_beacon_23 : decode cX4_beacon 23 = .ok (.iload_n 2, 1) := by decide +kernel
theorem dX4_beacon_24 : decode cX4_beacon 24 = .ok (.aload_n 0, 1) := by decide +kernel
theorem dX4_beacon_25 : decode cX4_beacon 25 = .ok (.getfield 12, 3) := by decide +kernel
theorem dX4_beacon_28 : decode cX4_beacon 28 = .ok (.getfield 185, 3) := by decide +kernel
theorem dX4_beacon_31 : decode cX4_beacon 31 = .ok (.iload_n 1, 1) := by decide +kernel
theorem dX4_beacon_32 : decode cX4_beacon 32 = .ok (.iaload, 1) := by decide +kernel
theorem dX4_beacon_33 : decode cX4_beacon 33 = .ok (.invokevirtual 188, 3) := by decide +kernel
theorem dX4_beacon_36 : decode cX4_beacon 36 = .ok (.ifCond .eq 7, 3) := by decide +kernel
theorem dX4_beacon_39 : decode cX4_beacon 39 = .ok (.iconst 1, 1) := by decide +kernel
theorem dX4_beacon_40 : decode cX4_beacon 40 = .ok (.goto 4, 3) := by decide +kernel
theorem dX4_beacon_43 : decode cX4_beacon 43 = .ok (.iconst 0, 1) := by decide +kernel
theorem dX4_beacon_44 : decode cX4_beacon 44 = .ok (.ireturn, 1) := by decide +kernel
theorem dX4_mix_0 : decode cX4_mix 0 = .ok (.lload_n 1, 1) := by decide +kernel
theorem dX4_mix_1 : decode cX4_mix 1 = .ok (.lload_n 3, 1) := by decide +kernel
theorem dX4_mix_2 : decode cX4_mix 2 = .ok (.invokestatic 192, 3) := by decide +kernel
theorem dX4_mix_5 : decode cX4_mix 5 = .ok (.lreturn, 1) := by decide +kernel
theorem dX4_air_0 : decode cX4_air 0 = .ok (.iload_n 1, 1) := by decide +kernel
theorem dX4_air_1 : decode cX4_air 1 = .ok (.lookupswitch 37 #[(0, 27), (1, 32)], 27) := by decide +kernel
theorem dX4_air_28 : decode cX4_air 28 = .ok (.aload_n 0, 1) := by decide +kernel
theorem dX4_air_29 : decode cX4_air 29 = .ok (.getfield 196, 3) := by decide +kernel
theorem dX4_air_32 : decode cX4_air 32 = .ok (.lreturn, 1) := by decide +kernel
theorem dX4_air_33 : decode cX4_air 33 = .ok (.aload_n 0, 1) := by decide +kernel
theorem dX4_air_34 : decode cX4_air 34 = .ok (.getfield 199, 3) := by decide +kernel
theorem dX4_air_37 : decode cX4_air 37 = .ok (.lreturn, 1) := by decide +kernel
theorem dX4_air_38 : decode cX4_air 38 = .ok (.lconst 0, 1) := by decide +kernel
theorem dX4_air_39 : decode cX4_air 39 = .ok (.lreturn, 1) := by decide +kernel
theorem dX4_count_0 : decode cX4_count 0 = .ok (.iload_n 1, 1) := by decide +kernel
theorem dX4_count_1 : decode cX4_count 1 = .ok (.tableswitch 108 0 8 #[51, 56, 64, 72, 80, 88, 93, 98, 103], 51) := by decide +kernel
theorem dX4_count_52 : decode cX4_count 52 = .ok (.aload_n 0, 1) := by decide +kernel
theorem dX4_count_53 : decode cX4_count 53 = .ok (.getfield 84, 3) := by decide +kernel
theorem dX4_count_56 : decode cX4_count 56 = .ok (.ireturn, 1) := by decide +kernel
theorem dX4_count_57 : decode cX4_count 57 = .ok (.aload_n 0, 1) := by decide +kernel
theorem dX4_count_58 : decode cX4_count 58 = .ok (.getfield 12, 3) := by decide +kernel
theorem dX4_count_61 : decode cX4_count 61 = .ok (.getfield 34, 3) := by decide +kernel
theorem dX4_count_64 : decode cX4_count 64 = .ok (.ireturn, 1) := by decide +kernel
theorem dX4_count_65 : decode cX4_count 65 = .ok (.aload_n 0, 1) := by decide +kernel
theorem dX4_count_66 : decode cX4_count 66 = .ok (.getfield 12, 3) := by decide +kernel
theorem dX4_count_69 : decode cX4_count 69 = .ok (.getfield 44, 3) := by decide +kernel
theorem dX4_count_72 : decode cX4_count 72 = .ok (.ireturn, 1) := by decide +kernel
theorem dX4_count_73 : decode cX4_count 73 = .ok (.aload_n 0, 1) := by decide +kernel
theorem dX4_count_74 : decode cX4_count 74 = .ok (.getfield 12, 3) := by decide +kernel
theorem dX4_count_77 : decode cX4_count 77 = .ok (.getfield 147, 3) := by decide +kernel
theorem dX4_count_80 : decode cX4_count 80 = .ok (.ireturn, 1) := by decide +kernel
theorem dX4_count_81 : decode cX4_count 81 = .ok (.aload_n 0, 1) := by decide +kernel
theorem dX4_count_82 : decode cX4_count 82 = .ok (.getfield 12, 3) := by decide +kernel
theorem dX4_count_85 : decode cX4_count 85 = .ok (.getfield 202, 3) := by decide +kernel
theorem dX4_count_88 : decode cX4_count 88 = .ok (.ireturn, 1) := by decide +kernel
theorem dX4_count_89 : decode cX4_count 89 = .ok (.aload_n 0, 1) := by decide +kernel
theorem dX4_count_90 : decode cX4_count 90 = .ok (.getfield 94, 3) := by decide +kernel
theorem dX4_count_93 : decode cX4_count 93 = .ok (.ireturn, 1) := by decide +kernel
theorem dX4_count_94 : decode cX4_count 94 = .ok (.aload_n 0, 1) := by decide +kernel
theorem dX4_count_95 : decode cX4_count 95 = .ok (.getfield 205, 3) := by decide +kernel
theorem dX4_count_98 : decode cX4_count 98 = .ok (.ireturn, 1) := by decide +kernel
theorem dX4_count_99 : decode cX4_count 99 = .ok (.aload_n 0, 1) := by decide +kernel
theorem dX4_count_100 : decode cX4_count 100 = .ok (.getfield 208, 3) := by decide +kernel
theorem dX4_count_103 : decode cX4_count 103 = .ok (.ireturn, 1) := by decide +kernel
theorem dX4_count_104 : decode cX4_count 104 = .ok (.aload_n 0, 1) := by decide +kernel
theorem dX4_count_105 : decode cX4_count 105 = .ok (.getfield 211, 3) := by decide +kernel
theorem dX4_count_108 : decode cX4_count 108 = .ok (.ireturn, 1) := by decide +kernel
theorem dX4_count_109 : decode cX4_count 109 = .ok (.iload_n 1, 1) := by decide +kernel
theorem dX4_count_110 : decode cX4_count 110 = .ok (.bipush 11, 2) := by decide +kernel
theorem dX4_count_112 : decode cX4_count 112 = .ok (.if_icmp .lt 21, 3) := by decide +kernel
theorem dX4_count_115 : decode cX4_count 115 = .ok (.iload_n 1, 1) := by decide +kernel
theorem dX4_count_116 : decode cX4_count 116 = .ok (.bipush 16, 2) := by decide +kernel
theorem dX4_count_118 : decode cX4_count 118 = .ok (.if_icmp .gt 15, 3) := by decide +kernel
theorem dX4_count_121 : decode cX4_count 121 = .ok (.aload_n 0, 1) := by decide +kernel
theorem dX4_count_122 : decode cX4_count 122 = .ok (.getfield 22, 3) := by decide +kernel
theorem dX4_count_125 : decode cX4_count 125 = .ok (.iload_n 1, 1) := by decide +kernel
theorem dX4_count_126 : decode cX4_count 126 = .ok (.bipush 10, 2) := by decide +kernel
theorem dX4_count_128 : decode cX4_count 128 = .ok (.isub, 1) := by decide +kernel
theorem dX4_count_129 : decode cX4_count 129 = .ok (.iaload, 1) := by decide +kernel
theorem dX4_count_130 : decode cX4_count 130 = .ok (.goto 5, 3) := by decide +kernel
theorem dX4_count_133 : decode cX4_count 133 = .ok (.bipush (-9), 2) := by decide +kernel
theorem dX4_count_135 : decode cX4_count 135 = .ok (.ireturn, 1) := by decide +kernel
theorem dX4_isPlace_0 : decode cX4_isPlace 0 = .ok (.iload_n 0, 1) := by decide +kernel
theorem dX4_isPlace_1 : decode cX4_isPlace 1 = .ok (.ifCond .lt 13, 3) := by decide +kernel
theorem dX4_isPlace_4 : decode cX4_isPlace 4 = .ok (.iload_n 0, 1) := by decide +kernel
theorem dX4_isPlace_5 : decode cX4_isPlace 5 = .ok (.bipush 16, 2) := by decide +kernel
theorem dX4_isPlace_7 : decode cX4_isPlace 7 = .ok (.if_icmp .ge 7, 3) := by decide +kernel
theorem dX4_isPlace_10 : decode cX4_isPlace 10 = .ok (.iconst 1, 1) := by decide +kernel
theorem dX4_isPlace_11 : decode cX4_isPlace 11 = .ok (.goto 4, 3) := by decide +kernel
theorem dX4_isPlace_14 : decode cX4_isPlace 14 = .ok (.iconst 0, 1) := by decide +kernel
theorem dX4_isPlace_15 : decode cX4_isPlace 15 = .ok (.ireturn, 1) := by decide +kernel
theorem dX4_isChannel_0 : decode cX4_isChannel 0 = .ok (.iload_n 0, 1) := by decide +kernel
theorem dX4_isChannel_1 : decode cX4_isChannel 1 = .ok (.ifCond .lt 13, 3) := by decide +kernel
theorem dX4_isChannel_4 : decode cX4_isChannel 4 = .ok (.iload_n 0, 1) := by decide +kernel
theorem dX4_isChannel_5 : decode cX4_isChannel 5 = .ok (.bipush 120, 2) := by decide +kernel
theorem dX4_isChannel_7 : decode cX4_isChannel 7 = .ok (.if_icmp .ge 7, 3) := by decide +kernel
theorem dX4_isChannel_10 : decode cX4_isChannel 10 = .ok (.iconst 1, 1) := by decide +kernel
theorem dX4_isChannel_11 : decode cX4_isChannel 11 = .ok (.goto 4, 3) := by decide +kernel
theorem dX4_isChannel_14 : decode cX4_isChannel 14 = .ok (.iconst 0, 1) := by decide +kernel
theorem dX4_isChannel_15 : decode cX4_isChannel 15 = .ok (.ireturn, 1) := by decide +kernel
theorem dX4_mixOf_0 : decode cX4_mixOf 0 = .ok (.lload_n 0, 1) := by decide +kernel
theorem dX4_mixOf_1 : decode cX4_mixOf 1 = .ok (.lload_n 2, 1) := by decide +kernel
theorem dX4_mixOf_2 : decode cX4_mixOf 2 = .ok (.ldc2_w 214, 3) := by decide +kernel
theorem dX4_mixOf_5 : decode cX4_mixOf 5 = .ok (.lmul, 1) := by decide +kernel
theorem dX4_mixOf_6 : decode cX4_mixOf 6 = .ok (.lxor, 1) := by decide +kernel
theorem dX4_mixOf_7 : decode cX4_mixOf 7 = .ok (.lstore 4, 2) := by decide +kernel
theorem dX4_mixOf_9 : decode cX4_mixOf 9 = .ok (.lload 4, 2) := by decide +kernel
theorem dX4_mixOf_11 : decode cX4_mixOf 11 = .ok (.lload 4, 2) := by decide +kernel
theorem dX4_mixOf_13 : decode cX4_mixOf 13 = .ok (.bipush 29, 2) := by decide +kernel
theorem dX4_mixOf_15 : decode cX4_mixOf 15 = .ok (.lushr, 1) := by decide +kernel
theorem dX4_mixOf_16 : decode cX4_mixOf 16 = .ok (.lxor, 1) := by decide +kernel
theorem dX4_mixOf_17 : decode cX4_mixOf 17 = .ok (.ldc2_w 216, 3) := by decide +kernel
theorem dX4_mixOf_20 : decode cX4_mixOf 20 = .ok (.lmul, 1) := by decide +kernel
theorem dX4_mixOf_21 : decode cX4_mixOf 21 = .ok (.lstore 4, 2) := by decide +kernel
theorem dX4_mixOf_23 : decode cX4_mixOf 23 = .ok (.lload 4, 2) := by decide +kernel
theorem dX4_mixOf_25 : decode cX4_mixOf 25 = .ok (.lload 4, 2) := by decide +kernel
theorem dX4_mixOf_27 : decode cX4_mixOf 27 = .ok (.bipush 29, 2) := by decide +kernel
theorem dX4_mixOf_29 : decode cX4_mixOf 29 = .ok (.lushr, 1) := by decide +kernel
theorem dX4_mixOf_30 : decode cX4_mixOf 30 = .ok (.lxor, 1) := by decide +kernel
theorem dX4_mixOf_31 : decode cX4_mixOf 31 = .ok (.ldc2_w 216, 3) := by decide +kernel
theorem dX4_mixOf_34 : decode cX4_mixOf 34 = .ok (.lmul, 1) := by decide +kernel
theorem dX4_mixOf_35 : decode cX4_mixOf 35 = .ok (.lreturn, 1) := by decide +kernel
theorem dX4_refuse_0 : decode cX4_refuse 0 = .ok (.iload_n 1, 1) := by decide +kernel
theorem dX4_refuse_1 : decode cX4_refuse 1 = .ok (.ineg, 1) := by decide +kernel
theorem dX4_refuse_2 : decode cX4_refuse 2 = .ok (.istore_n 2, 1) := by decide +kernel
theorem dX4_refuse_3 : decode cX4_refuse 3 = .ok (.iload_n 2, 1) := by decide +kernel
theorem dX4_refuse_4 : decode cX4_refuse 4 = .ok (.ifCond .lt 22, 3) := by decide +kernel
theorem dX4_refuse_7 : decode cX4_refuse 7 = .ok (.iload_n 2, 1) := by decide +kernel
theorem dX4_refuse_8 : decode cX4_refuse 8 = .ok (.aload_n 0, 1) := by decide +kernel
theorem dX4_refuse_9 : decode cX4_refuse 9 = .ok (.getfield 22, 3) := by decide +kernel
theorem dX4_refuse_12 : decode cX4_refuse 12 = .ok (.arraylength, 1) := by decide +kernel
theorem dX4_refuse_13 : decode cX4_refuse 13 = .ok (.if_icmp .ge 13, 3) := by decide +kernel
theorem dX4_refuse_16 : decode cX4_refuse 16 = .ok (.aload_n 0, 1) := by decide +kernel
theorem dX4_refuse_17 : decode cX4_refuse 17 = .ok (.getfield 22, 3) := by decide +kernel
theorem dX4_refuse_20 : decode cX4_refuse 20 = .ok (.iload_n 2, 1) := by decide +kernel
theorem dX4_refuse_21 : decode cX4_refuse 21 = .ok (.dup2, 1) := by decide +kernel
theorem dX4_refuse_22 : decode cX4_refuse 22 = .ok (.iaload, 1) := by decide +kernel
theorem dX4_refuse_23 : decode cX4_refuse 23 = .ok (.iconst 1, 1) := by decide +kernel
theorem dX4_refuse_24 : decode cX4_refuse 24 = .ok (.iadd, 1) := by decide +kernel
theorem dX4_refuse_25 : decode cX4_refuse 25 = .ok (.iastore, 1) := by decide +kernel
theorem dX4_refuse_26 : decode cX4_refuse 26 = .ok (.iload_n 1, 1) := by decide +kernel
theorem dX4_refuse_27 : decode cX4_refuse 27 = .ok (.ireturn, 1) := by decide +kernel
theorem dX4_find_0 : decode cX4_find 0 = .ok (.aload_n 0, 1) := by decide +kernel
theorem dX4_find_1 : decode cX4_find 1 = .ok (.getfield 12, 3) := by decide +kernel
theorem dX4_find_4 : decode cX4_find 4 = .ok (.iload_n 1, 1) := by decide +kernel
theorem dX4_find_5 : decode cX4_find 5 = .ok (.invokevirtual 63, 3) := by decide +kernel
theorem dX4_find_8 : decode cX4_find 8 = .ok (.ifCond .eq 12, 3) := by decide +kernel
theorem dX4_find_11 : decode cX4_find 11 = .ok (.aload_n 0, 1) := by decide +kernel
theorem dX4_find_12 : decode cX4_find 12 = .ok (.getfield 18, 3) := by decide +kernel
theorem dX4_find_15 : decode cX4_find 15 = .ok (.iload_n 1, 1) := by decide +kernel
theorem dX4_find_16 : decode cX4_find 16 = .ok (.aaload, 1) := by decide +kernel
theorem dX4_find_17 : decode cX4_find 17 = .ok (.goto 4, 3) := by decide +kernel
theorem dX4_find_20 : decode cX4_find 20 = .ok (.aconst_null, 1) := by decide +kernel
theorem dX4_find_21 : decode cX4_find 21 = .ok (.areturn, 1) := by decide +kernel
theorem dX4_runFrame_0 : decode cX4_runFrame 0 = .ok (.aload_n 0, 1) := by decide +kernel
theorem dX4_runFrame_1 : decode cX4_runFrame 1 = .ok (.dup, 1) := by decide +kernel
theorem dX4_runFrame_2 : decode cX4_runFrame 2 = .ok (.getfield 84, 3) := by decide +kernel
theorem dX4_runFrame_5 : decode cX4_runFrame 5 = .ok (.iconst 1, 1) := by decide +kernel
theorem dX4_runFrame_6 : decode cX4_runFrame 6 = .ok (.iadd, 1) := by decide +kernel
theorem dX4_runFrame_7 : decode cX4_runFrame 7 = .ok (.putfield 84, 3) := by decide +kernel
theorem dX4_runFrame_10 : decode cX4_runFrame 10 = .ok (.aload_n 0, 1) := by decide +kernel
theorem dX4_runFrame_11 : decode cX4_runFrame 11 = .ok (.invokevirtual 218, 3) := by decide +kernel
theorem dX4_runFrame_14 : decode cX4_runFrame 14 = .ok (.aload_n 0, 1) := by decide +kernel
theorem dX4_runFrame_15 : decode cX4_runFrame 15 = .ok (.getfield 12, 3) := by decide +kernel
theorem dX4_runFrame_18 : decode cX4_runFrame 18 = .ok (.invokevirtual 221, 3) := by decide +kernel
theorem dX4_runFrame_21 : decode cX4_runFrame 21 = .ok (.aload_n 0, 1) := by decide +kernel
theorem dX4_runFrame_22 : decode cX4_runFrame 22 = .ok (.getfield 12, 3) := by decide +kernel
theorem dX4_runFrame_25 : decode cX4_runFrame 25 = .ok (.invokevirtual 224, 3) := by decide +kernel
theorem dX4_runFrame_28 : decode cX4_runFrame 28 = .ok (.aload_n 0, 1) := by decide +kernel
theorem dX4_runFrame_29 : decode cX4_runFrame 29 = .ok (.invokevirtual 227, 3) := by decide +kernel
theorem dX4_runFrame_32 : decode cX4_runFrame 32 = .ok (.aload_n 0, 1) := by decide +kernel
theorem dX4_runFrame_33 : decode cX4_runFrame 33 = .ok (.invokevirtual 230, 3) := by decide +kernel
theorem dX4_runFrame_36 : decode cX4_runFrame 36 = .ok (.aload_n 0, 1) := by decide +kernel
theorem dX4_runFrame_37 : decode cX4_runFrame 37 = .ok (.invokevirtual 233, 3) := by decide +kernel
theorem dX4_runFrame_40 : decode cX4_runFrame 40 = .ok (.aload_n 0, 1) := by decide +kernel
theorem dX4_runFrame_41 : decode cX4_runFrame 41 = .ok (.invokevirtual 236, 3) := by decide +kernel
theorem dX4_runFrame_44 : decode cX4_runFrame 44 = .ok (.aload_n 0, 1) := by decide +kernel
theorem dX4_runFrame_45 : decode cX4_runFrame 45 = .ok (.invokevirtual 239, 3) := by decide +kernel
theorem dX4_runFrame_48 : decode cX4_runFrame 48 = .ok (.aload_n 0, 1) := by decide +kernel
theorem dX4_runFrame_49 : decode cX4_runFrame 49 = .ok (.invokevirtual 242, 3) := by decide +kernel
theorem dX4_runFrame_52 : decode cX4_runFrame 52 = .ok (.return_, 1) := by decide +kernel
theorem dX4_setUpBearers_0 : decode cX4_setUpBearers 0 = .ok (.iconst 0, 1) := by decide +kernel
theorem dX4_setUpBearers_1 : decode cX4_setUpBearers 1 = .ok (.istore_n 1, 1) := by decide +kernel
theorem dX4_setUpBearers_2 : decode cX4_setUpBearers 2 = .ok (.iload_n 1, 1) := by decide +kernel
theorem dX4_setUpBearers_3 : decode cX4_setUpBearers 3 = .ok (.aload_n 0, 1) := by decide +kernel
theorem dX4_setUpBearers_4 : decode cX4_setUpBearers 4 = .ok (.getfield 12, 3) := by decide +kernel
theorem dX4_setUpBearers_7 : decode cX4_setUpBearers 7 = .ok (.getfield 44, 3) := by decide +kernel
theorem dX4_setUpBearers_10 : decode cX4_setUpBearers 10 = .ok (.if_icmp .ge 41, 3) := by decide +kernel
theorem dX4_setUpBearers_13 : decode cX4_setUpBearers 13 = .ok (.aload_n 0, 1) := by decide +kernel
theorem dX4_setUpBearers_14 : decode cX4_setUpBearers 14 = .ok (.getfield 84, 3) := by decide +kernel
theorem dX4_setUpBearers_17 : decode cX4_setUpBearers 17 = .ok (.iload_n 1, 1) := by decide +kernel
theorem dX4_setUpBearers_18 : decode cX4_setUpBearers 18 = .ok (.isub, 1) := by decide +kernel
theorem dX4_setUpBearers_19 : decode cX4_setUpBearers 19 = .ok (.iconst 4, 1) := by decide +kernel
theorem dX4_setUpBearers_20 : decode cX4_setUpBearers 20 = .ok (.irem, 1) := by decide +kernel
theorem dX4_setUpBearers_21 : decode cX4_setUpBearers 21 = .ok (.ifCond .ne 24, 3) := by decide +kernel
theorem dX4_setUpBearers_24 : decode cX4_setUpBearers 24 = .ok (.aload_n 0, 1) := by decide +kernel
theorem dX4_setUpBearers_25 : decode cX4_setUpBearers 25 = .ok (.aload_n 0, 1) := by decide +kernel
theorem dX4_setUpBearers_26 : decode cX4_setUpBearers 26 = .ok (.getfield 18, 3) := by decide +kernel
theorem dX4_setUpBearers_29 : decode cX4_setUpBearers 29 = .ok (.iload_n 1, 1) := by decide +kernel
theorem dX4_setUpBearers_30 : decode cX4_setUpBearers 30 = .ok (.aaload, 1) := by decide +kernel
theorem dX4_setUpBearers_31 : decode cX4_setUpBearers 31 = .ok (.invokevirtual 245, 3) := by decide +kernel
theorem dX4_setUpBearers_34 : decode cX4_setUpBearers 34 = .ok (.ifCond .eq 11, 3) := by decide +kernel
theorem dX4_setUpBearers_37 : decode cX4_setUpBearers 37 = .ok (.aload_n 0, 1) := by decide +kernel
theorem dX4_setUpBearers_38 : decode cX4_setUpBearers 38 = .ok (.getfield 12, 3) := by decide +kernel
theorem dX4_setUpBearers_41 : decode cX4_setUpBearers 41 = .ok (.iload_n 1, 1) := by decide +kernel
theorem dX4_setUpBearers_42 : decode cX4_setUpBearers 42 = .ok (.invokevirtual 249, 3) := by decide +kernel
theorem dX4_setUpBearers_45 : decode cX4_setUpBearers 45 = .ok (.iinc 1 1, 3) := by decide +kernel
theorem dX4_setUpBearers_48 : decode cX4_setUpBearers 48 = .ok (.goto (-46), 3) := by decide +kernel
theorem dX4_setUpBearers_51 : decode cX4_setUpBearers 51 = .ok (.return_, 1) := by decide +kernel
theorem dX4_wantsBearer_0 : decode cX4_wantsBearer 0 = .ok (.aload_n 1, 1) := by decide +kernel
theorem dX4_wantsBearer_1 : decode cX4_wantsBearer 1 = .ok (.getfield 73, 3) := by decide +kernel
theorem dX4_wantsBearer_4 : decode cX4_wantsBearer 4 = .ok (.iconst 1, 1) := by decide +kernel
theorem dX4_wantsBearer_5 : decode cX4_wantsBearer 5 = .ok (.if_icmp .eq 11, 3) := by decide +kernel
theorem dX4_wantsBearer_8 : decode cX4_wantsBearer 8 = .ok (.aload_n 1, 1) := by decide +kernel
theorem dX4_wantsBearer_9 : decode cX4_wantsBearer 9 = .ok (.getfield 73, 3) := by decide +kernel
theorem dX4_wantsBearer_12 : decode cX4_wantsBearer 12 = .ok (.iconst 4, 1) := by decide +kernel
theorem dX4_wantsBearer_13 : decode cX4_wantsBearer 13 = .ok (.if_icmp .ne 7, 3) := by decide +kernel
theorem dX4_wantsBearer_16 : decode cX4_wantsBearer 16 = .ok (.iconst 1, 1) := by decide +kernel
theorem dX4_wantsBearer_17 : decode cX4_wantsBearer 17 = .ok (.goto 4, 3) := by decide +kernel
theorem dX4_wantsBearer_20 : decode cX4_wantsBearer 20 = .ok (.iconst 0, 1) := by decide +kernel
theorem dX4_wantsBearer_21 : decode cX4_wantsBearer 21 = .ok (.istore_n 2, 1) := by decide +kernel
theorem dX4_wantsBearer_22 : decode cX4_wantsBearer 22 = .ok (.iload_n 2, 1) := by decide +kernel
theorem dX4_wantsBearer_23 : decode cX4_wantsBearer 23 = .ok (.ifCond .eq 17, 3) := by decide +kernel
theorem dX4_wantsBearer_26 : decode cX4_wantsBearer 26 = .ok (.aload_n 0, 1) := by decide +kernel
theorem dX4_wantsBearer_27 : decode cX4_wantsBearer 27 = .ok (.getfield 12, 3) := by decide +kernel
theorem dX4_wantsBearer_30 : decode cX4_wantsBearer 30 = .ok (.aload_n 1, 1) := by decide +kernel
theorem dX4_wantsBearer_31 : decode cX4_wantsBearer 31 = .ok (.getfield 253, 3) := by decide +kernel
theorem dX4_wantsBearer_34 : decode cX4_wantsBearer 34 = .ok (.invokevirtual 128, 3) := by decide +kernel
theorem dX4_wantsBearer_37 : decode cX4_wantsBearer 37 = .ok (.ifCond .eq 17, 3) := by decide +kernel
theorem dX4_wantsBearer_40 : decode cX4_wantsBearer 40 = .ok (.aload_n 0, 1) := by decide +kernel
theorem dX4_wantsBearer_41 : decode cX4_wantsBearer 41 = .ok (.getfield 12, 3) := by decide +kernel
theorem dX4_wantsBearer_44 : decode cX4_wantsBearer 44 = .ok (.aload_n 1, 1) := by decide +kernel
theorem dX4_wantsBearer_45 : decode cX4_wantsBearer 45 = .ok (.getfield 253, 3) := by decide +kernel
theorem dX4_wantsBearer_48 : decode cX4_wantsBearer 48 = .ok (.invokevirtual 131, 3) := by decide +kernel
theorem dX4_wantsBearer_51 : decode cX4_wantsBearer 51 = .ok (.ifCond .eq 7, 3) := by decide +kernel
theorem dX4_wantsBearer_54 : decode cX4_wantsBearer 54 = .ok (.iconst 1, 1) := by decide +kernel
theorem dX4_wantsBearer_55 : decode cX4_wantsBearer 55 = .ok (.goto 4, 3) := by decide +kernel
theorem dX4_wantsBearer_58 : decode cX4_wantsBearer 58 = .ok (.iconst 0, 1) := by decide +kernel
theorem dX4_wantsBearer_59 : decode cX4_wantsBearer 59 = .ok (.ireturn, 1) := by decide +kernel
theorem dX4_dropHandedOver_0 : decode cX4_dropHandedOver 0 = .ok (.iconst 0, 1) := by decide +kernel
theorem dX4_dropHandedOver_1 : decode cX4_dropHandedOver 1 = .ok (.istore_n 1, 1) := by decide +kernel
theorem dX4_dropHandedOver_2 : decode cX4_dropHandedOver 2 = .ok (.iload_n 1, 1) := by decide +kernel
theorem dX4_dropHandedOver_3 : decode cX4_dropHandedOver 3 = .ok (.aload_n 0, 1) := by decide +kernel
theorem dX4_dropHandedOver_4 : decode cX4_dropHandedOver 4 = .ok (.getfield 12, 3) := by decide +kernel
theorem dX4_dropHandedOver_7 : decode cX4_dropHandedOver 7 = .ok (.getfield 44, 3) := by decide +kernel
theorem dX4_dropHandedOver_10 : decode cX4_dropHandedOver 10 = .ok (.if_icmp .ge 30, 3) := by decide +kernel
theorem dX4_dropHandedOver_13 : decode cX4_dropHandedOver 13 = .ok (.aload_n 0, 1) := by decide +kernel
theorem dX4_dropHandedOver_14 : decode cX4_dropHandedOver 14 = .ok (.getfield 12, 3) := by decide +kernel
theorem dX4_dropHandedOver_17 : decode cX4_dropHandedOver 17 = .ok (.iload_n 1, 1) := by decide +kernel
theorem dX4_dropHandedOver_18 : decode cX4_dropHandedOver 18 = .ok (.invokevirtual 256, 3) := by decide +kernel
theorem dX4_dropHandedOver_21 : decode cX4_dropHandedOver 21 = .ok (.ifCond .eq 13, 3) := by decide +kernel
theorem dX4_dropHandedOver_24 : decode cX4_dropHandedOver 24 = .ok (.aload_n 0, 1) := by decide +kernel
theorem dX4_dropHandedOver_25 : decode cX4_dropHandedOver 25 = .ok (.dup, 1) := by decide +kernel
theorem dX4_dropHandedOver_26 : decode cX4_dropHandedOver 26 = .ok (.getfield 208, 3) := by decide +kernel
theorem dX4_dropHandedOver_29 : decode cX4_dropHandedOver 29 = .ok (.iconst 1, 1) := by decide +kernel
theorem dX4_dropHandedOver_30 : decode cX4_dropHandedOver 30 = .ok (.iadd, 1) := by decide +kernel
theorem dX4_dropHandedOver_31 : decode cX4_dropHandedOver 31 = .ok (.putfield 208, 3) := by decide +kernel
theorem dX4_dropHandedOver_34 : decode cX4_dropHandedOver 34 = .ok (.iinc 1 1, 3) := by decide +kernel
theorem dX4_dropHandedOver_37 : decode cX4_dropHandedOver 37 = .ok (.goto (-35), 3) := by decide +kernel
theorem dX4_dropHandedOver_40 : decode cX4_dropHandedOver 40 = .ok (.return_, 1) := by decide +kernel
theorem dX4_endCallsWithoutBearer_0 : decode cX4_endCallsWithoutBearer 0 = .ok (.iconst 0, 1) := by decide +kernel
theorem dX4_endCallsWithoutBearer_1 : decode cX4_endCallsWithoutBearer 1 = .ok (.istore_n 1, 1) := by decide +kernel
theorem dX4_endCallsWithoutBearer_2 : decode cX4_endCallsWithoutBearer 2 = .ok (.iload_n 1, 1) := by decide +kernel
theorem dX4_endCallsWithoutBearer_3 : decode cX4_endCallsWithoutBearer 3 = .ok (.aload_n 0, 1) := by decide +kernel
theorem dX4_endCallsWithoutBearer_4 : decode cX4_endCallsWithoutBearer 4 = .ok (.getfield 12, 3) := by decide +kernel
theorem dX4_endCallsWithoutBearer_7 : decode cX4_endCallsWithoutBearer 7 = .ok (.getfield 44, 3) := by decide +kernel
theorem dX4_endCallsWithoutBearer_10 : decode cX4_endCallsWithoutBearer 10 = .ok (.if_icmp .ge 65, 3) := by decide +kernel
theorem dX4_endCallsWithoutBearer_13 : decode cX4_endCallsWithoutBearer 13 = .ok (.aload_n 0, 1) := by decide +kernel
theorem dX4_endCallsWithoutBearer_14 : decode cX4_endCallsWithoutBearer 14 = .ok (.getfield 18, 3) := by decide +kernel
theorem dX4_endCallsWithoutBearer_17 : decode cX4_endCallsWithoutBearer 17 = .ok (.iload_n 1, 1) := by decide +kernel
theorem dX4_endCallsWithoutBearer_18 : decode cX4_endCallsWithoutBearer 18 = .ok (.aaload, 1) := by decide +kernel
theorem dX4_endCallsWithoutBearer_19 : decode cX4_endCallsWithoutBearer 19 = .ok (.astore_n 2, 1) := by decide +kernel
theorem dX4_endCallsWithoutBearer_20 : decode cX4_endCallsWithoutBearer 20 = .ok (.aload_n 2, 1) := by decide +kernel
theorem dX4_endCallsWithoutBearer_21 : decode cX4_endCallsWithoutBearer 21 = .ok (.getfield 73, 3) := by decide +kernel
theorem dX4_endCallsWithoutBearer_24 : decode cX4_endCallsWithoutBearer 24 = .ok (.ifCond .eq 19, 3) := by decide +kernel
theorem dX4_endCallsWithoutBearer_27 : decode cX4_endCallsWithoutBearer 27 = .ok (.aload_n 2, 1) := by decide +kernel
theorem dX4_endCallsWithoutBearer_28 : decode cX4_endCallsWithoutBearer 28 = .ok (.getfield 73, 3) := by decide +kernel
theorem dX4_endCallsWithoutBearer_31 : decode cX4_endCallsWithoutBearer 31 = .ok (.iconst 1, 1) := by decide +kernel
theorem dX4_endCallsWithoutBearer_32 : decode cX4_endCallsWithoutBearer 32 = .ok (.if_icmp .eq 11, 3) := by decide +kernel
theorem dX4_endCallsWithoutBearer_35 : decode cX4_endCallsWithoutBearer 35 = .ok (.aload_n 2, 1) := by decide +kernel
theorem dX4_endCallsWithoutBearer_36 : decode cX4_endCallsWithoutBearer 36 = .ok (.getfield 73, 3) := by decide +kernel
theorem dX4_endCallsWithoutBearer_39 : decode cX4_endCallsWithoutBearer 39 = .ok (.iconst 4, 1) := by decide +kernel
theorem dX4_endCallsWithoutBearer_40 : decode cX4_endCallsWithoutBearer 40 = .ok (.if_icmp .ne 7, 3) := by decide +kernel
theorem dX4_endCallsWithoutBearer_43 : decode cX4_endCallsWithoutBearer 43 = .ok (.iconst 1, 1) := by decide +kernel
theorem dX4_endCallsWithoutBearer_44 : decode cX4_endCallsWithoutBearer 44 = .ok (.goto 4, 3) := by decide +kernel
theorem dX4_endCallsWithoutBearer_47 : decode cX4_endCallsWithoutBearer 47 = .ok (.iconst 0, 1) := by decide +kernel
theorem dX4_endCallsWithoutBearer_48 : decode cX4_endCallsWithoutBearer 48 = .ok (.istore_n 3, 1) := by decide +kernel
theorem dX4_endCallsWithoutBearer_49 : decode cX4_endCallsWithoutBearer 49 = .ok (.iload_n 3, 1) := by decide +kernel
theorem dX4_endCallsWithoutBearer_50 : decode cX4_endCallsWithoutBearer 50 = .ok (.ifCond .ne 19, 3) := by decide +kernel
theorem dX4_endCallsWithoutBearer_53 : decode cX4_endCallsWithoutBearer 53 = .ok (.aload_n 0, 1) := by decide +kernel
theorem dX4_endCallsWithoutBearer_54 : decode cX4_endCallsWithoutBearer 54 = .ok (.getfield 12, 3) := by decide +kernel
theorem dX4_endCallsWithoutBearer_57 : decode cX4_endCallsWithoutBearer 57 = .ok (.iload_n 1, 1) := by decide +kernel
theorem dX4_endCallsWithoutBearer_58 : decode cX4_endCallsWithoutBearer 58 = .ok (.invokevirtual 128, 3) := by decide +kernel
theorem dX4_endCallsWithoutBearer_61 : decode cX4_endCallsWithoutBearer 61 = .ok (.ifCond .ne 8, 3) := by decide +kernel
theorem dX4_endCallsWithoutBearer_64 : decode cX4_endCallsWithoutBearer 64 = .ok (.aload_n 0, 1) := by decide +kernel
theorem dX4_endCallsWithoutBearer_65 : decode cX4_endCallsWithoutBearer 65 = .ok (.aload_n 2, 1) := by decide +kernel
theorem dX4_endCallsWithoutBearer_66 : decode cX4_endCallsWithoutBearer 66 = .ok (.invokevirtual 97, 3) := by decide +kernel
theorem dX4_endCallsWithoutBearer_69 : decode cX4_endCallsWithoutBearer 69 = .ok (.iinc 1 1, 3) := by decide +kernel
theorem dX4_endCallsWithoutBearer_72 : decode cX4_endCallsWithoutBearer 72 = .ok (.goto (-70), 3) := by decide +kernel
theorem dX4_endCallsWithoutBearer_75 : decode cX4_endCallsWithoutBearer 75 = .ok (.return_, 1) := by decide +kernel
theorem dX4_advanceCalls_0 : decode cX4_advanceCalls 0 = .ok (.iconst 0, 1) := by decide +kernel
theorem dX4_advanceCalls_1 : decode cX4_advanceCalls 1 = .ok (.istore_n 1, 1) := by decide +kernel
theorem dX4_advanceCalls_2 : decode cX4_advanceCalls 2 = .ok (.iload_n 1, 1) := by decide +kernel
theorem dX4_advanceCalls_3 : decode cX4_advanceCalls 3 = .ok (.aload_n 0, 1) := by decide +kernel
theorem dX4_advanceCalls_4 : decode cX4_advanceCalls 4 = .ok (.getfield 12, 3) := by decide +kernel
theorem dX4_advanceCalls_7 : decode cX4_advanceCalls 7 = .ok (.getfield 44, 3) := by decide +kernel
theorem dX4_advanceCalls_10 : decode cX4_advanceCalls 10 = .ok (.if_icmp .ge 43, 3) := by decide +kernel
theorem dX4_advanceCalls_13 : decode cX4_advanceCalls 13 = .ok (.aload_n 0, 1) := by decide +kernel
theorem dX4_advanceCalls_14 : decode cX4_advanceCalls 14 = .ok (.getfield 12, 3) := by decide +kernel
theorem dX4_advanceCalls_17 : decode cX4_advanceCalls 17 = .ok (.iload_n 1, 1) := by decide +kernel
theorem dX4_advanceCalls_18 : decode cX4_advanceCalls 18 = .ok (.invokevirtual 259, 3) := by decide +kernel
theorem dX4_advanceCalls_21 : decode cX4_advanceCalls 21 = .ok (.ifCond .eq 26, 3) := by decide +kernel
theorem dX4_advanceCalls_24 : decode cX4_advanceCalls 24 = .ok (.aload_n 0, 1) := by decide +kernel
theorem dX4_advanceCalls_25 : decode cX4_advanceCalls 25 = .ok (.aload_n 0, 1) := by decide +kernel
theorem dX4_advanceCalls_26 : decode cX4_advanceCalls 26 = .ok (.getfield 18, 3) := by decide +kernel
theorem dX4_advanceCalls_29 : decode cX4_advanceCalls 29 = .ok (.iload_n 1, 1) := by decide +kernel
theorem dX4_advanceCalls_30 : decode cX4_advanceCalls 30 = .ok (.aaload, 1) := by decide +kernel
theorem dX4_advanceCalls_31 : decode cX4_advanceCalls 31 = .ok (.invokevirtual 262, 3) := by decide +kernel
theorem dX4_advanceCalls_34 : decode cX4_advanceCalls 34 = .ok (.ifCond .ne 13, 3) := by decide +kernel
theorem dX4_advanceCalls_37 : decode cX4_advanceCalls 37 = .ok (.aload_n 0, 1) := by decide +kernel
theorem dX4_advanceCalls_38 : decode cX4_advanceCalls 38 = .ok (.aload_n 0, 1) := by decide +kernel
theorem dX4_advanceCalls_39 : decode cX4_advanceCalls 39 = .ok (.getfield 18, 3) := by decide +kernel
theorem dX4_advanceCalls_42 : decode cX4_advanceCalls 42 = .ok (.iload_n 1, 1) := by decide +kernel
theorem dX4_advanceCalls_43 : decode cX4_advanceCalls 43 = .ok (.aaload, 1) := by decide +kernel
theorem dX4_advanceCalls_44 : decode cX4_advanceCalls 44 = .ok (.invokevirtual 97, 3) := by decide +kernel
theorem dX4_advanceCalls_47 : decode cX4_advanceCalls 47 = .ok (.iinc 1 1, 3) := by decide +kernel
theorem dX4_advanceCalls_50 : decode cX4_advanceCalls 50 = .ok (.goto (-48), 3) := by decide +kernel
theorem dX4_advanceCalls_53 : decode cX4_advanceCalls 53 = .ok (.return_, 1) := by decide +kernel
theorem dX4_advance_0 : decode cX4_advance 0 = .ok (.aload_n 1, 1) := by decide +kernel
theorem dX4_advance_1 : decode cX4_advance 1 = .ok (.getfield 73, 3) := by decide +kernel
theorem dX4_advance_4 : decode cX4_advance 4 = .ok (.tableswitch 93 1 5 #[36, 50, 93, 43, 72], 36) := by decide +kernel
theorem dX4_advance_40 : decode cX4_advance 40 = .ok (.aload_n 1, 1) := by decide +kernel
theorem dX4_advance_41 : decode cX4_advance 41 = .ok (.iconst 2, 1) := by decide +kernel
theorem dX4_advance_42 : decode cX4_advance 42 = .ok (.putfield 73, 3) := by decide +kernel
theorem dX4_advance_45 : decode cX4_advance 45 = .ok (.iconst 1, 1) := by decide +kernel
theorem dX4_advance_46 : decode cX4_advance 46 = .ok (.ireturn, 1) := by decide +kernel
theorem dX4_advance_47 : decode cX4_advance 47 = .ok (.aload_n 1, 1) := by decide +kernel
theorem dX4_advance_48 : decode cX4_advance 48 = .ok (.iconst 5, 1) := by decide +kernel
theorem dX4_advance_49 : decode cX4_advance 49 = .ok (.putfield 73, 3) := by decide +kernel
theorem dX4_advance_52 : decode cX4_advance 52 = .ok (.iconst 1, 1) := by decide +kernel
theorem dX4_advance_53 : decode cX4_advance 53 = .ok (.ireturn, 1) := by decide +kernel
theorem dX4_advance_54 : decode cX4_advance 54 = .ok (.aload_n 0, 1) := by decide +kernel
theorem dX4_advance_55 : decode cX4_advance 55 = .ok (.aload_n 1, 1) := by decide +kernel
theorem dX4_advance_56 : decode cX4_advance 56 = .ok (.invokevirtual 265, 3) := by decide +kernel
theorem dX4_advance_59 : decode cX4_advance 59 = .ok (.ifCond .eq 15, 3) := by decide +kernel
theorem dX4_advance_62 : decode cX4_advance 62 = .ok (.aload_n 0, 1) := by decide +kernel
theorem dX4_advance_63 : decode cX4_advance 63 = .ok (.aload_n 1, 1) := by decide +kernel
theorem dX4_advance_64 : decode cX4_advance 64 = .ok (.invokevirtual 268, 3) := by decide +kernel
theorem dX4_advance_67 : decode cX4_advance 67 = .ok (.ifCond .eq 7, 3) := by decide +kernel
theorem dX4_advance_70 : decode cX4_advance 70 = .ok (.iconst 1, 1) := by decide +kernel
theorem dX4_advance_71 : decode cX4_advance 71 = .ok (.goto 4, 3) := by decide +kernel
theorem dX4_advance_74 : decode cX4_advance 74 = .ok (.iconst 0, 1) := by decide +kernel
theorem dX4_advance_75 : decode cX4_advance 75 = .ok (.ireturn, 1) := by decide +kernel
theorem dX4_advance_76 : decode cX4_advance 76 = .ok (.aload_n 0, 1) := by decide +kernel
theorem dX4_advance_77 : decode cX4_advance 77 = .ok (.aload_n 1, 1) := by decide +kernel
theorem dX4_advance_78 : decode cX4_advance 78 = .ok (.invokevirtual 265, 3) := by decide +kernel
theorem dX4_advance_81 : decode cX4_advance 81 = .ok (.ifCond .eq 14, 3) := by decide +kernel
theorem dX4_advance_84 : decode cX4_advance 84 = .ok (.aload_n 1, 1) := by decide +kernel
theorem dX4_advance_85 : decode cX4_advance 85 = .ok (.invokestatic 271, 3) := by decide +kernel
theorem dX4_advance_88 : decode cX4_advance 88 = .ok (.ifCond .eq 7, 3) := by decide +kernel
theorem dX4_advance_91 : decode cX4_advance 91 = .ok (.iconst 1, 1) := by decide +kernel
theorem dX4_advance_92 : decode cX4_advance 92 = .ok (.goto 4, 3) := by decide +kernel
theorem dX4_advance_95 : decode cX4_advance 95 = .ok (.iconst 0, 1) := by decide +kernel
theorem dX4_advance_96 : decode cX4_advance 96 = .ok (.ireturn, 1) := by decide +kernel
theorem dX4_advance_97 : decode cX4_advance 97 = .ok (.iconst 1, 1) := by decide +kernel
theorem dX4_advance_98 : decode cX4_advance 98 = .ok (.ireturn, 1) := by decide +kernel
theorem dX4_pagePartner_0 : decode cX4_pagePartner 0 = .ok (.aload_n 0, 1) := by decide +kernel
theorem dX4_pagePartner_1 : decode cX4_pagePartner 1 = .ok (.aload_n 1, 1) := by decide +kernel
theorem dX4_pagePartner_2 : decode cX4_pagePartner 2 = .ok (.getfield 91, 3) := by decide +kernel
theorem dX4_pagePartner_5 : decode cX4_pagePartner 5 = .ok (.invokevirtual 69, 3) := by decide +kernel
theorem dX4_pagePartner_8 : decode cX4_pagePartner 8 = .ok (.astore_n 2, 1) := by decide +kernel
theorem dX4_pagePartner_9 : decode cX4_pagePartner 9 = .ok (.aload_n 2, 1) := by decide +kernel
theorem dX4_pagePartner_10 : decode cX4_pagePartner 10 = .ok (.ifnull 17, 3) := by decide +kernel
theorem dX4_pagePartner_13 : decode cX4_pagePartner 13 = .ok (.aload_n 2, 1) := by decide +kernel
theorem dX4_pagePartner_14 : decode cX4_pagePartner 14 = .ok (.getfield 73, 3) := by decide +kernel
theorem dX4_pagePartner_17 : decode cX4_pagePartner 17 = .ok (.ifCond .ne 10, 3) := by decide +kernel
theorem dX4_pagePartner_20 : decode cX4_pagePartner 20 = .ok (.aload_n 2, 1) := by decide +kernel
theorem dX4_pagePartner_21 : decode cX4_pagePartner 21 = .ok (.getfield 80, 3) := by decide +kernel
theorem dX4_pagePartner_24 : decode cX4_pagePartner 24 = .ok (.ifCond .ne 5, 3) := by decide +kernel
theorem dX4_pagePartner_27 : decode cX4_pagePartner 27 = .ok (.iconst 0, 1) := by decide +kernel
theorem dX4_pagePartner_28 : decode cX4_pagePartner 28 = .ok (.ireturn, 1) := by decide +kernel
theorem dX4_pagePartner_29 : decode cX4_pagePartner 29 = .ok (.aload_n 1, 1) := by decide +kernel
theorem dX4_pagePartner_30 : decode cX4_pagePartner 30 = .ok (.iconst 3, 1) := by decide +kernel
theorem dX4_pagePartner_31 : decode cX4_pagePartner 31 = .ok (.putfield 73, 3) := by decide +kernel
theorem dX4_pagePartner_34 : decode cX4_pagePartner 34 = .ok (.aload_n 2, 1) := by decide +kernel
theorem dX4_pagePartner_35 : decode cX4_pagePartner 35 = .ok (.iconst 4, 1) := by decide +kernel
theorem dX4_pagePartner_36 : decode cX4_pagePartner 36 = .ok (.aload_n 1, 1) := by decide +kernel
theorem dX4_pagePartner_37 : decode cX4_pagePartner 37 = .ok (.getfield 253, 3) := by decide +kernel
theorem dX4_pagePartner_40 : decode cX4_pagePartner 40 = .ok (.aload_n 0, 1) := by decide +kernel
theorem dX4_pagePartner_41 : decode cX4_pagePartner 41 = .ok (.getfield 84, 3) := by decide +kernel
theorem dX4_pagePartner_44 : decode cX4_pagePartner 44 = .ok (.invokevirtual 87, 3) := by decide +kernel
theorem dX4_pagePartner_47 : decode cX4_pagePartner 47 = .ok (.iconst 1, 1) := by decide +kernel
theorem dX4_pagePartner_48 : decode cX4_pagePartner 48 = .ok (.ireturn, 1) := by decide +kernel
theorem dX4_startRinging_0 : decode cX4_startRinging 0 = .ok (.aload_n 0, 1) := by decide +kernel
theorem dX4_startRinging_1 : decode cX4_startRinging 1 = .ok (.bipush 6, 2) := by decide +kernel
theorem dX4_startRinging_3 : decode cX4_startRinging 3 = .ok (.putfield 73, 3) := by decide +kernel
theorem dX4_startRinging_6 : decode cX4_startRinging 6 = .ok (.iconst 1, 1) := by decide +kernel
theorem dX4_startRinging_7 : decode cX4_startRinging 7 = .ok (.ireturn, 1) := by decide +kernel
theorem dX4_isProven_0 : decode cX4_isProven 0 = .ok (.aload_n 1, 1) := by decide +kernel
theorem dX4_isProven_1 : decode cX4_isProven 1 = .ok (.getfield 80, 3) := by decide +kernel
theorem dX4_isProven_4 : decode cX4_isProven 4 = .ok (.ifCond .eq 35, 3) := by decide +kernel
theorem dX4_isProven_7 : decode cX4_isProven 7 = .ok (.aload_n 1, 1) := by decide +kernel
theorem dX4_isProven_8 : decode cX4_isProven 8 = .ok (.getfield 274, 3) := by decide +kernel
theorem dX4_isProven_11 : decode cX4_isProven 11 = .ok (.aload_n 0, 1) := by decide +kernel
theorem dX4_isProven_12 : decode cX4_isProven 12 = .ok (.getfield 84, 3) := by decide +kernel
theorem dX4_isProven_15 : decode cX4_isProven 15 = .ok (.i2l, 1) := by decide +kernel
theorem dX4_isProven_16 : decode cX4_isProven 16 = .ok (.invokestatic 192, 3) := by decide +kernel
theorem dX4_isProven_19 : decode cX4_isProven 19 = .ok (.aload_n 1, 1) := by decide +kernel
theorem dX4_isProven_20 : decode cX4_isProven 20 = .ok (.getfield 76, 3) := by decide +kernel
theorem dX4_isProven_23 : decode cX4_isProven 23 = .ok (.aload_n 0, 1) := by decide +kernel
theorem dX4_isProven_24 : decode cX4_isProven 24 = .ok (.getfield 84, 3) := by decide +kernel
theorem dX4_isProven_27 : decode cX4_isProven 27 = .ok (.i2l, 1) := by decide +kernel
theorem dX4_isProven_28 : decode cX4_isProven 28 = .ok (.invokestatic 192, 3) := by decide +kernel
theorem dX4_isProven_31 : decode cX4_isProven 31 = .ok (.lcmp, 1) := by decide +kernel
theorem dX4_isProven_32 : decode cX4_isProven 32 = .ok (.ifCond .ne 7, 3) := by decide +kernel
theorem dX4_isProven_35 : decode cX4_isProven 35 = .ok (.iconst 1, 1) := by decide +kernel
theorem dX4_isProven_36 : decode cX4_isProven 36 = .ok (.goto 4, 3) := by decide +kernel
theorem dX4_isProven_39 : decode cX4_isProven 39 = .ok (.iconst 0, 1) := by decide +kernel
theorem dX4_isProven_40 : decode cX4_isProven 40 = .ok (.ireturn, 1) := by decide +kernel
theorem dX4_carryUp_0 : decode cX4_carryUp 0 = .ok (.iconst 0, 1) := by decide +kernel
theorem dX4_carryUp_1 : decode cX4_carryUp 1 = .ok (.istore_n 1, 1) := by decide +kernel
theorem dX4_carryUp_2 : decode cX4_carryUp 2 = .ok (.iload_n 1, 1) := by decide +kernel
theorem dX4_carryUp_3 : decode cX4_carryUp 3 = .ok (.aload_n 0, 1) := by decide +kernel
theorem dX4_carryUp_4 : decode cX4_carryUp 4 = .ok (.getfield 12, 3) := by decide +kernel
theorem dX4_carryUp_7 : decode cX4_carryUp 7 = .ok (.getfield 44, 3) := by decide +kernel
theorem dX4_carryUp_10 : decode cX4_carryUp 10 = .ok (.if_icmp .ge 30, 3) := by decide +kernel
theorem dX4_carryUp_13 : decode cX4_carryUp 13 = .ok (.aload_n 0, 1) := by decide +kernel
theorem dX4_carryUp_14 : decode cX4_carryUp 14 = .ok (.getfield 18, 3) := by decide +kernel
theorem dX4_carryUp_17 : decode cX4_carryUp 17 = .ok (.iload_n 1, 1) := by decide +kernel
theorem dX4_carryUp_18 : decode cX4_carryUp 18 = .ok (.aaload, 1) := by decide +kernel
theorem dX4_carryUp_19 : decode cX4_carryUp 19 = .ok (.aload_n 0, 1) := by decide +kernel
theorem dX4_carryUp_20 : decode cX4_carryUp 20 = .ok (.getfield 18, 3) := by decide +kernel
theorem dX4_carryUp_23 : decode cX4_carryUp 23 = .ok (.iload_n 1, 1) := by decide +kernel
theorem dX4_carryUp_24 : decode cX4_carryUp 24 = .ok (.aaload, 1) := by decide +kernel
theorem dX4_carryUp_25 : decode cX4_carryUp 25 = .ok (.getfield 134, 3) := by decide +kernel
theorem dX4_carryUp_28 : decode cX4_carryUp 28 = .ok (.getfield 111, 3) := by decide +kernel
theorem dX4_carryUp_31 : decode cX4_carryUp 31 = .ok (.putfield 277, 3) := by decide +kernel
theorem dX4_carryUp_34 : decode cX4_carryUp 34 = .ok (.iinc 1 1, 3) := by decide +kernel
theorem dX4_carryUp_37 : decode cX4_carryUp 37 = .ok (.goto (-35), 3) := by decide +kernel
theorem dX4_carryUp_40 : decode cX4_carryUp 40 = .ok (.iconst 0, 1) := by decide +kernel
theorem dX4_carryUp_41 : decode cX4_carryUp 41 = .ok (.istore_n 1, 1) := by decide +kernel
theorem dX4_carryUp_42 : decode cX4_carryUp 42 = .ok (.iload_n 1, 1) := by decide +kernel
theorem dX4_carryUp_43 : decode cX4_carryUp 43 = .ok (.aload_n 0, 1) := by decide +kernel
theorem dX4_carryUp_44 : decode cX4_carryUp 44 = .ok (.getfield 12, 3) := by decide +kernel
theorem dX4_carryUp_47 : decode cX4_carryUp 47 = .ok (.getfield 44, 3) := by decide +kernel
theorem dX4_carryUp_50 : decode cX4_carryUp 50 = .ok (.if_icmp .ge 32, 3) := by decide +kernel
theorem dX4_carryUp_53 : decode cX4_carryUp 53 = .ok (.aload_n 0, 1) := by decide +kernel
theorem dX4_carryUp_54 : decode cX4_carryUp 54 = .ok (.aload_n 0, 1) := by decide +kernel
theorem dX4_carryUp_55 : decode cX4_carryUp 55 = .ok (.getfield 18, 3) := by decide +kernel
theorem dX4_carryUp_58 : decode cX4_carryUp 58 = .ok (.iload_n 1, 1) := by decide +kernel
theorem dX4_carryUp_59 : decode cX4_carryUp 59 = .ok (.aaload, 1) := by decide +kernel
theorem dX4_carryUp_60 : decode cX4_carryUp 60 = .ok (.invokevirtual 280, 3) := by decide +kernel
theorem dX4_carryUp_63 : decode cX4_carryUp 63 = .ok (.ifCond .eq 13, 3) := by decide +kernel
theorem dX4_carryUp_66 : decode cX4_carryUp 66 = .ok (.aload_n 0, 1) := by decide +kernel
theorem dX4_carryUp_67 : decode cX4_carryUp 67 = .ok (.aload_n 0, 1) := by decide +kernel
theorem dX4_carryUp_68 : decode cX4_carryUp 68 = .ok (.getfield 18, 3) := by decide +kernel
theorem dX4_carryUp_71 : decode cX4_carryUp 71 = .ok (.iload_n 1, 1) := by decide +kernel
theorem dX4_carryUp_72 : decode cX4_carryUp 72 = .ok (.aaload, 1) := by decide +kernel
theorem dX4_carryUp_73 : decode cX4_carryUp 73 = .ok (.invokevirtual 283, 3) := by decide +kernel
theorem dX4_carryUp_76 : decode cX4_carryUp 76 = .ok (.iinc 1 1, 3) := by decide +kernel
theorem dX4_carryUp_79 : decode cX4_carryUp 79 = .ok (.goto (-37), 3) := by decide +kernel
theorem dX4_carryUp_82 : decode cX4_carryUp 82 = .ok (.return_, 1) := by decide +kernel
theorem dX4_sendUp_0 : decode cX4_sendUp 0 = .ok (.aload_n 0, 1) := by decide +kernel
theorem dX4_sendUp_1 : decode cX4_sendUp 1 = .ok (.aload_n 1, 1) := by decide +kernel
theorem dX4_sendUp_2 : decode cX4_sendUp 2 = .ok (.getfield 91, 3) := by decide +kernel
theorem dX4_sendUp_5 : decode cX4_sendUp 5 = .ok (.invokevirtual 69, 3) := by decide +kernel
theorem dX4_sendUp_8 : decode cX4_sendUp 8 = .ok (.astore_n 2, 1) := by decide +kernel
theorem dX4_sendUp_9 : decode cX4_sendUp 9 = .ok (.aload_n 2, 1) := by decide +kernel
theorem dX4_sendUp_10 : decode cX4_sendUp 10 = .ok (.ifnull 13, 3) := by decide +kernel
theorem dX4_sendUp_13 : decode cX4_sendUp 13 = .ok (.aload_n 1, 1) := by decide +kernel
theorem dX4_sendUp_14 : decode cX4_sendUp 14 = .ok (.getfield 101, 3) := by decide +kernel
theorem dX4_sendUp_17 : decode cX4_sendUp 17 = .ok (.getfield 111, 3) := by decide +kernel
theorem dX4_sendUp_20 : decode cX4_sendUp 20 = .ok (.ifCond .ne 4, 3) := by decide +kernel
theorem dX4_sendUp_23 : decode cX4_sendUp 23 = .ok (.return_, 1) := by decide +kernel
theorem dX4_sendUp_24 : decode cX4_sendUp 24 = .ok (.aload_n 0, 1) := by decide +kernel
theorem dX4_sendUp_25 : decode cX4_sendUp 25 = .ok (.aload_n 1, 1) := by decide +kernel
theorem dX4_sendUp_26 : decode cX4_sendUp 26 = .ok (.getfield 101, 3) := by decide +kernel
theorem dX4_sendUp_29 : decode cX4_sendUp 29 = .ok (.invokevirtual 286, 3) := by decide +kernel
theorem dX4_sendUp_32 : decode cX4_sendUp 32 = .ok (.aload_n 1, 1) := by decide +kernel
theorem dX4_sendUp_33 : decode cX4_sendUp 33 = .ok (.getfield 274, 3) := by decide +kernel
theorem dX4_sendUp_36 : decode cX4_sendUp 36 = .ok (.aload_n 0, 1) := by decide +kernel
theorem dX4_sendUp_37 : decode cX4_sendUp 37 = .ok (.getfield 84, 3) := by decide +kernel
theorem dX4_sendUp_40 : decode cX4_sendUp 40 = .ok (.i2l, 1) := by decide +kernel
theorem dX4_sendUp_41 : decode cX4_sendUp 41 = .ok (.invokestatic 192, 3) := by decide +kernel
theorem dX4_sendUp_44 : decode cX4_sendUp 44 = .ok (.lxor, 1) := by decide +kernel
theorem dX4_sendUp_45 : decode cX4_sendUp 45 = .ok (.putfield 196, 3) := by decide +kernel
theorem dX4_sendUp_48 : decode cX4_sendUp 48 = .ok (.aload_n 0, 1) := by decide +kernel
theorem dX4_sendUp_49 : decode cX4_sendUp 49 = .ok (.dup, 1) := by decide +kernel
theorem dX4_sendUp_50 : decode cX4_sendUp 50 = .ok (.getfield 211, 3) := by decide +kernel
theorem dX4_sendUp_53 : decode cX4_sendUp 53 = .ok (.iconst 1, 1) := by decide +kernel
theorem dX4_sendUp_54 : decode cX4_sendUp 54 = .ok (.iadd, 1) := by decide +kernel
theorem dX4_sendUp_55 : decode cX4_sendUp 55 = .ok (.putfield 211, 3) := by decide +kernel
theorem dX4_sendUp_58 : decode cX4_sendUp 58 = .ok (.aload_n 2, 1) := by decide +kernel
theorem dX4_sendUp_59 : decode cX4_sendUp 59 = .ok (.getfield 134, 3) := by decide +kernel
theorem dX4_sendUp_62 : decode cX4_sendUp 62 = .ok (.aload_n 0, 1) := by decide +kernel
theorem dX4_sendUp_63 : decode cX4_sendUp 63 = .ok (.getfield 196, 3) := by decide +kernel
theorem dX4_sendUp_66 : decode cX4_sendUp 66 = .ok (.aload_n 1, 1) := by decide +kernel
theorem dX4_sendUp_67 : decode cX4_sendUp 67 = .ok (.getfield 76, 3) := by decide +kernel
theorem dX4_sendUp_70 : decode cX4_sendUp 70 = .ok (.aload_n 0, 1) := by decide +kernel
theorem dX4_sendUp_71 : decode cX4_sendUp 71 = .ok (.getfield 84, 3) := by decide +kernel
theorem dX4_sendUp_74 : decode cX4_sendUp 74 = .ok (.i2l, 1) := by decide +kernel
theorem dX4_sendUp_75 : decode cX4_sendUp 75 = .ok (.invokestatic 192, 3) := by decide +kernel
theorem dX4_sendUp_78 : decode cX4_sendUp 78 = .ok (.lxor, 1) := by decide +kernel
theorem dX4_sendUp_79 : decode cX4_sendUp 79 = .ok (.invokevirtual 105, 3) := by decide +kernel
theorem dX4_sendUp_82 : decode cX4_sendUp 82 = .ok (.pop, 1) := by decide +kernel
theorem dX4_sendUp_83 : decode cX4_sendUp 83 = .ok (.return_, 1) := by decide +kernel
theorem dX4_carryDown_0 : decode cX4_carryDown 0 = .ok (.iconst 0, 1) := by decide +kernel
theorem dX4_carryDown_1 : decode cX4_carryDown 1 = .ok (.istore_n 1, 1) := by decide +kernel
theorem dX4_carryDown_2 : decode cX4_carryDown 2 = .ok (.iload_n 1, 1) := by decide +kernel
theorem dX4_carryDown_3 : decode cX4_carryDown 3 = .ok (.aload_n 0, 1) := by decide +kernel
theorem dX4_carryDown_4 : decode cX4_carryDown 4 = .ok (.getfield 12, 3) := by decide +kernel
theorem dX4_carryDown_7 : decode cX4_carryDown 7 = .ok (.getfield 44, 3) := by decide +kernel
theorem dX4_carryDown_10 : decode cX4_carryDown 10 = .ok (.if_icmp .ge 44, 3) := by decide +kernel
theorem dX4_carryDown_13 : decode cX4_carryDown 13 = .ok (.aload_n 0, 1) := by decide +kernel
theorem dX4_carryDown_14 : decode cX4_carryDown 14 = .ok (.aload_n 0, 1) := by decide +kernel
theorem dX4_carryDown_15 : decode cX4_carryDown 15 = .ok (.getfield 18, 3) := by decide +kernel
theorem dX4_carryDown_18 : decode cX4_carryDown 18 = .ok (.iload_n 1, 1) := by decide +kernel
theorem dX4_carryDown_19 : decode cX4_carryDown 19 = .ok (.aaload, 1) := by decide +kernel
theorem dX4_carryDown_20 : decode cX4_carryDown 20 = .ok (.invokevirtual 280, 3) := by decide +kernel
theorem dX4_carryDown_23 : decode cX4_carryDown 23 = .ok (.ifCond .eq 25, 3) := by decide +kernel
theorem dX4_carryDown_26 : decode cX4_carryDown 26 = .ok (.aload_n 0, 1) := by decide +kernel
theorem dX4_carryDown_27 : decode cX4_carryDown 27 = .ok (.getfield 18, 3) := by decide +kernel
theorem dX4_carryDown_30 : decode cX4_carryDown 30 = .ok (.iload_n 1, 1) := by decide +kernel
theorem dX4_carryDown_31 : decode cX4_carryDown 31 = .ok (.aaload, 1) := by decide +kernel
theorem dX4_carryDown_32 : decode cX4_carryDown 32 = .ok (.getfield 277, 3) := by decide +kernel
theorem dX4_carryDown_35 : decode cX4_carryDown 35 = .ok (.ifCond .le 13, 3) := by decide +kernel
theorem dX4_carryDown_38 : decode cX4_carryDown 38 = .ok (.aload_n 0, 1) := by decide +kernel
theorem dX4_carryDown_39 : decode cX4_carryDown 39 = .ok (.aload_n 0, 1) := by decide +kernel
theorem dX4_carryDown_40 : decode cX4_carryDown 40 = .ok (.getfield 18, 3) := by decide +kernel
theorem dX4_carryDown_43 : decode cX4_carryDown 43 = .ok (.iload_n 1, 1) := by decide +kernel
theorem dX4_carryDown_44 : decode cX4_carryDown 44 = .ok (.aaload, 1) := by decide +kernel
theorem dX4_carryDown_45 : decode cX4_carryDown 45 = .ok (.invokevirtual 290, 3) := by decide +kernel
theorem dX4_carryDown_48 : decode cX4_carryDown 48 = .ok (.iinc 1 1, 3) := by decide +kernel
theorem dX4_carryDown_51 : decode cX4_carryDown 51 = .ok (.goto (-49), 3) := by decide +kernel
theorem dX4_carryDown_54 : decode cX4_carryDown 54 = .ok (.return_, 1) := by decide +kernel
theorem dX4_sendDown_0 : decode cX4_sendDown 0 = .ok (.aload_n 0, 1) := by decide +kernel
theorem dX4_sendDown_1 : decode cX4_sendDown 1 = .ok (.getfield 84, 3) := by decide +kernel
theorem dX4_sendDown_4 : decode cX4_sendDown 4 = .ok (.ldc_w 293, 3) := by decide +kernel
theorem dX4_sendDown_7 : decode cX4_sendDown 7 = .ok (.iadd, 1) := by decide +kernel
theorem dX4_sendDown_8 : decode cX4_sendDown 8 = .ok (.i2l, 1) := by decide +kernel
theorem dX4_sendDown_9 : decode cX4_sendDown 9 = .ok (.lstore_n 2, 1) := by decide +kernel
theorem dX4_sendDown_10 : decode cX4_sendDown 10 = .ok (.aload_n 0, 1) := by decide +kernel
theorem dX4_sendDown_11 : decode cX4_sendDown 11 = .ok (.aload_n 1, 1) := by decide +kernel
theorem dX4_sendDown_12 : decode cX4_sendDown 12 = .ok (.getfield 134, 3) := by decide +kernel
theorem dX4_sendDown_15 : decode cX4_sendDown 15 = .ok (.invokevirtual 286, 3) := by decide +kernel
theorem dX4_sendDown_18 : decode cX4_sendDown 18 = .ok (.aload_n 1, 1) := by decide +kernel
theorem dX4_sendDown_19 : decode cX4_sendDown 19 = .ok (.getfield 76, 3) := by decide +kernel
theorem dX4_sendDown_22 : decode cX4_sendDown 22 = .ok (.lload_n 2, 1) := by decide +kernel
theorem dX4_sendDown_23 : decode cX4_sendDown 23 = .ok (.invokestatic 192, 3) := by decide +kernel
theorem dX4_sendDown_26 : decode cX4_sendDown 26 = .ok (.lxor, 1) := by decide +kernel
theorem dX4_sendDown_27 : decode cX4_sendDown 27 = .ok (.putfield 199, 3) := by decide +kernel
theorem dX4_sendDown_30 : decode cX4_sendDown 30 = .ok (.aload_n 1, 1) := by decide +kernel
theorem dX4_sendDown_31 : decode cX4_sendDown 31 = .ok (.aload_n 0, 1) := by decide +kernel
theorem dX4_sendDown_32 : decode cX4_sendDown 32 = .ok (.getfield 199, 3) := by decide +kernel
theorem dX4_sendDown_35 : decode cX4_sendDown 35 = .ok (.aload_n 1, 1) := by decide +kernel
theorem dX4_sendDown_36 : decode cX4_sendDown 36 = .ok (.getfield 274, 3) := by decide +kernel
theorem dX4_sendDown_39 : decode cX4_sendDown 39 = .ok (.lload_n 2, 1) := by decide +kernel
theorem dX4_sendDown_40 : decode cX4_sendDown 40 = .ok (.invokestatic 192, 3) := by decide +kernel
theorem dX4_sendDown_43 : decode cX4_sendDown 43 = .ok (.lxor, 1) := by decide +kernel
theorem dX4_sendDown_44 : decode cX4_sendDown 44 = .ok (.invokevirtual 294, 3) := by decide +kernel
theorem dX4_sendDown_47 : decode cX4_sendDown 47 = .ok (.aload_n 0, 1) := by decide +kernel
theorem dX4_sendDown_48 : decode cX4_sendDown 48 = .ok (.dup, 1) := by decide +kernel
theorem dX4_sendDown_49 : decode cX4_sendDown 49 = .ok (.getfield 115, 3) := by decide +kernel
theorem dX4_sendDown_52 : decode cX4_sendDown 52 = .ok (.iconst 1, 1) := by decide +kernel
theorem dX4_sendDown_53 : decode cX4_sendDown 53 = .ok (.iadd, 1) := by decide +kernel
theorem dX4_sendDown_54 : decode cX4_sendDown 54 = .ok (.putfield 115, 3) := by decide +kernel
theorem dX4_sendDown_57 : decode cX4_sendDown 57 = .ok (.return_, 1) := by decide +kernel
theorem dX4_canTalk_0 : decode cX4_canTalk 0 = .ok (.aload_n 1, 1) := by decide +kernel
theorem dX4_canTalk_1 : decode cX4_canTalk 1 = .ok (.getfield 73, 3) := by decide +kernel
theorem dX4_canTalk_4 : decode cX4_canTalk 4 = .ok (.bipush 7, 2) := by decide +kernel
theorem dX4_canTalk_6 : decode cX4_canTalk 6 = .ok (.if_icmp .ne 21, 3) := by decide +kernel
theorem dX4_canTalk_9 : decode cX4_canTalk 9 = .ok (.aload_n 0, 1) := by decide +kernel
theorem dX4_canTalk_10 : decode cX4_canTalk 10 = .ok (.getfield 12, 3) := by decide +kernel
theorem dX4_canTalk_13 : decode cX4_canTalk 13 = .ok (.aload_n 1, 1) := by decide +kernel
theorem dX4_canTalk_14 : decode cX4_canTalk 14 = .ok (.getfield 253, 3) := by decide +kernel
theorem dX4_canTalk_17 : decode cX4_canTalk 17 = .ok (.invokevirtual 259, 3) := by decide +kernel
theorem dX4_canTalk_20 : decode cX4_canTalk 20 = .ok (.ifCond .eq 7, 3) := by decide +kernel
theorem dX4_canTalk_23 : decode cX4_canTalk 23 = .ok (.iconst 1, 1) := by decide +kernel
theorem dX4_canTalk_24 : decode cX4_canTalk 24 = .ok (.goto 4, 3) := by decide +kernel
theorem dX4_canTalk_27 : decode cX4_canTalk 27 = .ok (.iconst 0, 1) := by decide +kernel
theorem dX4_canTalk_28 : decode cX4_canTalk 28 = .ok (.ireturn, 1) := by decide +kernel
theorem dX4_endOldCalls_0 : decode cX4_endOldCalls 0 = .ok (.iconst 0, 1) := by decide +kernel
theorem dX4_endOldCalls_1 : decode cX4_endOldCalls 1 = .ok (.istore_n 1, 1) := by decide +kernel
theorem dX4_endOldCalls_2 : decode cX4_endOldCalls 2 = .ok (.iload_n 1, 1) := by decide +kernel
theorem dX4_endOldCalls_3 : decode cX4_endOldCalls 3 = .ok (.aload_n 0, 1) := by decide +kernel
theorem dX4_endOldCalls_4 : decode cX4_endOldCalls 4 = .ok (.getfield 12, 3) := by decide +kernel
theorem dX4_endOldCalls_7 : decode cX4_endOldCalls 7 = .ok (.getfield 44, 3) := by decide +kernel
theorem dX4_endOldCalls_10 : decode cX4_endOldCalls 10 = .ok (.if_icmp .ge 43, 3) := by decide +kernel
theorem dX4_endOldCalls_13 : decode cX4_endOldCalls 13 = .ok (.aload_n 0, 1) := by decide +kernel
theorem dX4_endOldCalls_14 : decode cX4_endOldCalls 14 = .ok (.getfield 18, 3) := by decide +kernel
theorem dX4_endOldCalls_17 : decode cX4_endOldCalls 17 = .ok (.iload_n 1, 1) := by decide +kernel
theorem dX4_endOldCalls_18 : decode cX4_endOldCalls 18 = .ok (.aaload, 1) := by decide +kernel
theorem dX4_endOldCalls_19 : decode cX4_endOldCalls 19 = .ok (.astore_n 2, 1) := by decide +kernel
theorem dX4_endOldCalls_20 : decode cX4_endOldCalls 20 = .ok (.aload_n 2, 1) := by decide +kernel
theorem dX4_endOldCalls_21 : decode cX4_endOldCalls 21 = .ok (.invokevirtual 140, 3) := by decide +kernel
theorem dX4_endOldCalls_24 : decode cX4_endOldCalls 24 = .ok (.ifCond .eq 23, 3) := by decide +kernel
theorem dX4_endOldCalls_27 : decode cX4_endOldCalls 27 = .ok (.aload_n 0, 1) := by decide +kernel
theorem dX4_endOldCalls_28 : decode cX4_endOldCalls 28 = .ok (.getfield 84, 3) := by decide +kernel
theorem dX4_endOldCalls_31 : decode cX4_endOldCalls 31 = .ok (.aload_n 2, 1) := by decide +kernel
theorem dX4_endOldCalls_32 : decode cX4_endOldCalls 32 = .ok (.getfield 144, 3) := by decide +kernel
theorem dX4_endOldCalls_35 : decode cX4_endOldCalls 35 = .ok (.isub, 1) := by decide +kernel
theorem dX4_endOldCalls_36 : decode cX4_endOldCalls 36 = .ok (.sipush 200, 3) := by decide +kernel
theorem dX4_endOldCalls_39 : decode cX4_endOldCalls 39 = .ok (.if_icmp .le 8, 3) := by decide +kernel
theorem dX4_endOldCalls_42 : decode cX4_endOldCalls 42 = .ok (.aload_n 0, 1) := by decide +kernel
theorem dX4_endOldCalls_43 : decode cX4_endOldCalls 43 = .ok (.aload_n 2, 1) := by decide +kernel
theorem dX4_endOldCalls_44 : decode cX4_endOldCalls 44 = .ok (.invokevirtual 97, 3) := by decide +kernel
theorem dX4_endOldCalls_47 : decode cX4_endOldCalls 47 = .ok (.iinc 1 1, 3) := by decide +kernel
theorem dX4_endOldCalls_50 : decode cX4_endOldCalls 50 = .ok (.goto (-48), 3) := by decide +kernel
theorem dX4_endOldCalls_53 : decode cX4_endOldCalls 53 = .ok (.return_, 1) := by decide +kernel
theorem dX4_endCall_0 : decode cX4_endCall 0 = .ok (.aload_n 0, 1) := by decide +kernel
theorem dX4_endCall_1 : decode cX4_endCall 1 = .ok (.aload_n 1, 1) := by decide +kernel
theorem dX4_endCall_2 : decode cX4_endCall 2 = .ok (.getfield 91, 3) := by decide +kernel
theorem dX4_endCall_5 : decode cX4_endCall 5 = .ok (.invokevirtual 69, 3) := by decide +kernel
theorem dX4_endCall_8 : decode cX4_endCall 8 = .ok (.astore_n 2, 1) := by decide +kernel
theorem dX4_endCall_9 : decode cX4_endCall 9 = .ok (.aload_n 2, 1) := by decide +kernel
theorem dX4_endCall_10 : decode cX4_endCall 10 = .ok (.ifnull 16, 3) := by decide +kernel
theorem dX4_endCall_13 : decode cX4_endCall 13 = .ok (.aload_n 1, 1) := by decide +kernel
theorem dX4_endCall_14 : decode cX4_endCall 14 = .ok (.aload_n 2, 1) := by decide +kernel
theorem dX4_endCall_15 : decode cX4_endCall 15 = .ok (.invokestatic 298, 3) := by decide +kernel
theorem dX4_endCall_18 : decode cX4_endCall 18 = .ok (.ifCond .eq 8, 3) := by decide +kernel
theorem dX4_endCall_21 : decode cX4_endCall 21 = .ok (.aload_n 0, 1) := by decide +kernel
theorem dX4_endCall_22 : decode cX4_endCall 22 = .ok (.aload_n 2, 1) := by decide +kernel
theorem dX4_endCall_23 : decode cX4_endCall 23 = .ok (.invokevirtual 302, 3) := by decide +kernel
theorem dX4_endCall_26 : decode cX4_endCall 26 = .ok (.aload_n 0, 1) := by decide +kernel
theorem dX4_endCall_27 : decode cX4_endCall 27 = .ok (.aload_n 1, 1) := by decide +kernel
theorem dX4_endCall_28 : decode cX4_endCall 28 = .ok (.invokevirtual 302, 3) := by decide +kernel
theorem dX4_endCall_31 : decode cX4_endCall 31 = .ok (.aload_n 0, 1) := by decide +kernel
theorem dX4_endCall_32 : decode cX4_endCall 32 = .ok (.dup, 1) := by decide +kernel
theorem dX4_endCall_33 : decode cX4_endCall 33 = .ok (.getfield 205, 3) := by decide +kernel
theorem dX4_endCall_36 : decode cX4_endCall 36 = .ok (.iconst 1, 1) := by decide +kernel
theorem dX4_endCall_37 : decode cX4_endCall 37 = .ok (.iadd, 1) := by decide +kernel
theorem dX4_endCall_38 : decode cX4_endCall 38 = .ok (.putfield 205, 3) := by decide +kernel
theorem dX4_endCall_41 : decode cX4_endCall 41 = .ok (.return_, 1) := by decide +kernel
theorem dX4_isOneCall_0 : decode cX4_isOneCall 0 = .ok (.aload_n 1, 1) := by decide +kernel
theorem dX4_isOneCall_1 : decode cX4_isOneCall 1 = .ok (.getfield 91, 3) := by decide +kernel
theorem dX4_isOneCall_4 : decode cX4_isOneCall 4 = .ok (.aload_n 0, 1) := by decide +kernel
theorem dX4_isOneCall_5 : decode cX4_isOneCall 5 = .ok (.getfield 253, 3) := by decide +kernel
theorem dX4_isOneCall_8 : decode cX4_isOneCall 8 = .ok (.if_icmp .eq 5, 3) := by decide +kernel
theorem dX4_isOneCall_11 : decode cX4_isOneCall 11 = .ok (.iconst 0, 1) := by decide +kernel
theorem dX4_isOneCall_12 : decode cX4_isOneCall 12 = .ok (.ireturn, 1) := by decide +kernel
theorem dX4_isOneCall_13 : decode cX4_isOneCall 13 = .ok (.aload_n 0, 1) := by decide +kernel
theorem dX4_isOneCall_14 : decode cX4_isOneCall 14 = .ok (.invokevirtual 305, 3) := by decide +kernel
theorem dX4_isOneCall_17 : decode cX4_isOneCall 17 = .ok (.ifCond .eq 10, 3) := by decide +kernel
theorem dX4_isOneCall_20 : decode cX4_isOneCall 20 = .ok (.aload_n 1, 1) := by decide +kernel
theorem dX4_isOneCall_21 : decode cX4_isOneCall 21 = .ok (.invokevirtual 308, 3) := by decide +kernel
theorem dX4_isOneCall_24 : decode cX4_isOneCall 24 = .ok (.ifCond .ne 35, 3) := by decide +kernel
theorem dX4_isOneCall_27 : decode cX4_isOneCall 27 = .ok (.aload_n 0, 1) := by decide +kernel
theorem dX4_isOneCall_28 : decode cX4_isOneCall 28 = .ok (.invokevirtual 308, 3) := by decide +kernel
theorem dX4_isOneCall_31 : decode cX4_isOneCall 31 = .ok (.ifCond .eq 10, 3) := by decide +kernel
theorem dX4_isOneCall_34 : decode cX4_isOneCall 34 = .ok (.aload_n 1, 1) := by decide +kernel
theorem dX4_isOneCall_35 : decode cX4_isOneCall 35 = .ok (.invokevirtual 305, 3) := by decide +kernel
theorem dX4_isOneCall_38 : decode cX4_isOneCall 38 = .ok (.ifCond .ne 21, 3) := by decide +kernel
theorem dX4_isOneCall_41 : decode cX4_isOneCall 41 = .ok (.aload_n 0, 1) := by decide +kernel
theorem dX4_isOneCall_42 : decode cX4_isOneCall 42 = .ok (.getfield 73, 3) := by decide +kernel
theorem dX4_isOneCall_45 : decode cX4_isOneCall 45 = .ok (.bipush 7, 2) := by decide +kernel
theorem dX4_isOneCall_47 : decode cX4_isOneCall 47 = .ok (.if_icmp .ne 16, 3) := by decide +kernel
theorem dX4_isOneCall_50 : decode cX4_isOneCall 50 = .ok (.aload_n 1, 1) := by decide +kernel
theorem dX4_isOneCall_51 : decode cX4_isOneCall 51 = .ok (.getfield 73, 3) := by decide +kernel
theorem dX4_isOneCall_54 : decode cX4_isOneCall 54 = .ok (.bipush 7, 2) := by decide +kernel
theorem dX4_isOneCall_56 : decode cX4_isOneCall 56 = .ok (.if_icmp .ne 7, 3) := by decide +kernel
theorem dX4_isOneCall_59 : decode cX4_isOneCall 59 = .ok (.iconst 1, 1) := by decide +kernel
theorem dX4_isOneCall_60 : decode cX4_isOneCall 60 = .ok (.goto 4, 3) := by decide +kernel
theorem dX4_isOneCall_63 : decode cX4_isOneCall 63 = .ok (.iconst 0, 1) := by decide +kernel
theorem dX4_isOneCall_64 : decode cX4_isOneCall 64 = .ok (.ireturn, 1) := by decide +kernel
theorem dX4_release_0 : decode cX4_release 0 = .ok (.aload_n 1, 1) := by decide +kernel
theorem dX4_release_1 : decode cX4_release 1 = .ok (.invokevirtual 311, 3) := by decide +kernel
theorem dX4_release_4 : decode cX4_release 4 = .ok (.aload_n 0, 1) := by decide +kernel
theorem dX4_release_5 : decode cX4_release 5 = .ok (.getfield 12, 3) := by decide +kernel
theorem dX4_release_8 : decode cX4_release 8 = .ok (.aload_n 1, 1) := by decide +kernel
theorem dX4_release_9 : decode cX4_release 9 = .ok (.getfield 253, 3) := by decide +kernel
theorem dX4_release_12 : decode cX4_release 12 = .ok (.invokevirtual 314, 3) := by decide +kernel
theorem dX4_release_15 : decode cX4_release 15 = .ok (.return_, 1) := by decide +kernel
theorem dX5_init_0 : decode cX5_init 0 = .ok (.aload_n 0, 1) := by decide +kernel
theorem dX5_init_1 : decode cX5_init 1 = .ok (.invokespecial 1, 3) := by decide +kernel
theorem dX5_init_4 : decode cX5_init 4 = .ok (.aload_n 0, 1) := by decide +kernel
theorem dX5_init_5 : decode cX5_init 5 = .ok (.iconst 4, 1) := by decide +kernel
theorem dX5_init_6 : decode cX5_init 6 = .ok (.newarray .int, 2) := by decide +kernel
theorem dX5_init_8 : decode cX5_init 8 = .ok (.putfield 7, 3) := by decide +kernel
theorem dX5_init_11 : decode cX5_init 11 = .ok (.aload_n 0, 1) := by decide +kernel
theorem dX5_init_12 : decode cX5_init 12 = .ok (.bipush 8, 2) := by decide +kernel
theorem dX5_init_14 : decode cX5_init 14 = .ok (.newarray .int, 2) := by decide +kernel
theorem dX5_init_16 : decode cX5_init 16 = .ok (.putfield 13, 3) := by decide +kernel
theorem dX5_init_19 : decode cX5_init 19 = .ok (.aload_n 0, 1) := by decide +kernel
theorem dX5_init_20 : decode cX5_init 20 = .ok (.bipush 8, 2) := by decide +kernel
theorem dX5_init_22 : decode cX5_init 22 = .ok (.newarray .long, 2) := by decide +kernel
theorem dX5_init_24 : decode cX5_init 24 = .ok (.putfield 16, 3) := by decide +kernel
theorem dX5_init_27 : decode cX5_init 27 = .ok (.aload_n 0, 1) := by decide +kernel
theorem dX5_init_28 : decode cX5_init 28 = .ok (.bipush 8, 2) := by decide +kernel
theorem dX5_init_30 : decode cX5_init 30 = .ok (.newarray .boolean, 2) := by decide +kernel
theorem dX5_init_32 : decode cX5_init 32 = .ok (.putfield 20, 3) := by decide +kernel
theorem dX5_init_35 : decode cX5_init 35 = .ok (.aload_n 0, 1) := by decide +kernel
theorem dX5_init_36 : decode cX5_init 36 = .ok (.bipush 8, 2) := by decide +kernel
theorem dX5_init_38 : decode cX5_init 38 = .ok (.newarray .long, 2) := by decide +kernel
theorem dX5_init_40 : decode cX5_init 40 = .ok (.putfield 24, 3) := by decide +kernel
theorem dX5_init_43 : decode cX5_init 43 = .ok (.aload_n 0, 1) := by decide +kernel
theorem dX5_init_44 : decode cX5_init 44 = .ok (.bipush 8, 2) := by decide +kernel
theorem dX5_init_46 : decode cX5_init 46 = .ok (.newarray .int, 2) := by decide +kernel
theorem dX5_init_48 : decode cX5_init 48 = .ok (.putfield 27, 3) := by decide +kernel
theorem dX5_init_51 : decode cX5_init 51 = .ok (.aload_n 0, 1) := by decide +kernel
theorem dX5_init_52 : decode cX5_init 52 = .ok (.bipush 8, 2) := by decide +kernel
theorem dX5_init_54 : decode cX5_init 54 = .ok (.newarray .int, 2) := by decide +kernel
theorem dX5_init_56 : decode cX5_init 56 = .ok (.putfield 30, 3) := by decide +kernel
theorem dX5_init_59 : decode cX5_init 59 = .ok (.aload_n 0, 1) := by decide +kernel
theorem dX5_init_60 : decode cX5_init 60 = .ok (.bipush 8, 2) := by decide +kernel
theorem dX5_init_62 : decode cX5_init 62 = .ok (.newarray .int, 2) := by decide +kernel
theorem dX5_init_64 : decode cX5_init 64 = .ok (.putfield 33, 3) := by decide +kernel
theorem dX5_init_67 : decode cX5_init 67 = .ok (.aload_n 0, 1) := by decide +kernel
theorem dX5_init_68 : decode cX5_init 68 = .ok (.bipush 16, 2) := by decide +kernel
theorem dX5_init_70 : decode cX5_init 70 = .ok (.newarray .int, 2) := by decide +kernel
theorem dX5_init_72 : decode cX5_init 72 = .ok (.putfield 36, 3) := by decide +kernel
theorem dX5_init_75 : decode cX5_init 75 = .ok (.aload_n 0, 1) := by decide +kernel
theorem dX5_init_76 : decode cX5_init 76 = .ok (.sipush 2400, 3) := by decide +kernel
theorem dX5_init_79 : decode cX5_init 79 = .ok (.newarray .boolean, 2) := by decide +kernel
theorem dX5_init_81 : decode cX5_init 81 = .ok (.putfield 39, 3) := by decide +kernel
theorem dX5_init_84 : decode cX5_init 84 = .ok (.aload_n 0, 1) := by decide +kernel
theorem dX5_init_85 : decode cX5_init 85 = .ok (.bipush 16, 2) := by decide +kernel
theorem dX5_init_87 : decode cX5_init 87 = .ok (.newarray .int, 2) := by decide +kernel
theorem dX5_init_89 : decode cX5_init 89 = .ok (.putfield 42, 3) := by decide +kernel
theorem dX5_init_92 : decode cX5_init 92 = .ok (.aload_n 0, 1) := by decide +kernel
theorem dX5_init_93 : decode cX5_init 93 = .ok (.bipush 16, 2) := by decide +kernel
theorem dX5_init_95 : decode cX5_init 95 = .ok (.newarray .int, 2) := by decide +kernel
theorem dX5_init_97 : decode cX5_init 97 = .ok (.putfield 45, 3) := by decide +kernel
theorem dX5_init_100 : decode cX5_init 100 = .ok (.aload_n 0, 1) := by decide +kernel
theorem dX5_init_101 : decode cX5_init 101 = .ok (.bipush 16, 2) := by decide +kernel
theorem dX5_init_103 : decode cX5_init 103 = .ok (.newarray .int, 2) := by decide +kernel
theorem dX5_init_105 : decode cX5_init 105 = .ok (.putfield 48, 3) := by decide +kernel
theorem dX5_init_108 : decode cX5_init 108 = .ok (.aload_n 0, 1) := by decide +kernel
theorem dX5_init_109 : decode cX5_init 109 = .ok (.bipush 16, 2) := by decide +kernel
theorem dX5_init_111 : decode cX5_init 111 = .ok (.newarray .int, 2) := by decide +kernel
theorem dX5_init_113 : decode cX5_init 113 = .ok (.putfield 51, 3) := by decide +kernel
theorem dX5_init_116 : decode cX5_init 116 = .ok (.aload_n 0, 1) := by decide +kernel
theorem dX5_init_117 : decode cX5_init 117 = .ok (.bipush 16, 2) := by decide +kernel
theorem dX5_init_119 : decode cX5_init 119 = .ok (.newarray .boolean, 2) := by decide +kernel
theorem dX5_init_121 : decode cX5_init 121 = .ok (.putfield 54, 3) := by decide +kernel
theorem dX5_init_124 : decode cX5_init 124 = .ok (.aload_n 0, 1) := by decide +kernel
theorem dX5_init_125 : decode cX5_init 125 = .ok (.bipush 8, 2) := by decide +kernel
theorem dX5_init_127 : decode cX5_init 127 = .ok (.newarray .int, 2) := by decide +kernel
theorem dX5_init_129 : decode cX5_init 129 = .ok (.putfield 57, 3) := by decide +kernel
theorem dX5_init_132 : decode cX5_init 132 = .ok (.aload_n 0, 1) := by decide +kernel
theorem dX5_init_133 : decode cX5_init 133 = .ok (.bipush 64, 2) := by decide +kernel
theorem dX5_init_135 : decode cX5_init 135 = .ok (.newarray .long, 2) := by decide +kernel
theorem dX5_init_137 : decode cX5_init 137 = .ok (.putfield 60, 3) := by decide +kernel
theorem dX5_init_140 : decode cX5_init 140 = .ok (.aload_n 0, 1) := by decide +kernel
theorem dX5_init_141 : decode cX5_init 141 = .ok (.bipush 8, 2) := by decide +kernel
theorem dX5_init_143 : decode cX5_init 143 = .ok (.newarray .int, 2) := by decide +kernel
theorem dX5_init_145 : decode cX5_init 145 = .ok (.putfield 63, 3) := by decide +kernel
theorem dX5_init_148 : decode cX5_init 148 = .ok (.aload_n 0, 1) := by decide +kernel
theorem dX5_init_149 : decode cX5_init 149 = .ok (.sipush 128, 3) := by decide +kernel
theorem dX5_init_152 : decode cX5_init 152 = .ok (.newarray .long, 2) := by decide +kernel
theorem dX5_init_154 : decode cX5_init 154 = .ok (.putfield 66, 3) := by decide +kernel
theorem dX5_init_157 : decode cX5_init 157 = .ok (.aload_n 0, 1) := by decide +kernel
theorem dX5_init_158 : decode cX5_init 158 = .ok (.bipush 8, 2) := by decide +kernel
theorem dX5_init_160 : decode cX5_init 160 = .ok (.newarray .int, 2) := by decide +kernel
theorem dX5_init_162 : decode cX5_init 162 = .ok (.putfield 69, 3) := by decide +kernel
theorem dX5_init_165 : decode cX5_init 165 = .ok (.aload_n 0, 1) := by decide +kernel
theorem dX5_init_166 : decode cX5_init 166 = .ok (.sipush 160, 3) := by decide +kernel
theorem dX5_init_169 : decode cX5_init 169 = .ok (.newarray .long, 2) := by decide +kernel
theorem dX5_init_171 : decode cX5_init 171 = .ok (.putfield 72, 3) := by decide +kernel
theorem dX5_init_174 : decode cX5_init 174 = .ok (.aload_n 0, 1) := by decide +kernel
theorem dX5_init_175 : decode cX5_init 175 = .ok (.bipush 7, 2) := by decide +kernel
theorem dX5_init_177 : decode cX5_init 177 = .ok (.newarray .int, 2) := by decide +kernel
theorem dX5_init_179 : decode cX5_init 179 = .ok (.putfield 75, 3) := by decide +kernel
theorem dX5_init_182 : decode cX5_init 182 = .ok (.aload_n 0, 1) := by decide +kernel
theorem dX5_init_183 : decode cX5_init 183 = .ok (.bipush 8, 2) := by decide +kernel
theorem dX5_init_185 : decode cX5_init 185 = .ok (.newarray .int, 2) := by decide +kernel
theorem dX5_init_187 : decode cX5_init 187 = .ok (.putfield 78, 3) := by decide +kernel
theorem dX5_init_190 : decode cX5_init 190 = .ok (.aload_n 0, 1) := by decide +kernel
theorem dX5_init_191 : decode cX5_init 191 = .ok (.bipush 8, 2) := by decide +kernel
theorem dX5_init_193 : decode cX5_init 193 = .ok (.newarray .int, 2) := by decide +kernel
theorem dX5_init_195 : decode cX5_init 195 = .ok (.putfield 81, 3) := by decide +kernel
theorem dX5_init_198 : decode cX5_init 198 = .ok (.return_, 1) := by decide +kernel
theorem dX5_in_0 : decode cX5_in 0 = .ok (.iload_n 0, 1) := by decide +kernel
theorem dX5_in_1 : decode cX5_in 1 = .ok (.iload_n 1, 1) := by decide +kernel
theorem dX5_in_2 : decode cX5_in 2 = .ok (.if_icmp .lt 12, 3) := by decide +kernel
theorem dX5_in_5 : decode cX5_in 5 = .ok (.iload_n 0, 1) := by decide +kernel
theorem dX5_in_6 : decode cX5_in 6 = .ok (.iload_n 2, 1) := by decide +kernel
theorem dX5_in_7 : decode cX5_in 7 = .ok (.if_icmp .gt 7, 3) := by decide +kernel
theorem dX5_in_10 : decode cX5_in 10 = .ok (.iconst 1, 1) := by decide +kernel
theorem dX5_in_11 : decode cX5_in 11 = .ok (.goto 4, 3) := by decide +kernel
theorem dX5_in_14 : decode cX5_in 14 = .ok (.iconst 0, 1) := by decide +kernel
theorem dX5_in_15 : decode cX5_in 15 = .ok (.ireturn, 1) := by decide +kernel
theorem dX5_refuse_0 : decode cX5_refuse 0 = .ok (.aload_n 0, 1) := by decide +kernel
theorem dX5_refuse_1 : decode cX5_refuse 1 = .ok (.getfield 75, 3) := by decide +kernel
theorem dX5_refuse_4 : decode cX5_refuse 4 = .ok (.iload_n 1, 1) := by decide +kernel
theorem dX5_refuse_5 : decode cX5_refuse 5 = .ok (.ineg, 1) := by decide +kernel
theorem dX5_refuse_6 : decode cX5_refuse 6 = .ok (.dup2, 1) := by decide +kernel
theorem dX5_refuse_7 : decode cX5_refuse 7 = .ok (.iaload, 1) := by decide +kernel
theorem dX5_refuse_8 : decode cX5_refuse 8 = .ok (.iconst 1, 1) := by decide +kernel
theorem dX5_refuse_9 : decode cX5_refuse 9 = .ok (.iadd, 1) := by decide +kernel
theorem dX5_refuse_10 : decode cX5_refuse 10 = .ok (.iastore, 1) := by decide +kernel
theorem dX5_refuse_11 : decode cX5_refuse 11 = .ok (.iload_n 1, 1) := by decide +kernel
theorem dX5_refuse_12 : decode cX5_refuse 12 = .ok (.ireturn, 1) := by decide +kernel
