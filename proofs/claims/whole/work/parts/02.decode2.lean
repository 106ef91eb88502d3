theorem dX3_takenSlots_0 : decode cX3_takenSlots 0 = .ok (.iconst 1, 1) := by decide +kernel
theorem dX3_takenSlots_1 : decode cX3_takenSlots 1 = .ok (.aload_n 0, 1) := by decide +kernel
theorem dX3_takenSlots_2 : decode cX3_takenSlots 2 = .ok (.getfield 9, 3) := by decide +kernel
theorem dX3_takenSlots_5 : decode cX3_takenSlots 5 = .ok (.iload_n 2, 1) := by decide +kernel
theorem dX3_takenSlots_6 : decode cX3_takenSlots 6 = .ok (.iaload, 1) := by decide +kernel
theorem dX3_takenSlots_7 : decode cX3_takenSlots 7 = .ok (.bipush 10, 2) := by decide +kernel
theorem dX3_takenSlots_9 : decode cX3_takenSlots 9 = .ok (.idiv, 1) := by decide +kernel
theorem dX3_takenSlots_10 : decode cX3_takenSlots 10 = .ok (.ishl, 1) := by decide +kernel
theorem dX3_takenSlots_11 : decode cX3_takenSlots 11 = .ok (.istore_n 3, 1) := by decide +kernel
theorem dX3_takenSlots_12 : decode cX3_takenSlots 12 = .ok (.iconst 0, 1) := by decide +kernel
theorem dX3_takenSlots_13 : decode cX3_takenSlots 13 = .ok (.istore 4, 2) := by decide +kernel
theorem dX3_takenSlots_15 : decode cX3_takenSlots 15 = .ok (.iload 4, 2) := by decide +kernel
theorem dX3_takenSlots_17 : decode cX3_takenSlots 17 = .ok (.aload_n 0, 1) := by decide +kernel
theorem dX3_takenSlots_18 : decode cX3_takenSlots 18 = .ok (.getfield 58, 3) := by decide +kernel
theorem dX3_takenSlots_21 : decode cX3_takenSlots 21 = .ok (.if_icmp .ge 55, 3) := by decide +kernel
theorem dX3_takenSlots_24 : decode cX3_takenSlots 24 = .ok (.aload_n 0, 1) := by decide +kernel
theorem dX3_takenSlots_25 : decode cX3_takenSlots 25 = .ok (.getfield 32, 3) := by decide +kernel
theorem dX3_takenSlots_28 : decode cX3_takenSlots 28 = .ok (.iload 4, 2) := by decide +kernel
theorem dX3_takenSlots_30 : decode cX3_takenSlots 30 = .ok (.aaload, 1) := by decide +kernel
theorem dX3_takenSlots_31 : decode cX3_takenSlots 31 = .ok (.getfield 61, 3) := by decide +kernel
theorem dX3_takenSlots_34 : decode cX3_takenSlots 34 = .ok (.iload_n 1, 1) := by decide +kernel
theorem dX3_takenSlots_35 : decode cX3_takenSlots 35 = .ok (.if_icmp .eq 17, 3) := by decide +kernel
theorem dX3_takenSlots_38 : decode cX3_takenSlots 38 = .ok (.aload_n 0, 1) := by decide +kernel
theorem dX3_takenSlots_39 : decode cX3_takenSlots 39 = .ok (.getfield 32, 3) := by decide +kernel
theorem dX3_takenSlots_42 : decode cX3_takenSlots 42 = .ok (.iload 4, 2) := by decide +kernel
theorem dX3_takenSlots_44 : decode cX3_takenSlots 44 = .ok (.aaload, 1) := by decide +kernel
theorem dX3_takenSlots_45 : decode cX3_takenSlots 45 = .ok (.getfield 87, 3) := by decide +kernel
theorem dX3_takenSlots_48 : decode cX3_takenSlots 48 = .ok (.iload_n 2, 1) := by decide +kernel
theorem dX3_takenSlots_49 : decode cX3_takenSlots 49 = .ok (.if_icmp .ne 21, 3) := by decide +kernel
theorem dX3_takenSlots_52 : decode cX3_takenSlots 52 = .ok (.iload_n 3, 1) := by decide +kernel
theorem dX3_takenSlots_53 : decode cX3_takenSlots 53 = .ok (.iconst 1, 1) := by decide +kernel
theorem dX3_takenSlots_54 : decode cX3_takenSlots 54 = .ok (.aload_n 0, 1) := by decide +kernel
theorem dX3_takenSlots_55 : decode cX3_takenSlots 55 = .ok (.getfield 32, 3) := by decide +kernel
theorem dX3_takenSlots_58 : decode cX3_takenSlots 58 = .ok (.iload 4, 2) := by decide +kernel
theorem dX3_takenSlots_60 : decode cX3_takenSlots 60 = .ok (.aaload, 1) := by decide +kernel
theorem dX3_takenSlots_61 : decode cX3_takenSlots 61 = .ok (.getfield 107, 3) := by decide +kernel
theorem dX3_takenSlots_64 : decode cX3_takenSlots 64 = .ok (.bipush 10, 2) := by decide +kernel
theorem dX3_takenSlots_66 : decode cX3_takenSlots 66 = .ok (.idiv, 1) := by decide +kernel
theorem dX3_takenSlots_67 : decode cX3_takenSlots 67 = .ok (.ishl, 1) := by decide +kernel
theorem dX3_takenSlots_68 : decode cX3_takenSlots 68 = .ok (.ior, 1) := by decide +kernel
theorem dX3_takenSlots_69 : decode cX3_takenSlots 69 = .ok (.istore_n 3, 1) := by decide +kernel
theorem dX3_takenSlots_70 : decode cX3_takenSlots 70 = .ok (.iinc 4 1, 3) := by decide +kernel
theorem dX3_takenSlots_73 : decode cX3_takenSlots 73 = .ok (.goto (-58), 3) := by decide +kernel
theorem dX3_takenSlots_76 : decode cX3_takenSlots 76 = .ok (.iload_n 3, 1) := by decide +kernel
theorem dX3_takenSlots_77 : decode cX3_takenSlots 77 = .ok (.ireturn, 1) := by decide +kernel
theorem dX3_addBearer_0 : decode cX3_addBearer 0 = .ok (.aload_n 0, 1) := by decide +kernel
theorem dX3_addBearer_1 : decode cX3_addBearer 1 = .ok (.getfield 58, 3) := by decide +kernel
theorem dX3_addBearer_4 : decode cX3_addBearer 4 = .ok (.bipush 16, 2) := by decide +kernel
theorem dX3_addBearer_6 : decode cX3_addBearer 6 = .ok (.if_icmp .lt 4, 3) := by decide +kernel
theorem dX3_addBearer_9 : decode cX3_addBearer 9 = .ok (.return_, 1) := by decide +kernel
theorem dX3_addBearer_10 : decode cX3_addBearer 10 = .ok (.aload_n 0, 1) := by decide +kernel
theorem dX3_addBearer_11 : decode cX3_addBearer 11 = .ok (.getfield 32, 3) := by decide +kernel
theorem dX3_addBearer_14 : decode cX3_addBearer 14 = .ok (.aload_n 0, 1) := by decide +kernel
theorem dX3_addBearer_15 : decode cX3_addBearer 15 = .ok (.getfield 58, 3) := by decide +kernel
theorem dX3_addBearer_18 : decode cX3_addBearer 18 = .ok (.aaload, 1) := by decide +kernel
theorem dX3_addBearer_19 : decode cX3_addBearer 19 = .ok (.astore 4, 2) := by decide +kernel
theorem dX3_addBearer_21 : decode cX3_addBearer 21 = .ok (.aload 4, 2) := by decide +kernel
theorem dX3_addBearer_23 : decode cX3_addBearer 23 = .ok (.iload_n 1, 1) := by decide +kernel
theorem dX3_addBearer_24 : decode cX3_addBearer 24 = .ok (.putfield 61, 3) := by decide +kernel
theorem dX3_addBearer_27 : decode cX3_addBearer 27 = .ok (.aload 4, 2) := by decide +kernel
theorem dX3_addBearer_29 : decode cX3_addBearer 29 = .ok (.iload_n 2, 1) := by decide +kernel
theorem dX3_addBearer_30 : decode cX3_addBearer 30 = .ok (.putfield 87, 3) := by decide +kernel
theorem dX3_addBearer_33 : decode cX3_addBearer 33 = .ok (.aload 4, 2) := by decide +kernel
theorem dX3_addBearer_35 : decode cX3_addBearer 35 = .ok (.iload_n 3, 1) := by decide +kernel
theorem dX3_addBearer_36 : decode cX3_addBearer 36 = .ok (.putfield 107, 3) := by decide +kernel
theorem dX3_addBearer_39 : decode cX3_addBearer 39 = .ok (.aload 4, 2) := by decide +kernel
theorem dX3_addBearer_41 : decode cX3_addBearer 41 = .ok (.iconst 0, 1) := by decide +kernel
theorem dX3_addBearer_42 : decode cX3_addBearer 42 = .ok (.putfield 70, 3) := by decide +kernel
theorem dX3_addBearer_45 : decode cX3_addBearer 45 = .ok (.aload 4, 2) := by decide +kernel
theorem dX3_addBearer_47 : decode cX3_addBearer 47 = .ok (.iconst 0, 1) := by decide +kernel
theorem dX3_addBearer_48 : decode cX3_addBearer 48 = .ok (.putfield 73, 3) := by decide +kernel
theorem dX3_addBearer_51 : decode cX3_addBearer 51 = .ok (.aload_n 0, 1) := by decide +kernel
theorem dX3_addBearer_52 : decode cX3_addBearer 52 = .ok (.getfield 24, 3) := by decide +kernel
theorem dX3_addBearer_55 : decode cX3_addBearer 55 = .ok (.iload_n 3, 1) := by decide +kernel
theorem dX3_addBearer_56 : decode cX3_addBearer 56 = .ok (.dup2, 1) := by decide +kernel
theorem dX3_addBearer_57 : decode cX3_addBearer 57 = .ok (.iaload, 1) := by decide +kernel
theorem dX3_addBearer_58 : decode cX3_addBearer 58 = .ok (.iconst 1, 1) := by decide +kernel
theorem dX3_addBearer_59 : decode cX3_addBearer 59 = .ok (.iload_n 2, 1) := by decide +kernel
theorem dX3_addBearer_60 : decode cX3_addBearer 60 = .ok (.ishl, 1) := by decide +kernel
theorem dX3_addBearer_61 : decode cX3_addBearer 61 = .ok (.ior, 1) := by decide +kernel
theorem dX3_addBearer_62 : decode cX3_addBearer 62 = .ok (.iastore, 1) := by decide +kernel
theorem dX3_addBearer_63 : decode cX3_addBearer 63 = .ok (.aload_n 0, 1) := by decide +kernel
theorem dX3_addBearer_64 : decode cX3_addBearer 64 = .ok (.getfield 27, 3) := by decide +kernel
theorem dX3_addBearer_67 : decode cX3_addBearer 67 = .ok (.iload_n 3, 1) := by decide +kernel
theorem dX3_addBearer_68 : decode cX3_addBearer 68 = .ok (.dup2, 1) := by decide +kernel
theorem dX3_addBearer_69 : decode cX3_addBearer 69 = .ok (.iaload, 1) := by decide +kernel
theorem dX3_addBearer_70 : decode cX3_addBearer 70 = .ok (.iconst 1, 1) := by decide +kernel
theorem dX3_addBearer_71 : decode cX3_addBearer 71 = .ok (.iload_n 1, 1) := by decide +kernel
theorem dX3_addBearer_72 : decode cX3_addBearer 72 = .ok (.ishl, 1) := by decide +kernel
theorem dX3_addBearer_73 : decode cX3_addBearer 73 = .ok (.ior, 1) := by decide +kernel
theorem dX3_addBearer_74 : decode cX3_addBearer 74 = .ok (.iastore, 1) := by decide +kernel
theorem dX3_addBearer_75 : decode cX3_addBearer 75 = .ok (.aload_n 0, 1) := by decide +kernel
theorem dX3_addBearer_76 : decode cX3_addBearer 76 = .ok (.dup, 1) := by decide +kernel
theorem dX3_addBearer_77 : decode cX3_addBearer 77 = .ok (.getfield 58, 3) := by decide +kernel
theorem dX3_addBearer_80 : decode cX3_addBearer 80 = .ok (.iconst 1, 1) := by decide +kernel
theorem dX3_addBearer_81 : decode cX3_addBearer 81 = .ok (.iadd, 1) := by decide +kernel
theorem dX3_addBearer_82 : decode cX3_addBearer 82 = .ok (.putfield 58, 3) := by decide +kernel
theorem dX3_addBearer_85 : decode cX3_addBearer 85 = .ok (.aload_n 0, 1) := by decide +kernel
theorem dX3_addBearer_86 : decode cX3_addBearer 86 = .ok (.dup, 1) := by decide +kernel
theorem dX3_addBearer_87 : decode cX3_addBearer 87 = .ok (.getfield 110, 3) := by decide +kernel
theorem dX3_addBearer_90 : decode cX3_addBearer 90 = .ok (.iconst 1, 1) := by decide +kernel
theorem dX3_addBearer_91 : decode cX3_addBearer 91 = .ok (.iadd, 1) := by decide +kernel
theorem dX3_addBearer_92 : decode cX3_addBearer 92 = .ok (.putfield 110, 3) := by decide +kernel
theorem dX3_addBearer_95 : decode cX3_addBearer 95 = .ok (.return_, 1) := by decide +kernel
theorem dX3_sendAll_0 : decode cX3_sendAll 0 = .ok (.iconst 0, 1) := by decide +kernel
theorem dX3_sendAll_1 : decode cX3_sendAll 1 = .ok (.istore_n 1, 1) := by decide +kernel
theorem dX3_sendAll_2 : decode cX3_sendAll 2 = .ok (.iload_n 1, 1) := by decide +kernel
theorem dX3_sendAll_3 : decode cX3_sendAll 3 = .ok (.aload_n 0, 1) := by decide +kernel
theorem dX3_sendAll_4 : decode cX3_sendAll 4 = .ok (.getfield 58, 3) := by decide +kernel
theorem dX3_sendAll_7 : decode cX3_sendAll 7 = .ok (.if_icmp .ge 89, 3) := by decide +kernel
theorem dX3_sendAll_10 : decode cX3_sendAll 10 = .ok (.aload_n 0, 1) := by decide +kernel
theorem dX3_sendAll_11 : decode cX3_sendAll 11 = .ok (.getfield 32, 3) := by decide +kernel
theorem dX3_sendAll_14 : decode cX3_sendAll 14 = .ok (.iload_n 1, 1) := by decide +kernel
theorem dX3_sendAll_15 : decode cX3_sendAll 15 = .ok (.aaload, 1) := by decide +kernel
theorem dX3_sendAll_16 : decode cX3_sendAll 16 = .ok (.astore_n 2, 1) := by decide +kernel
theorem dX3_sendAll_17 : decode cX3_sendAll 17 = .ok (.aload_n 2, 1) := by decide +kernel
theorem dX3_sendAll_18 : decode cX3_sendAll 18 = .ok (.aload_n 0, 1) := by decide +kernel
theorem dX3_sendAll_19 : decode cX3_sendAll 19 = .ok (.aload_n 2, 1) := by decide +kernel
theorem dX3_sendAll_20 : decode cX3_sendAll 20 = .ok (.getfield 87, 3) := by decide +kernel
theorem dX3_sendAll_23 : decode cX3_sendAll 23 = .ok (.aload_n 0, 1) := by decide +kernel
theorem dX3_sendAll_24 : decode cX3_sendAll 24 = .ok (.getfield 15, 3) := by decide +kernel
theorem dX3_sendAll_27 : decode cX3_sendAll 27 = .ok (.aload_n 2, 1) := by decide +kernel
theorem dX3_sendAll_28 : decode cX3_sendAll 28 = .ok (.getfield 61, 3) := by decide +kernel
theorem dX3_sendAll_31 : decode cX3_sendAll 31 = .ok (.iaload, 1) := by decide +kernel
theorem dX3_sendAll_32 : decode cX3_sendAll 32 = .ok (.aload_n 2, 1) := by decide +kernel
theorem dX3_sendAll_33 : decode cX3_sendAll 33 = .ok (.getfield 107, 3) := by decide +kernel
theorem dX3_sendAll_36 : decode cX3_sendAll 36 = .ok (.invokevirtual 90, 3) := by decide +kernel
theorem dX3_sendAll_39 : decode cX3_sendAll 39 = .ok (.ifCond .eq 26, 3) := by decide +kernel
theorem dX3_sendAll_42 : decode cX3_sendAll 42 = .ok (.aload_n 0, 1) := by decide +kernel
theorem dX3_sendAll_43 : decode cX3_sendAll 43 = .ok (.aload_n 2, 1) := by decide +kernel
theorem dX3_sendAll_44 : decode cX3_sendAll 44 = .ok (.getfield 61, 3) := by decide +kernel
theorem dX3_sendAll_47 : decode cX3_sendAll 47 = .ok (.aload_n 2, 1) := by decide +kernel
theorem dX3_sendAll_48 : decode cX3_sendAll 48 = .ok (.getfield 87, 3) := by decide +kernel
theorem dX3_sendAll_51 : decode cX3_sendAll 51 = .ok (.aload_n 2, 1) := by decide +kernel
theorem dX3_sendAll_52 : decode cX3_sendAll 52 = .ok (.getfield 107, 3) := by decide +kernel
theorem dX3_sendAll_55 : decode cX3_sendAll 55 = .ok (.invokevirtual 113, 3) := by decide +kernel
theorem dX3_sendAll_58 : decode cX3_sendAll 58 = .ok (.ifCond .eq 7, 3) := by decide +kernel
theorem dX3_sendAll_61 : decode cX3_sendAll 61 = .ok (.iconst 1, 1) := by decide +kernel
theorem dX3_sendAll_62 : decode cX3_sendAll 62 = .ok (.goto 4, 3) := by decide +kernel
theorem dX3_sendAll_65 : decode cX3_sendAll 65 = .ok (.iconst 0, 1) := by decide +kernel
theorem dX3_sendAll_66 : decode cX3_sendAll 66 = .ok (.putfield 73, 3) := by decide +kernel
theorem dX3_sendAll_69 : decode cX3_sendAll 69 = .ok (.aload_n 2, 1) := by decide +kernel
theorem dX3_sendAll_70 : decode cX3_sendAll 70 = .ok (.aload_n 2, 1) := by decide +kernel
theorem dX3_sendAll_71 : decode cX3_sendAll 71 = .ok (.getfield 73, 3) := by decide +kernel
theorem dX3_sendAll_74 : decode cX3_sendAll 74 = .ok (.ifCond .eq 7, 3) := by decide +kernel
theorem dX3_sendAll_77 : decode cX3_sendAll 77 = .ok (.iconst 0, 1) := by decide +kernel
theorem dX3_sendAll_78 : decode cX3_sendAll 78 = .ok (.goto 9, 3) := by decide +kernel
theorem dX3_sendAll_81 : decode cX3_sendAll 81 = .ok (.aload_n 2, 1) := by decide +kernel
theorem dX3_sendAll_82 : decode cX3_sendAll 82 = .ok (.getfield 70, 3) := by decide +kernel
theorem dX3_sendAll_85 : decode cX3_sendAll 85 = .ok (.iconst 1, 1) := by decide +kernel
theorem dX3_sendAll_86 : decode cX3_sendAll 86 = .ok (.iadd, 1) := by decide +kernel
theorem dX3_sendAll_87 : decode cX3_sendAll 87 = .ok (.putfield 70, 3) := by decide +kernel
theorem dX3_sendAll_90 : decode cX3_sendAll 90 = .ok (.iinc 1 1, 3) := by decide +kernel
theorem dX3_sendAll_93 : decode cX3_sendAll 93 = .ok (.goto (-91), 3) := by decide +kernel
theorem dX3_sendAll_96 : decode cX3_sendAll 96 = .ok (.return_, 1) := by decide +kernel
theorem dX3_dropFailed_0 : decode cX3_dropFailed 0 = .ok (.aload_n 0, 1) := by decide +kernel
theorem dX3_dropFailed_1 : decode cX3_dropFailed 1 = .ok (.getfield 58, 3) := by decide +kernel
theorem dX3_dropFailed_4 : decode cX3_dropFailed 4 = .ok (.iconst 1, 1) := by decide +kernel
theorem dX3_dropFailed_5 : decode cX3_dropFailed 5 = .ok (.isub, 1) := by decide +kernel
theorem dX3_dropFailed_6 : decode cX3_dropFailed 6 = .ok (.istore_n 1, 1) := by decide +kernel
theorem dX3_dropFailed_7 : decode cX3_dropFailed 7 = .ok (.iload_n 1, 1) := by decide +kernel
theorem dX3_dropFailed_8 : decode cX3_dropFailed 8 = .ok (.ifCond .lt 28, 3) := by decide +kernel
theorem dX3_dropFailed_11 : decode cX3_dropFailed 11 = .ok (.aload_n 0, 1) := by decide +kernel
theorem dX3_dropFailed_12 : decode cX3_dropFailed 12 = .ok (.getfield 32, 3) := by decide +kernel
theorem dX3_dropFailed_15 : decode cX3_dropFailed 15 = .ok (.iload_n 1, 1) := by decide +kernel
theorem dX3_dropFailed_16 : decode cX3_dropFailed 16 = .ok (.aaload, 1) := by decide +kernel
theorem dX3_dropFailed_17 : decode cX3_dropFailed 17 = .ok (.getfield 70, 3) := by decide +kernel
theorem dX3_dropFailed_20 : decode cX3_dropFailed 20 = .ok (.bipush 8, 2) := by decide +kernel
theorem dX3_dropFailed_22 : decode cX3_dropFailed 22 = .ok (.if_icmp .lt 8, 3) := by decide +kernel
theorem dX3_dropFailed_25 : decode cX3_dropFailed 25 = .ok (.aload_n 0, 1) := by decide +kernel
theorem dX3_dropFailed_26 : decode cX3_dropFailed 26 = .ok (.iload_n 1, 1) := by decide +kernel
theorem dX3_dropFailed_27 : decode cX3_dropFailed 27 = .ok (.invokevirtual 116, 3) := by decide +kernel
theorem dX3_dropFailed_30 : decode cX3_dropFailed 30 = .ok (.iinc 1 (-1), 3) := by decide +kernel
theorem dX3_dropFailed_33 : decode cX3_dropFailed 33 = .ok (.goto (-26), 3) := by decide +kernel
theorem dX3_dropFailed_36 : decode cX3_dropFailed 36 = .ok (.return_, 1) := by decide +kernel
theorem dX3_dropFirstForSecond_0 : decode cX3_dropFirstForSecond 0 = .ok (.aload_n 0, 1) := by decide +kernel
theorem dX3_dropFirstForSecond_1 : decode cX3_dropFirstForSecond 1 = .ok (.iload_n 1, 1) := by decide +kernel
theorem dX3_dropFirstForSecond_2 : decode cX3_dropFirstForSecond 2 = .ok (.invokevirtual 64, 3) := by decide +kernel
theorem dX3_dropFirstForSecond_5 : decode cX3_dropFirstForSecond 5 = .ok (.istore_n 2, 1) := by decide +kernel
theorem dX3_dropFirstForSecond_6 : decode cX3_dropFirstForSecond 6 = .ok (.aload_n 0, 1) := by decide +kernel
theorem dX3_dropFirstForSecond_7 : decode cX3_dropFirstForSecond 7 = .ok (.iload_n 1, 1) := by decide +kernel
theorem dX3_dropFirstForSecond_8 : decode cX3_dropFirstForSecond 8 = .ok (.invokevirtual 67, 3) := by decide +kernel
theorem dX3_dropFirstForSecond_11 : decode cX3_dropFirstForSecond 11 = .ok (.istore_n 3, 1) := by decide +kernel
theorem dX3_dropFirstForSecond_12 : decode cX3_dropFirstForSecond 12 = .ok (.iload_n 2, 1) := by decide +kernel
theorem dX3_dropFirstForSecond_13 : decode cX3_dropFirstForSecond 13 = .ok (.ifCond .lt 20, 3) := by decide +kernel
theorem dX3_dropFirstForSecond_16 : decode cX3_dropFirstForSecond 16 = .ok (.iload_n 2, 1) := by decide +kernel
theorem dX3_dropFirstForSecond_17 : decode cX3_dropFirstForSecond 17 = .ok (.iload_n 3, 1) := by decide +kernel
theorem dX3_dropFirstForSecond_18 : decode cX3_dropFirstForSecond 18 = .ok (.if_icmp .eq 15, 3) := by decide +kernel
theorem dX3_dropFirstForSecond_21 : decode cX3_dropFirstForSecond 21 = .ok (.aload_n 0, 1) := by decide +kernel
theorem dX3_dropFirstForSecond_22 : decode cX3_dropFirstForSecond 22 = .ok (.getfield 32, 3) := by decide +kernel
theorem dX3_dropFirstForSecond_25 : decode cX3_dropFirstForSecond 25 = .ok (.iload_n 3, 1) := by decide +kernel
theorem dX3_dropFirstForSecond_26 : decode cX3_dropFirstForSecond 26 = .ok (.aaload, 1) := by decide +kernel
theorem dX3_dropFirstForSecond_27 : decode cX3_dropFirstForSecond 27 = .ok (.getfield 73, 3) := by decide +kernel
theorem dX3_dropFirstForSecond_30 : decode cX3_dropFirstForSecond 30 = .ok (.ifCond .ne 5, 3) := by decide +kernel
theorem dX3_dropFirstForSecond_33 : decode cX3_dropFirstForSecond 33 = .ok (.iconst 0, 1) := by decide +kernel
theorem dX3_dropFirstForSecond_34 : decode cX3_dropFirstForSecond 34 = .ok (.ireturn, 1) := by decide +kernel
theorem dX3_dropFirstForSecond_35 : decode cX3_dropFirstForSecond 35 = .ok (.aload_n 0, 1) := by decide +kernel
theorem dX3_dropFirstForSecond_36 : decode cX3_dropFirstForSecond 36 = .ok (.iload_n 2, 1) := by decide +kernel
theorem dX3_dropFirstForSecond_37 : decode cX3_dropFirstForSecond 37 = .ok (.invokevirtual 116, 3) := by decide +kernel
theorem dX3_dropFirstForSecond_40 : decode cX3_dropFirstForSecond 40 = .ok (.iconst 1, 1) := by decide +kernel
theorem dX3_dropFirstForSecond_41 : decode cX3_dropFirstForSecond 41 = .ok (.ireturn, 1) := by decide +kernel
theorem dX3_dropBearersOf_0 : decode cX3_dropBearersOf 0 = .ok (.aload_n 0, 1) := by decide +kernel
theorem dX3_dropBearersOf_1 : decode cX3_dropBearersOf 1 = .ok (.getfield 58, 3) := by decide +kernel
theorem dX3_dropBearersOf_4 : decode cX3_dropBearersOf 4 = .ok (.iconst 1, 1) := by decide +kernel
theorem dX3_dropBearersOf_5 : decode cX3_dropBearersOf 5 = .ok (.isub, 1) := by decide +kernel
theorem dX3_dropBearersOf_6 : decode cX3_dropBearersOf 6 = .ok (.istore_n 2, 1) := by decide +kernel
theorem dX3_dropBearersOf_7 : decode cX3_dropBearersOf 7 = .ok (.iload_n 2, 1) := by decide +kernel
theorem dX3_dropBearersOf_8 : decode cX3_dropBearersOf 8 = .ok (.ifCond .lt 27, 3) := by decide +kernel
theorem dX3_dropBearersOf_11 : decode cX3_dropBearersOf 11 = .ok (.aload_n 0, 1) := by decide +kernel
theorem dX3_dropBearersOf_12 : decode cX3_dropBearersOf 12 = .ok (.getfield 32, 3) := by decide +kernel
theorem dX3_dropBearersOf_15 : decode cX3_dropBearersOf 15 = .ok (.iload_n 2, 1) := by decide +kernel
theorem dX3_dropBearersOf_16 : decode cX3_dropBearersOf 16 = .ok (.aaload, 1) := by decide +kernel
theorem dX3_dropBearersOf_17 : decode cX3_dropBearersOf 17 = .ok (.getfield 61, 3) := by decide +kernel
theorem dX3_dropBearersOf_20 : decode cX3_dropBearersOf 20 = .ok (.iload_n 1, 1) := by decide +kernel
theorem dX3_dropBearersOf_21 : decode cX3_dropBearersOf 21 = .ok (.if_icmp .ne 8, 3) := by decide +kernel
theorem dX3_dropBearersOf_24 : decode cX3_dropBearersOf 24 = .ok (.aload_n 0, 1) := by decide +kernel
theorem dX3_dropBearersOf_25 : decode cX3_dropBearersOf 25 = .ok (.iload_n 2, 1) := by decide +kernel
theorem dX3_dropBearersOf_26 : decode cX3_dropBearersOf 26 = .ok (.invokevirtual 116, 3) := by decide +kernel
theorem dX3_dropBearersOf_29 : decode cX3_dropBearersOf 29 = .ok (.iinc 2 (-1), 3) := by decide +kernel
theorem dX3_dropBearersOf_32 : decode cX3_dropBearersOf 32 = .ok (.goto (-25), 3) := by decide +kernel
theorem dX3_dropBearersOf_35 : decode cX3_dropBearersOf 35 = .ok (.return_, 1) := by decide +kernel
theorem dX3_dropBearer_0 : decode cX3_dropBearer 0 = .ok (.aload_n 0, 1) := by decide +kernel
theorem dX3_dropBearer_1 : decode cX3_dropBearer 1 = .ok (.getfield 32, 3) := by decide +kernel
theorem dX3_dropBearer_4 : decode cX3_dropBearer 4 = .ok (.iload_n 1, 1) := by decide +kernel
theorem dX3_dropBearer_5 : decode cX3_dropBearer 5 = .ok (.aaload, 1) := by decide +kernel
theorem dX3_dropBearer_6 : decode cX3_dropBearer 6 = .ok (.astore_n 2, 1) := by decide +kernel
theorem dX3_dropBearer_7 : decode cX3_dropBearer 7 = .ok (.aload_n 0, 1) := by decide +kernel
theorem dX3_dropBearer_8 : decode cX3_dropBearer 8 = .ok (.getfield 24, 3) := by decide +kernel
theorem dX3_dropBearer_11 : decode cX3_dropBearer 11 = .ok (.aload_n 2, 1) := by decide +kernel
theorem dX3_dropBearer_12 : decode cX3_dropBearer 12 = .ok (.getfield 107, 3) := by decide +kernel
theorem dX3_dropBearer_15 : decode cX3_dropBearer 15 = .ok (.dup2, 1) := by decide +kernel
theorem dX3_dropBearer_16 : decode cX3_dropBearer 16 = .ok (.iaload, 1) := by decide +kernel
theorem dX3_dropBearer_17 : decode cX3_dropBearer 17 = .ok (.iconst 1, 1) := by decide +kernel
theorem dX3_dropBearer_18 : decode cX3_dropBearer 18 = .ok (.aload_n 2, 1) := by decide +kernel
theorem dX3_dropBearer_19 : decode cX3_dropBearer 19 = .ok (.getfield 87, 3) := by decide +kernel
theorem dX3_dropBearer_22 : decode cX3_dropBearer 22 = .ok (.ishl, 1) := by decide +kernel
theorem dX3_dropBearer_23 : decode cX3_dropBearer 23 = .ok (.iconst (-1), 1) := by decide +kernel
theorem dX3_dropBearer_24 : decode cX3_dropBearer 24 = .ok (.ixor, 1) := by decide +kernel
theorem dX3_dropBearer_25 : decode cX3_dropBearer 25 = .ok (.iand, 1) := by decide +kernel
theorem dX3_dropBearer_26 : decode cX3_dropBearer 26 = .ok (.iastore, 1) := by decide +kernel
theorem dX3_dropBearer_27 : decode cX3_dropBearer 27 = .ok (.aload_n 0, 1) := by decide +kernel
theorem dX3_dropBearer_28 : decode cX3_dropBearer 28 = .ok (.getfield 27, 3) := by decide +kernel
theorem dX3_dropBearer_31 : decode cX3_dropBearer 31 = .ok (.aload_n 2, 1) := by decide +kernel
theorem dX3_dropBearer_32 : decode cX3_dropBearer 32 = .ok (.getfield 107, 3) := by decide +kernel
theorem dX3_dropBearer_35 : decode cX3_dropBearer 35 = .ok (.dup2, 1) := by decide +kernel
theorem dX3_dropBearer_36 : decode cX3_dropBearer 36 = .ok (.iaload, 1) := by decide +kernel
theorem dX3_dropBearer_37 : decode cX3_dropBearer 37 = .ok (.iconst 1, 1) := by decide +kernel
theorem dX3_dropBearer_38 : decode cX3_dropBearer 38 = .ok (.aload_n 2, 1) := by decide +kernel
theorem dX3_dropBearer_39 : decode cX3_dropBearer 39 = .ok (.getfield 61, 3) := by decide +kernel
theorem dX3_dropBearer_42 : decode cX3_dropBearer 42 = .ok (.ishl, 1) := by decide +kernel
theorem dX3_dropBearer_43 : decode cX3_dropBearer 43 = .ok (.iconst (-1), 1) := by decide +kernel
theorem dX3_dropBearer_44 : decode cX3_dropBearer 44 = .ok (.ixor, 1) := by decide +kernel
theorem dX3_dropBearer_45 : decode cX3_dropBearer 45 = .ok (.iand, 1) := by decide +kernel
theorem dX3_dropBearer_46 : decode cX3_dropBearer 46 = .ok (.iastore, 1) := by decide +kernel
theorem dX3_dropBearer_47 : decode cX3_dropBearer 47 = .ok (.aload_n 0, 1) := by decide +kernel
theorem dX3_dropBearer_48 : decode cX3_dropBearer 48 = .ok (.dup, 1) := by decide +kernel
theorem dX3_dropBearer_49 : decode cX3_dropBearer 49 = .ok (.getfield 58, 3) := by decide +kernel
theorem dX3_dropBearer_52 : decode cX3_dropBearer 52 = .ok (.iconst 1, 1) := by decide +kernel
theorem dX3_dropBearer_53 : decode cX3_dropBearer 53 = .ok (.isub, 1) := by decide +kernel
theorem dX3_dropBearer_54 : decode cX3_dropBearer 54 = .ok (.putfield 58, 3) := by decide +kernel
theorem dX3_dropBearer_57 : decode cX3_dropBearer 57 = .ok (.iload_n 1, 1) := by decide +kernel
theorem dX3_dropBearer_58 : decode cX3_dropBearer 58 = .ok (.istore_n 3, 1) := by decide +kernel
theorem dX3_dropBearer_59 : decode cX3_dropBearer 59 = .ok (.iload_n 3, 1) := by decide +kernel
theorem dX3_dropBearer_60 : decode cX3_dropBearer 60 = .ok (.aload_n 0, 1) := by decide +kernel
theorem dX3_dropBearer_61 : decode cX3_dropBearer 61 = .ok (.getfield 58, 3) := by decide +kernel
theorem dX3_dropBearer_64 : decode cX3_dropBearer 64 = .ok (.if_icmp .ge 23, 3) := by decide +kernel
theorem dX3_dropBearer_67 : decode cX3_dropBearer 67 = .ok (.aload_n 0, 1) := by decide +kernel
theorem dX3_dropBearer_68 : decode cX3_dropBearer 68 = .ok (.getfield 32, 3) := by decide +kernel
theorem dX3_dropBearer_71 : decode cX3_dropBearer 71 = .ok (.iload_n 3, 1) := by decide +kernel
theorem dX3_dropBearer_72 : decode cX3_dropBearer 72 = .ok (.aload_n 0, 1) := by decide +kernel
theorem dX3_dropBearer_73 : decode cX3_dropBearer 73 = .ok (.getfield 32, 3) := by decide +kernel
theorem dX3_dropBearer_76 : decode cX3_dropBearer 76 = .ok (.iload_n 3, 1) := by decide +kernel
theorem dX3_dropBearer_77 : decode cX3_dropBearer 77 = .ok (.iconst 1, 1) := by decide +kernel
theorem dX3_dropBearer_78 : decode cX3_dropBearer 78 = .ok (.iadd, 1) := by decide +kernel
theorem dX3_dropBearer_79 : decode cX3_dropBearer 79 = .ok (.aaload, 1) := by decide +kernel
theorem dX3_dropBearer_80 : decode cX3_dropBearer 80 = .ok (.aastore, 1) := by decide +kernel
theorem dX3_dropBearer_81 : decode cX3_dropBearer 81 = .ok (.iinc 3 1, 3) := by decide +kernel
theorem dX3_dropBearer_84 : decode cX3_dropBearer 84 = .ok (.goto (-25), 3) := by decide +kernel
theorem dX3_dropBearer_87 : decode cX3_dropBearer 87 = .ok (.aload_n 0, 1) := by decide +kernel
theorem dX3_dropBearer_88 : decode cX3_dropBearer 88 = .ok (.getfield 32, 3) := by decide +kernel
theorem dX3_dropBearer_91 : decode cX3_dropBearer 91 = .ok (.aload_n 0, 1) := by decide +kernel
theorem dX3_dropBearer_92 : decode cX3_dropBearer 92 = .ok (.getfield 58, 3) := by decide +kernel
theorem dX3_dropBearer_95 : decode cX3_dropBearer 95 = .ok (.aload_n 2, 1) := by decide +kernel
theorem dX3_dropBearer_96 : decode cX3_dropBearer 96 = .ok (.aastore, 1) := by decide +kernel
theorem dX3_dropBearer_97 : decode cX3_dropBearer 97 = .ok (.return_, 1) := by decide +kernel
theorem dX4_init_0 : decode cX4_init 0 = .ok (.aload_n 0, 1) := by decide +kernel
theorem dX4_init_1 : decode cX4_init 1 = .ok (.invokespecial 3, 3) := by decide +kernel
theorem dX4_init_4 : decode cX4_init 4 = .ok (.aload_n 0, 1) := by decide +kernel
theorem dX4_init_5 : decode cX4_init 5 = .ok (.new 9, 3) := by decide +kernel
theorem dX4_init_8 : decode cX4_init 8 = .ok (.dup, 1) := by decide +kernel
theorem dX4_init_9 : decode cX4_init 9 = .ok (.invokespecial 11, 3) := by decide +kernel
theorem dX4_init_12 : decode cX4_init 12 = .ok (.putfield 12, 3) := by decide +kernel
theorem dX4_init_15 : decode cX4_init 15 = .ok (.aload_n 0, 1) := by decide +kernel
theorem dX4_init_16 : decode cX4_init 16 = .ok (.bipush 8, 2) := by decide +kernel
theorem dX4_init_18 : decode cX4_init 18 = .ok (.anewarray 16, 3) := by decide +kernel
theorem dX4_init_21 : decode cX4_init 21 = .ok (.putfield 18, 3) := by decide +kernel
theorem dX4_init_24 : decode cX4_init 24 = .ok (.aload_n 0, 1) := by decide +kernel
theorem dX4_init_25 : decode cX4_init 25 = .ok (.bipush 7, 2) := by decide +kernel
theorem dX4_init_27 : decode cX4_init 27 = .ok (.newarray .int, 2) := by decide +kernel
theorem dX4_init_29 : decode cX4_init 29 = .ok (.putfield 22, 3) := by decide +kernel
theorem dX4_init_32 : decode cX4_init 32 = .ok (.return_, 1) := by decide +kernel
theorem dX4_cell_0 : decode cX4_cell 0 = .ok (.iload_n 1, 1) := by decide +kernel
theorem dX4_cell_1 : decode cX4_cell 1 = .ok (.invokestatic 26, 3) := by decide +kernel
theorem dX4_cell_4 : decode cX4_cell 4 = .ok (.ifCond .ne 9, 3) := by decide +kernel
theorem dX4_cell_7 : decode cX4_cell 7 = .ok (.aload_n 0, 1) := by decide +kernel
theorem dX4_cell_8 : decode cX4_cell 8 = .ok (.iconst (-1), 1) := by decide +kernel
theorem dX4_cell_9 : decode cX4_cell 9 = .ok (.invokevirtual 30, 3) := by decide +kernel
theorem dX4_cell_12 : decode cX4_cell 12 = .ok (.ireturn, 1) := by decide +kernel
theorem dX4_cell_13 : decode cX4_cell 13 = .ok (.aload_n 0, 1) := by decide +kernel
theorem dX4_cell_14 : decode cX4_cell 14 = .ok (.getfield 12, 3) := by decide +kernel
theorem dX4_cell_17 : decode cX4_cell 17 = .ok (.getfield 34, 3) := by decide +kernel
theorem dX4_cell_20 : decode cX4_cell 20 = .ok (.iconst 4, 1) := by decide +kernel
theorem dX4_cell_21 : decode cX4_cell 21 = .ok (.if_icmp .lt 10, 3) := by decide +kernel
theorem dX4_cell_24 : decode cX4_cell 24 = .ok (.aload_n 0, 1) := by decide +kernel
theorem dX4_cell_25 : decode cX4_cell 25 = .ok (.bipush (-6), 2) := by decide +kernel
theorem dX4_cell_27 : decode cX4_cell 27 = .ok (.invokevirtual 30, 3) := by decide +kernel
theorem dX4_cell_30 : decode cX4_cell 30 = .ok (.ireturn, 1) := by decide +kernel
theorem dX4_cell_31 : decode cX4_cell 31 = .ok (.aload_n 0, 1) := by decide +kernel
theorem dX4_cell_32 : decode cX4_cell 32 = .ok (.getfield 12, 3) := by decide +kernel
theorem dX4_cell_35 : decode cX4_cell 35 = .ok (.iload_n 1, 1) := by decide +kernel
theorem dX4_cell_36 : decode cX4_cell 36 = .ok (.invokevirtual 38, 3) := by decide +kernel
theorem dX4_cell_39 : decode cX4_cell 39 = .ok (.ireturn, 1) := by decide +kernel
theorem dX4_portable_0 : decode cX4_portable 0 = .ok (.iload_n 1, 1) := by decide +kernel
theorem dX4_portable_1 : decode cX4_portable 1 = .ok (.invokestatic 41, 3) := by decide +kernel
theorem dX4_portable_4 : decode cX4_portable 4 = .ok (.ifCond .ne 9, 3) := by decide +kernel
theorem dX4_portable_7 : decode cX4_portable 7 = .ok (.aload_n 0, 1) := by decide +kernel
theorem dX4_portable_8 : decode cX4_portable 8 = .ok (.iconst (-1), 1) := by decide +kernel
theorem dX4_portable_9 : decode cX4_portable 9 = .ok (.invokevirtual 30, 3) := by decide +kernel
theorem dX4_portable_12 : decode cX4_portable 12 = .ok (.ireturn, 1) := by decide +kernel
theorem dX4_portable_13 : decode cX4_portable 13 = .ok (.aload_n 0, 1) := by decide +kernel
theorem dX4_portable_14 : decode cX4_portable 14 = .ok (.getfield 12, 3) := by decide +kernel
theorem dX4_portable_17 : decode cX4_portable 17 = .ok (.getfield 44, 3) := by decide +kernel
theorem dX4_portable_20 : decode cX4_portable 20 = .ok (.bipush 8, 2) := by decide +kernel
theorem dX4_portable_22 : decode cX4_portable 22 = .ok (.if_icmp .lt 10, 3) := by decide +kernel
theorem dX4_portable_25 : decode cX4_portable 25 = .ok (.aload_n 0, 1) := by decide +kernel
theorem dX4_portable_26 : decode cX4_portable 26 = .ok (.bipush (-6), 2) := by decide +kernel
theorem dX4_portable_28 : decode cX4_portable 28 = .ok (.invokevirtual 30, 3) := by decide +kernel
theorem dX4_portable_31 : decode cX4_portable 31 = .ok (.ireturn, 1) := by decide +kernel
theorem dX4_portable_32 : decode cX4_portable 32 = .ok (.aload_n 0, 1) := by decide +kernel
theorem dX4_portable_33 : decode cX4_portable 33 = .ok (.getfield 12, 3) := by decide +kernel
theorem dX4_portable_36 : decode cX4_portable 36 = .ok (.iload_n 1, 1) := by decide +kernel
theorem dX4_portable_37 : decode cX4_portable 37 = .ok (.invokevirtual 47, 3) := by decide +kernel
theorem dX4_portable_40 : decode cX4_portable 40 = .ok (.istore 4, 2) := by decide +kernel
theorem dX4_portable_42 : decode cX4_portable 42 = .ok (.aload_n 0, 1) := by decide +kernel
theorem dX4_portable_43 : decode cX4_portable 43 = .ok (.getfield 18, 3) := by decide +kernel
theorem dX4_portable_46 : decode cX4_portable 46 = .ok (.iload 4, 2) := by decide +kernel
theorem dX4_portable_48 : decode cX4_portable 48 = .ok (.new 16, 3) := by decide +kernel
theorem dX4_portable_51 : decode cX4_portable 51 = .ok (.dup, 1) := by decide +kernel
theorem dX4_portable_52 : decode cX4_portable 52 = .ok (.iload 4, 2) := by decide +kernel
theorem dX4_portable_54 : decode cX4_portable 54 = .ok (.lload_n 2, 1) := by decide +kernel
theorem dX4_portable_55 : decode cX4_portable 55 = .ok (.invokespecial 50, 3) := by decide +kernel
theorem dX4_portable_58 : decode cX4_portable 58 = .ok (.aastore, 1) := by decide +kernel
theorem dX4_portable_59 : decode cX4_portable 59 = .ok (.iload 4, 2) := by decide +kernel
theorem dX4_portable_61 : decode cX4_portable 61 = .ok (.ireturn, 1) := by decide +kernel
theorem dX4_reach_0 : decode cX4_reach 0 = .ok (.iload_n 1, 1) := by decide +kernel
theorem dX4_reach_1 : decode cX4_reach 1 = .ok (.invokestatic 41, 3) := by decide +kernel
theorem dX4_reach_4 : decode cX4_reach 4 = .ok (.ifCond .ne 9, 3) := by decide +kernel
theorem dX4_reach_7 : decode cX4_reach 7 = .ok (.aload_n 0, 1) := by decide +kernel
theorem dX4_reach_8 : decode cX4_reach 8 = .ok (.iconst (-1), 1) := by decide +kernel
theorem dX4_reach_9 : decode cX4_reach 9 = .ok (.invokevirtual 30, 3) := by decide +kernel
theorem dX4_reach_12 : decode cX4_reach 12 = .ok (.ireturn, 1) := by decide +kernel
theorem dX4_reach_13 : decode cX4_reach 13 = .ok (.iload_n 2, 1) := by decide +kernel
theorem dX4_reach_14 : decode cX4_reach 14 = .ok (.ifCond .ge 10, 3) := by decide +kernel
theorem dX4_reach_17 : decode cX4_reach 17 = .ok (.aload_n 0, 1) := by decide +kernel
theorem dX4_reach_18 : decode cX4_reach 18 = .ok (.bipush (-4), 2) := by decide +kernel
theorem dX4_reach_20 : decode cX4_reach 20 = .ok (.invokevirtual 30, 3) := by decide +kernel
theorem dX4_reach_23 : decode cX4_reach 23 = .ok (.ireturn, 1) := by decide +kernel
theorem dX4_reach_24 : decode cX4_reach 24 = .ok (.iload_n 2, 1) := by decide +kernel
theorem dX4_reach_25 : decode cX4_reach 25 = .ok (.bipush 15, 2) := by decide +kernel
theorem dX4_reach_27 : decode cX4_reach 27 = .ok (.if_icmp .le 10, 3) := by decide +kernel
theorem dX4_reach_30 : decode cX4_reach 30 = .ok (.aload_n 0, 1) := by decide +kernel
theorem dX4_reach_31 : decode cX4_reach 31 = .ok (.bipush (-6), 2) := by decide +kernel
theorem dX4_reach_33 : decode cX4_reach 33 = .ok (.invokevirtual 30, 3) := by decide +kernel
theorem dX4_reach_36 : decode cX4_reach 36 = .ok (.ireturn, 1) := by decide +kernel
theorem dX4_reach_37 : decode cX4_reach 37 = .ok (.aload_n 0, 1) := by decide +kernel
theorem dX4_reach_38 : decode cX4_reach 38 = .ok (.getfield 12, 3) := by decide +kernel
theorem dX4_reach_41 : decode cX4_reach 41 = .ok (.getfield 53, 3) := by decide +kernel
theorem dX4_reach_44 : decode cX4_reach 44 = .ok (.iload_n 1, 1) := by decide +kernel
theorem dX4_reach_45 : decode cX4_reach 45 = .ok (.iaload, 1) := by decide +kernel
theorem dX4_reach_46 : decode cX4_reach 46 = .ok (.istore_n 3, 1) := by decide +kernel
theorem dX4_reach_47 : decode cX4_reach 47 = .ok (.aload_n 0, 1) := by decide +kernel
theorem dX4_reach_48 : decode cX4_reach 48 = .ok (.getfield 12, 3) := by decide +kernel
theorem dX4_reach_51 : decode cX4_reach 51 = .ok (.getfield 53, 3) := by decide +kernel
theorem dX4_reach_54 : decode cX4_reach 54 = .ok (.iload_n 1, 1) := by decide +kernel
theorem dX4_reach_55 : decode cX4_reach 55 = .ok (.iload_n 2, 1) := by decide +kernel
theorem dX4_reach_56 : decode cX4_reach 56 = .ok (.iastore, 1) := by decide +kernel
theorem dX4_reach_57 : decode cX4_reach 57 = .ok (.iload_n 3, 1) := by decide +kernel
theorem dX4_reach_58 : decode cX4_reach 58 = .ok (.ireturn, 1) := by decide +kernel
theorem dX4_noise_0 : decode cX4_noise 0 = .ok (.iload_n 1, 1) := by decide +kernel
theorem dX4_noise_1 : decode cX4_noise 1 = .ok (.invokestatic 41, 3) := by decide +kernel
theorem dX4_noise_4 : decode cX4_noise 4 = .ok (.ifCond .ne 23, 3) := by decide +kernel
theorem dX4_noise_7 : decode cX4_noise 7 = .ok (.iload_n 1, 1) := by decide +kernel
theorem dX4_noise_8 : decode cX4_noise 8 = .ok (.bipush 16, 2) := by decide +kernel
theorem dX4_noise_10 : decode cX4_noise 10 = .ok (.if_icmp .lt 21, 3) := by decide +kernel
theorem dX4_noise_13 : decode cX4_noise 13 = .ok (.aload_n 0, 1) := by decide +kernel
theorem dX4_noise_14 : decode cX4_noise 14 = .ok (.getfield 12, 3) := by decide +kernel
theorem dX4_noise_17 : decode cX4_noise 17 = .ok (.iload_n 1, 1) := by decide +kernel
theorem dX4_noise_18 : decode cX4_noise 18 = .ok (.bipush 16, 2) := by decide +kernel
theorem dX4_noise_20 : decode cX4_noise 20 = .ok (.isub, 1) := by decide +kernel
theorem dX4_noise_21 : decode cX4_noise 21 = .ok (.invokevirtual 56, 3) := by decide +kernel
theorem dX4_noise_24 : decode cX4_noise 24 = .ok (.ifCond .eq 7, 3) := by decide +kernel
theorem dX4_noise_27 : decode cX4_noise 27 = .ok (.iconst 1, 1) := by decide +kernel
theorem dX4_noise_28 : decode cX4_noise 28 = .ok (.goto 4, 3) := by decide +kernel
theorem dX4_noise_31 : decode cX4_noise 31 = .ok (.iconst 0, 1) := by decide +kernel
theorem dX4_noise_32 : decode cX4_noise 32 = .ok (.istore 4, 2) := by decide +kernel
theorem dX4_noise_34 : decode cX4_noise 34 = .ok (.iload 4, 2) := by decide +kernel
theorem dX4_noise_36 : decode cX4_noise 36 = .ok (.ifCond .eq 27, 3) := by decide +kernel
theorem dX4_noise_39 : decode cX4_noise 39 = .ok (.iload_n 2, 1) := by decide +kernel
theorem dX4_noise_40 : decode cX4_noise 40 = .ok (.invokestatic 26, 3) := by decide +kernel
theorem dX4_noise_43 : decode cX4_noise 43 = .ok (.ifCond .eq 20, 3) := by decide +kernel
theorem dX4_noise_46 : decode cX4_noise 46 = .ok (.aload_n 0, 1) := by decide +kernel
theorem dX4_noise_47 : decode cX4_noise 47 = .ok (.getfield 12, 3) := by decide +kernel
theorem dX4_noise_50 : decode cX4_noise 50 = .ok (.iload_n 1, 1) := by decide +kernel
theorem dX4_noise_51 : decode cX4_noise 51 = .ok (.iload_n 2, 1) := by decide +kernel
theorem dX4_noise_52 : decode cX4_noise 52 = .ok (.iload_n 3, 1) := by decide +kernel
theorem dX4_noise_53 : decode cX4_noise 53 = .ok (.invokevirtual 59, 3) := by decide +kernel
theorem dX4_noise_56 : decode cX4_noise 56 = .ok (.ifCond .eq 7, 3) := by decide +kernel
theorem dX4_noise_59 : decode cX4_noise 59 = .ok (.iconst 1, 1) := by decide +kernel
theorem dX4_noise_60 : decode cX4_noise 60 = .ok (.goto 4, 3) := by decide +kernel
theorem dX4_noise_63 : decode cX4_noise 63 = .ok (.iconst 0, 1) := by decide +kernel
theorem dX4_noise_64 : decode cX4_noise 64 = .ok (.ireturn, 1) := by decide +kernel
theorem dX4_go_0 : decode cX4_go 0 = .ok (.aload_n 0, 1) := by decide +kernel
theorem dX4_go_1 : decode cX4_go 1 = .ok (.getfield 12, 3) := by decide +kernel
theorem dX4_go_4 : decode cX4_go 4 = .ok (.iload_n 1, 1) := by decide +kernel
theorem dX4_go_5 : decode cX4_go 5 = .ok (.invokevirtual 63, 3) := by decide +kernel
theorem dX4_go_8 : decode cX4_go 8 = .ok (.ifCond .eq 10, 3) := by decide +kernel
theorem dX4_go_11 : decode cX4_go 11 = .ok (.iload_n 2, 1) := by decide +kernel
theorem dX4_go_12 : decode cX4_go 12 = .ok (.invokestatic 41, 3) := by decide +kernel
theorem dX4_go_15 : decode cX4_go 15 = .ok (.ifCond .ne 9, 3) := by decide +kernel
theorem dX4_go_18 : decode cX4_go 18 = .ok (.aload_n 0, 1) := by decide +kernel
theorem dX4_go_19 : decode cX4_go 19 = .ok (.iconst (-1), 1) := by decide +kernel
theorem dX4_go_20 : decode cX4_go 20 = .ok (.invokevirtual 30, 3) := by decide +kernel
theorem dX4_go_23 : decode cX4_go 23 = .ok (.ireturn, 1) := by decide +kernel
theorem dX4_go_24 : decode cX4_go 24 = .ok (.aload_n 0, 1) := by decide +kernel
theorem dX4_go_25 : decode cX4_go 25 = .ok (.getfield 12, 3) := by decide +kernel
theorem dX4_go_28 : decode cX4_go 28 = .ok (.getfield 66, 3) := by decide +kernel
theorem dX4_go_31 : decode cX4_go 31 = .ok (.iload_n 1, 1) := by decide +kernel
theorem dX4_go_32 : decode cX4_go 32 = .ok (.iaload, 1) := by decide +kernel
theorem dX4_go_33 : decode cX4_go 33 = .ok (.istore_n 3, 1) := by decide +kernel
theorem dX4_go_34 : decode cX4_go 34 = .ok (.aload_n 0, 1) := by decide +kernel
theorem dX4_go_35 : decode cX4_go 35 = .ok (.getfield 12, 3) := by decide +kernel
theorem dX4_go_38 : decode cX4_go 38 = .ok (.getfield 66, 3) := by decide +kernel
theorem dX4_go_41 : decode cX4_go 41 = .ok (.iload_n 1, 1) := by decide +kernel
theorem dX4_go_42 : decode cX4_go 42 = .ok (.iload_n 2, 1) := by decide +kernel
theorem dX4_go_43 : decode cX4_go 43 = .ok (.iastore, 1) := by decide +kernel
theorem dX4_go_44 : decode cX4_go 44 = .ok (.iload_n 3, 1) := by decide +kernel
theorem dX4_go_45 : decode cX4_go 45 = .ok (.ireturn, 1) := by decide +kernel
theorem dX4_enter_0 : decode cX4_enter 0 = .ok (.aload_n 0, 1) := by decide +kernel
theorem dX4_enter_1 : decode cX4_enter 1 = .ok (.iload_n 1, 1) := by decide +kernel
theorem dX4_enter_2 : decode cX4_enter 2 = .ok (.invokevirtual 69, 3) := by decide +kernel
theorem dX4_enter_5 : decode cX4_enter 5 = .ok (.astore 4, 2) := by decide +kernel
theorem dX4_enter_7 : decode cX4_enter 7 = .ok (.aload 4, 2) := by decide +kernel
theorem dX4_enter_9 : decode cX4_enter 9 = .ok (.ifnonnull 9, 3) := by decide +kernel
theorem dX4_enter_12 : decode cX4_enter 12 = .ok (.aload_n 0, 1) := by decide +kernel
theorem dX4_enter_13 : decode cX4_enter 13 = .ok (.iconst (-1), 1) := by decide +kernel
theorem dX4_enter_14 : decode cX4_enter 14 = .ok (.invokevirtual 30, 3) := by decide +kernel
theorem dX4_enter_17 : decode cX4_enter 17 = .ok (.ireturn, 1) := by decide +kernel
theorem dX4_enter_18 : decode cX4_enter 18 = .ok (.aload 4, 2) := by decide +kernel
theorem dX4_enter_20 : decode cX4_enter 20 = .ok (.getfield 73, 3) := by decide +kernel
theorem dX4_enter_23 : decode cX4_enter 23 = .ok (.ifCond .eq 10, 3) := by decide +kernel
theorem dX4_enter_26 : decode cX4_enter 26 = .ok (.aload_n 0, 1) := by decide +kernel
theorem dX4_enter_27 : decode cX4_enter 27 = .ok (.bipush (-2), 2) := by decide +kernel
theorem dX4_enter_29 : decode cX4_enter 29 = .ok (.invokevirtual 30, 3) := by decide +kernel
theorem dX4_enter_32 : decode cX4_enter 32 = .ok (.ireturn, 1) := by decide +kernel
theorem dX4_enter_33 : decode cX4_enter 33 = .ok (.aload 4, 2) := by decide +kernel
theorem dX4_enter_35 : decode cX4_enter 35 = .ok (.lload_n 2, 1) := by decide +kernel
theorem dX4_enter_36 : decode cX4_enter 36 = .ok (.putfield 76, 3) := by decide +kernel
theorem dX4_enter_39 : decode cX4_enter 39 = .ok (.aload 4, 2) := by decide +kernel
theorem dX4_enter_41 : decode cX4_enter 41 = .ok (.iconst 1, 1) := by decide +kernel
theorem dX4_enter_42 : decode cX4_enter 42 = .ok (.putfield 80, 3) := by decide +kernel
theorem dX4_enter_45 : decode cX4_enter 45 = .ok (.iconst 1, 1) := by decide +kernel
theorem dX4_enter_46 : decode cX4_enter 46 = .ok (.ireturn, 1) := by decide +kernel
theorem dX4_dial_0 : decode cX4_dial 0 = .ok (.aload_n 0, 1) := by decide +kernel
theorem dX4_dial_1 : decode cX4_dial 1 = .ok (.iload_n 1, 1) := by decide +kernel
theorem dX4_dial_2 : decode cX4_dial 2 = .ok (.invokevirtual 69, 3) := by decide +kernel
theorem dX4_dial_5 : decode cX4_dial 5 = .ok (.astore_n 3, 1) := by decide +kernel
theorem dX4_dial_6 : decode cX4_dial 6 = .ok (.aload_n 0, 1) := by decide +kernel
theorem dX4_dial_7 : decode cX4_dial 7 = .ok (.iload_n 2, 1) := by decide +kernel
theorem dX4_dial_8 : decode cX4_dial 8 = .ok (.invokevirtual 69, 3) := by decide +kernel
theorem dX4_dial_11 : decode cX4_dial 11 = .ok (.astore 4, 2) := by decide +kernel
theorem dX4_dial_13 : decode cX4_dial 13 = .ok (.aload_n 3, 1) := by decide +kernel
theorem dX4_dial_14 : decode cX4_dial 14 = .ok (.ifnull 13, 3) := by decide +kernel
theorem dX4_dial_17 : decode cX4_dial 17 = .ok (.aload 4, 2) := by decide +kernel
theorem dX4_dial_19 : decode cX4_dial 19 = .ok (.ifnull 8, 3) := by decide +kernel
theorem dX4_dial_22 : decode cX4_dial 22 = .ok (.iload_n 1, 1) := by decide +kernel
theorem dX4_dial_23 : decode cX4_dial 23 = .ok (.iload_n 2, 1) := by decide +kernel
theorem dX4_dial_24 : decode cX4_dial 24 = .ok (.if_icmp .ne 9, 3) := by decide +kernel
theorem dX4_dial_27 : decode cX4_dial 27 = .ok (.aload_n 0, 1) := by decide +kernel
theorem dX4_dial_28 : decode cX4_dial 28 = .ok (.iconst (-1), 1) := by decide +kernel
theorem dX4_dial_29 : decode cX4_dial 29 = .ok (.invokevirtual 30, 3) := by decide +kernel
theorem dX4_dial_32 : decode cX4_dial 32 = .ok (.ireturn, 1) := by decide +kernel
theorem dX4_dial_33 : decode cX4_dial 33 = .ok (.aload_n 3, 1) := by decide +kernel
theorem dX4_dial_34 : decode cX4_dial 34 = .ok (.getfield 73, 3) := by decide +kernel
theorem dX4_dial_37 : decode cX4_dial 37 = .ok (.ifCond .eq 10, 3) := by decide +kernel
theorem dX4_dial_40 : decode cX4_dial 40 = .ok (.aload_n 0, 1) := by decide +kernel
theorem dX4_dial_41 : decode cX4_dial 41 = .ok (.bipush (-2), 2) := by decide +kernel
theorem dX4_dial_43 : decode cX4_dial 43 = .ok (.invokevirtual 30, 3) := by decide +kernel
theorem dX4_dial_46 : decode cX4_dial 46 = .ok (.ireturn, 1) := by decide +kernel
theorem dX4_dial_47 : decode cX4_dial 47 = .ok (.aload_n 3, 1) := by decide +kernel
theorem dX4_dial_48 : decode cX4_dial 48 = .ok (.getfield 80, 3) := by decide +kernel
theorem dX4_dial_51 : decode cX4_dial 51 = .ok (.ifCond .eq 11, 3) := by decide +kernel
theorem dX4_dial_54 : decode cX4_dial 54 = .ok (.aload 4, 2) := by decide +kernel
theorem dX4_dial_56 : decode cX4_dial 56 = .ok (.getfield 80, 3) := by decide +kernel
theorem dX4_dial_59 : decode cX4_dial 59 = .ok (.ifCond .ne 10, 3) := by decide +kernel
theorem dX4_dial_62 : decode cX4_dial 62 = .ok (.aload_n 0, 1) := by decide +kernel
theorem dX4_dial_63 : decode cX4_dial 63 = .ok (.bipush (-3), 2) := by decide +kernel
theorem dX4_dial_65 : decode cX4_dial 65 = .ok (.invokevirtual 30, 3) := by decide +kernel
theorem dX4_dial_68 : decode cX4_dial 68 = .ok (.ireturn, 1) := by decide +kernel
theorem dX4_dial_69 : decode cX4_dial 69 = .ok (.aload_n 3, 1) := by decide +kernel
theorem dX4_dial_70 : decode cX4_dial 70 = .ok (.iconst 1, 1) := by decide +kernel
theorem dX4_dial_71 : decode cX4_dial 71 = .ok (.iload_n 2, 1) := by decide +kernel
theorem dX4_dial_72 : decode cX4_dial 72 = .ok (.aload_n 0, 1) := by decide +kernel
theorem dX4_dial_73 : decode cX4_dial 73 = .ok (.getfield 84, 3) := by decide +kernel
theorem dX4_dial_76 : decode cX4_dial 76 = .ok (.invokevirtual 87, 3) := by decide +kernel
theorem dX4_dial_79 : decode cX4_dial 79 = .ok (.iconst 1, 1) := by decide +kernel
theorem dX4_dial_80 : decode cX4_dial 80 = .ok (.ireturn, 1) := by decide +kernel
theorem dX4_answer_0 : decode cX4_answer 0 = .ok (.aload_n 0, 1) := by decide +kernel
theorem dX4_answer_1 : decode cX4_answer 1 = .ok (.iload_n 1, 1) := by decide +kernel
theorem dX4_answer_2 : decode cX4_answer 2 = .ok (.invokevirtual 69, 3) := by decide +kernel
theorem dX4_answer_5 : decode cX4_answer 5 = .ok (.astore_n 2, 1) := by decide +kernel
theorem dX4_answer_6 : decode cX4_answer 6 = .ok (.aload_n 2, 1) := by decide +kernel
theorem dX4_answer_7 : decode cX4_answer 7 = .ok (.ifnonnull 9, 3) := by decide +kernel
theorem dX4_answer_10 : decode cX4_answer 10 = .ok (.aload_n 0, 1) := by decide +kernel
theorem dX4_answer_11 : decode cX4_answer 11 = .ok (.iconst (-1), 1) := by decide +kernel
theorem dX4_answer_12 : decode cX4_answer 12 = .ok (.invokevirtual 30, 3) := by decide +kernel
theorem dX4_answer_15 : decode cX4_answer 15 = .ok (.ireturn, 1) := by decide +kernel
theorem dX4_answer_16 : decode cX4_answer 16 = .ok (.aload_n 0, 1) := by decide +kernel
theorem dX4_answer_17 : decode cX4_answer 17 = .ok (.aload_n 2, 1) := by decide +kernel
theorem dX4_answer_18 : decode cX4_answer 18 = .ok (.getfield 91, 3) := by decide +kernel
theorem dX4_answer_21 : decode cX4_answer 21 = .ok (.invokevirtual 69, 3) := by decide +kernel
theorem dX4_answer_24 : decode cX4_answer 24 = .ok (.astore_n 3, 1) := by decide +kernel
theorem dX4_answer_25 : decode cX4_answer 25 = .ok (.aload_n 2, 1) := by decide +kernel
theorem dX4_answer_26 : decode cX4_answer 26 = .ok (.getfield 73, 3) := by decide +kernel
theorem dX4_answer_29 : decode cX4_answer 29 = .ok (.bipush 6, 2) := by decide +kernel
theorem dX4_answer_31 : decode cX4_answer 31 = .ok (.if_icmp .ne 7, 3) := by decide +kernel
theorem dX4_answer_34 : decode cX4_answer 34 = .ok (.aload_n 3, 1) := by decide +kernel
theorem dX4_answer_35 : decode cX4_answer 35 = .ok (.ifnonnull 10, 3) := by decide +kernel
theorem dX4_answer_38 : decode cX4_answer 38 = .ok (.aload_n 0, 1) := by decide +kernel
theorem dX4_answer_39 : decode cX4_answer 39 = .ok (.bipush (-2), 2) := by decide +kernel
theorem dX4_answer_41 : decode cX4_answer 41 = .ok (.invokevirtual 30, 3) := by decide +kernel
theorem dX4_answer_44 : decode cX4_answer 44 = .ok (.ireturn, 1) := by decide +kernel
theorem dX4_answer_45 : decode cX4_answer 45 = .ok (.aload_n 2, 1) := by decide +kernel
theorem dX4_answer_46 : decode cX4_answer 46 = .ok (.bipush 7, 2) := by decide +kernel
theorem dX4_answer_48 : decode cX4_answer 48 = .ok (.putfield 73, 3) := by decide +kernel
theorem dX4_answer_51 : decode cX4_answer 51 = .ok (.aload_n 3, 1) := by decide +kernel
theorem dX4_answer_52 : decode cX4_answer 52 = .ok (.bipush 7, 2) := by decide +kernel
theorem dX4_answer_54 : decode cX4_answer 54 = .ok (.putfield 73, 3) := by decide +kernel
theorem dX4_answer_57 : decode cX4_answer 57 = .ok (.aload_n 0, 1) := by decide +kernel
theorem dX4_answer_58 : decode cX4_answer 58 = .ok (.dup, 1) := by decide +kernel
theorem dX4_answer_59 : decode cX4_answer 59 = .ok (.getfield 94, 3) := by decide +kernel
theorem dX4_answer_62 : decode cX4_answer 62 = .ok (.iconst 1, 1) := by decide +kernel
theorem dX4_answer_63 : decode cX4_answer 63 = .ok (.iadd, 1) := by decide +kernel
theorem dX4_answer_64 : decode cX4_answer 64 = .ok (.putfield 94, 3) := by decide +kernel
theorem dX4_answer_67 : decode cX4_answer 67 = .ok (.iconst 1, 1) := by decide +kernel
theorem dX4_answer_68 : decode cX4_answer 68 = .ok (.ireturn, 1) := by decide +kernel
theorem dX4_hang_0 : decode cX4_hang 0 = .ok (.aload_n 0, 1) := by decide +kernel
theorem dX4_hang_1 : decode cX4_hang 1 = .ok (.iload_n 1, 1) := by decide +kernel
theorem dX4_hang_2 : decode cX4_hang 2 = .ok (.invokevirtual 69, 3) := by decide +kernel
theorem dX4_hang_5 : decode cX4_hang 5 = .ok (.astore_n 2, 1) := by decide +kernel
theorem dX4_hang_6 : decode cX4_hang 6 = .ok (.aload_n 2, 1) := by decide +kernel
theorem dX4_hang_7 : decode cX4_hang 7 = .ok (.ifnonnull 9, 3) := by decide +kernel
theorem dX4_hang_10 : decode cX4_hang 10 = .ok (.aload_n 0, 1) := by decide +kernel
theorem dX4_hang_11 : decode cX4_hang 11 = .ok (.iconst (-1), 1) := by decide +kernel
theorem dX4_hang_12 : decode cX4_hang 12 = .ok (.invokevirtual 30, 3) := by decide +kernel
theorem dX4_hang_15 : decode cX4_hang 15 = .ok (.ireturn, 1) := by decide +kernel
theorem dX4_hang_16 : decode cX4_hang 16 = .ok (.aload_n 2, 1) := by decide +kernel
theorem dX4_hang_17 : decode cX4_hang 17 = .ok (.getfield 73, 3) := by decide +kernel
theorem dX4_hang_20 : decode cX4_hang 20 = .ok (.ifCond .ne 10, 3) := by decide +kernel
theorem dX4_hang_23 : decode cX4_hang 23 = .ok (.aload_n 0, 1) := by decide +kernel
theorem dX4_hang_24 : decode cX4_hang 24 = .ok (.bipush (-2), 2) := by decide +kernel
theorem dX4_hang_26 : decode cX4_hang 26 = .ok (.invokevirtual 30, 3) := by decide +kernel
theorem dX4_hang_29 : decode cX4_hang 29 = .ok (.ireturn, 1) := by decide +kernel
theorem dX4_hang_30 : decode cX4_hang 30 = .ok (.aload_n 0, 1) := by decide +kernel
theorem dX4_hang_31 : decode cX4_hang 31 = .ok (.aload_n 2, 1) := by decide +kernel
theorem dX4_hang_32 : decode cX4_hang 32 = .ok (.invokevirtual 97, 3) := by decide +kernel
theorem dX4_hang_35 : decode cX4_hang 35 = .ok (.iconst 1, 1) := by decide +kernel
theorem dX4_hang_36 : decode cX4_hang 36 = .ok (.ireturn, 1) := by decide +kernel
theorem dX4_say_0 : decode cX4_say 0 = .ok (.aload_n 0, 1) := by decide +kernel
theorem dX4_say_1 : decode cX4_say 1 = .ok (.iload_n 1, 1) := by decide +kernel
theorem dX4_say_2 : decode cX4_say 2 = .ok (.invokevirtual 69, 3) := by decide +kernel
theorem dX4_say_5 : decode cX4_say 5 = .ok (.astore 4, 2) := by decide +kernel
theorem dX4_say_7 : decode cX4_say 7 = .ok (.aload 4, 2) := by decide +kernel
theorem dX4_say_9 : decode cX4_say 9 = .ok (.ifnonnull 9, 3) := by decide +kernel
theorem dX4_say_12 : decode cX4_say 12 = .ok (.aload_n 0, 1) := by decide +kernel
theorem dX4_say_13 : decode cX4_say 13 = .ok (.iconst (-1), 1) := by decide +kernel
theorem dX4_say_14 : decode cX4_say 14 = .ok (.invokevirtual 30, 3) := by decide +kernel
theorem dX4_say_17 : decode cX4_say 17 = .ok (.ireturn, 1) := by decide +kernel
theorem dX4_say_18 : decode cX4_say 18 = .ok (.aload 4, 2) := by decide +kernel
theorem dX4_say_20 : decode cX4_say 20 = .ok (.getfield 73, 3) := by decide +kernel
theorem dX4_say_23 : decode cX4_say 23 = .ok (.bipush 7, 2) := by decide +kernel
theorem dX4_say_25 : decode cX4_say 25 = .ok (.if_icmp .eq 10, 3) := by decide +kernel
theorem dX4_say_28 : decode cX4_say 28 = .ok (.aload_n 0, 1) := by decide +kernel
theorem dX4_say_29 : decode cX4_say 29 = .ok (.bipush (-2), 2) := by decide +kernel
theorem dX4_say_31 : decode cX4_say 31 = .ok (.invokevirtual 30, 3) := by decide +kernel
theorem dX4_say_34 : decode cX4_say 34 = .ok (.ireturn, 1) := by decide +kernel
theorem dX4_say_35 : decode cX4_say 35 = .ok (.aload 4, 2) := by decide +kernel
theorem dX4_say_37 : decode cX4_say 37 = .ok (.getfield 101, 3) := by decide +kernel
theorem dX4_say_40 : decode cX4_say 40 = .ok (.lload_n 2, 1) := by decide +kernel
theorem dX4_say_41 : decode cX4_say 41 = .ok (.invokevirtual 105, 3) := by decide +kernel
theorem dX4_say_44 : decode cX4_say 44 = .ok (.ifCond .ne 10, 3) := by decide +kernel
theorem dX4_say_47 : decode cX4_say 47 = .ok (.aload_n 0, 1) := by decide +kernel
theorem dX4_say_48 : decode cX4_say 48 = .ok (.bipush (-6), 2) := by decide +kernel
theorem dX4_say_50 : decode cX4_say 50 = .ok (.invokevirtual 30, 3) := by decide +kernel
theorem dX4_say_53 : decode cX4_say 53 = .ok (.ireturn, 1) := by decide +kernel
theorem dX4_say_54 : decode cX4_say 54 = .ok (.aload 4, 2) := by decide +kernel
theorem dX4_say_56 : decode cX4_say 56 = .ok (.getfield 101, 3) := by decide +kernel
theorem dX4_say_59 : decode cX4_say 59 = .ok (.getfield 111, 3) := by decide +kernel
theorem dX4_say_62 : decode cX4_say 62 = .ok (.ireturn, 1) := by decide +kernel
theorem dX4_frames_0 : decode cX4_frames 0 = .ok (.iload_n 1, 1) := by decide +kernel
theorem dX4_frames_1 : decode cX4_frames 1 = .ok (.iconst 1, 1) := by decide +kernel
theorem dX4_frames_2 : decode cX4_frames 2 = .ok (.if_icmp .ge 10, 3) := by decide +kernel
theorem dX4_frames_5 : decode cX4_frames 5 = .ok (.aload_n 0, 1) := by decide +kernel
theorem dX4_frames_6 : decode cX4_frames 6 = .ok (.bipush (-4), 2) := by decide +kernel
theorem dX4_frames_8 : decode cX4_frames 8 = .ok (.invokevirtual 30, 3) := by decide +kernel
theorem dX4_frames_11 : decode cX4_frames 11 = .ok (.ireturn, 1) := by decide +kernel
theorem dX4_frames_12 : decode cX4_frames 12 = .ok (.iload_n 1, 1) := by decide +kernel
theorem dX4_frames_13 : decode cX4_frames 13 = .ok (.sipush 1000, 3) := by decide +kernel
theorem dX4_frames_16 : decode cX4_frames 16 = .ok (.if_icmp .gt 14, 3) := by decide +kernel
theorem dX4_frames_19 : decode cX4_frames 19 = .ok (.aload_n 0, 1) := by decide +kernel
theorem dX4_frames_20 : decode cX4_frames 20 = .ok (.getfield 84, 3) := by decide +kernel
theorem dX4_frames_23 : decode cX4_frames 23 = .ok (.iload_n 1, 1) := by decide +kernel
theorem dX4_frames_24 : decode cX4_frames 24 = .ok (.iadd, 1) := by decide +kernel
theorem dX4_frames_25 : decode cX4_frames 25 = .ok (.ldc 114, 2) := by decide +kernel
theorem dX4_frames_27 : decode cX4_frames 27 = .ok (.if_icmp .le 10, 3) := by decide +kernel
theorem dX4_frames_30 : decode cX4_frames 30 = .ok (.aload_n 0, 1) := by decide +kernel
theorem dX4_frames_31 : decode cX4_frames 31 = .ok (.bipush (-6), 2) := by decide +kernel
theorem dX4_frames_33 : decode cX4_frames 33 = .ok (.invokevirtual 30, 3) := by decide +kernel
theorem dX4_frames_36 : decode cX4_frames 36 = .ok (.ireturn, 1) := by decide +kernel
theorem dX4_frames_37 : decode cX4_frames 37 = .ok (.aload_n 0, 1) := by decide +kernel
theorem dX4_frames_38 : decode cX4_frames 38 = .ok (.getfield 115, 3) := by decide +kernel
theorem dX4_frames_41 : decode cX4_frames 41 = .ok (.istore_n 2, 1) := by decide +kernel
theorem dX4_frames_42 : decode cX4_frames 42 = .ok (.iconst 0, 1) := by decide +kernel
theorem dX4_frames_43 : decode cX4_frames 43 = .ok (.istore_n 3, 1) := by decide +kernel
theorem dX4_frames_44 : decode cX4_frames 44 = .ok (.iload_n 3, 1) := by decide +kernel
theorem dX4_frames_45 : decode cX4_frames 45 = .ok (.iload_n 1, 1) := by decide +kernel
theorem dX4_frames_46 : decode cX4_frames 46 = .ok (.if_icmp .ge 13, 3) := by decide +kernel
theorem dX4_frames_49 : decode cX4_frames 49 = .ok (.aload_n 0, 1) := by decide +kernel
theorem dX4_frames_50 : decode cX4_frames 50 = .ok (.invokevirtual 118, 3) := by decide +kernel
theorem dX4_frames_53 : decode cX4_frames 53 = .ok (.iinc 3 1, 3) := by decide +kernel
theorem dX4_frames_56 : decode cX4_frames 56 = .ok (.goto (-12), 3) := by decide +kernel
theorem dX4_frames_59 : decode cX4_frames 59 = .ok (.aload_n 0, 1) := by decide +kernel
theorem dX4_frames_60 : decode cX4_frames 60 = .ok (.getfield 115, 3) := by decide +kernel
theorem dX4_frames_63 : decode cX4_frames 63 = .ok (.iload_n 2, 1) := by decide +kernel
theorem dX4_frames_64 : decode cX4_frames 64 = .ok (.isub, 1) := by decide +kernel
theorem dX4_frames_65 : decode cX4_frames 65 = .ok (.ireturn, 1) := by decide +kernel
theorem dX4_heard_0 : decode cX4_heard 0 = .ok (.aload_n 0, 1) := by decide +kernel
theorem dX4_heard_1 : decode cX4_heard 1 = .ok (.iload_n 1, 1) := by decide +kernel
theorem dX4_heard_2 : decode cX4_heard 2 = .ok (.invokevirtual 69, 3) := by decide +kernel
theorem dX4_heard_5 : decode cX4_heard 5 = .ok (.astore_n 3, 1) := by decide +kernel
theorem dX4_heard_6 : decode cX4_heard 6 = .ok (.aload_n 3, 1) := by decide +kernel
theorem dX4_heard_7 : decode cX4_heard 7 = .ok (.ifnonnull 7, 3) := by decide +kernel
theorem dX4_heard_10 : decode cX4_heard 10 = .ok (.lconst 0, 1) := by decide +kernel
theorem dX4_heard_11 : decode cX4_heard 11 = .ok (.goto 11, 3) := by decide +kernel
theorem dX4_heard_14 : decode cX4_heard 14 = .ok (.aload_n 3, 1) := by decide +kernel
theorem dX4_heard_15 : decode cX4_heard 15 = .ok (.getfield 121, 3) := by decide +kernel
theorem dX4_heard_18 : decode cX4_heard 18 = .ok (.iload_n 2, 1) := by decide +kernel
theorem dX4_heard_19 : decode cX4_heard 19 = .ok (.invokevirtual 124, 3) := by decide +kernel
theorem dX4_heard_22 : decode cX4_heard 22 = .ok (.lreturn, 1) := by decide +kernel
theorem dX4_portableOf_0 : decode cX4_portableOf 0 = .ok (.aload_n 0, 1) := by decide +kernel
theorem dX4_portableOf_1 : decode cX4_portableOf 1 = .ok (.iload_n 1, 1) := by decide +kernel
theorem dX4_portableOf_2 : decode cX4_portableOf 2 = .ok (.invokevirtual 69, 3) := by decide +kernel
theorem dX4_portableOf_5 : decode cX4_portableOf 5 = .ok (.astore_n 3, 1) := by decide +kernel
theorem dX4_portableOf_6 : decode cX4_portableOf 6 = .ok (.aload_n 3, 1) := by decide +kernel
theorem dX4_portableOf_7 : decode cX4_portableOf 7 = .ok (.ifnonnull 6, 3) := by decide +kernel
theorem dX4_portableOf_10 : decode cX4_portableOf 10 = .ok (.bipush (-9), 2) := by decide +kernel
theorem dX4_portableOf_12 : decode cX4_portableOf 12 = .ok (.ireturn, 1) := by decide +kernel
theorem dX4_portableOf_13 : decode cX4_portableOf 13 = .ok (.iload_n 2, 1) := by decide +kernel
theorem dX4_portableOf_14 : decode cX4_portableOf 14 = .ok (.tableswitch 155 0 9 #[54, 59, 69, 74, 83, 100, 108, 116, 121, 134], 54) := by decide +kernel
theorem dX4_portableOf_68 : decode cX4_portableOf 68 = .ok (.aload_n 3, 1) := by decide +kernel
theorem dX4_portableOf_69 : decode cX4_portableOf 69 = .ok (.getfield 73, 3) := by decide +kernel
theorem dX4_portableOf_72 : decode cX4_portableOf 72 = .ok (.ireturn, 1) := by decide +kernel
theorem dX4_portableOf_73 : decode cX4_portableOf 73 = .ok (.aload_n 0, 1) := by decide +kernel
theorem dX4_portableOf_74 : decode cX4_portableOf 74 = .ok (.getfield 12, 3) := by decide +kernel
theorem dX4_portableOf_77 : decode cX4_portableOf 77 = .ok (.getfield 66, 3) := by decide +kernel
theorem dX4_portableOf_80 : decode cX4_portableOf 80 = .ok (.iload_n 1, 1) := by decide +kernel
theorem dX4_portableOf_81 : decode cX4_portableOf 81 = .ok (.iaload, 1) := by decide +kernel
theorem dX4_portableOf_82 : decode cX4_portableOf 82 = .ok (.ireturn, 1) := by decide +kernel
theorem dX4_portableOf_83 : decode cX4_portableOf 83 = .ok (.aload_n 3, 1) := by decide +kernel
theorem dX4_portableOf_84 : decode cX4_portableOf 84 = .ok (.getfield 91, 3) := by decide +kernel
theorem dX4_portableOf_87 : decode cX4_portableOf 87 = .ok (.ireturn, 1) := by decide +kernel
theorem dX4_portableOf_88 : decode cX4_portableOf 88 = .ok (.aload_n 0, 1) := by decide +kernel
theorem dX4_portableOf_89 : decode cX4_portableOf 89 = .ok (.getfield 12, 3) := by decide +kernel
theorem dX4_portableOf_92 : decode cX4_portableOf 92 = .ok (.iload_n 1, 1) := by decide +kernel
theorem dX4_portableOf_93 : decode cX4_portableOf 93 = .ok (.invokevirtual 128, 3) := by decide +kernel
theorem dX4_portableOf_96 : decode cX4_portableOf 96 = .ok (.ireturn, 1) := by decide +kernel
theorem dX4_portableOf_97 : decode cX4_portableOf 97 = .ok (.aload_n 0, 1) := by decide +kernel
theorem dX4_portableOf_98 : decode cX4_portableOf 98 = .ok (.getfield 12, 3) := by decide +kernel
theorem dX4_portableOf_101 : decode cX4_portableOf 101 = .ok (.iload_n 1, 1) := by decide +kernel
theorem dX4_portableOf_102 : decode cX4_portableOf 102 = .ok (.invokevirtual 131, 3) := by decide +kernel
theorem dX4_portableOf_105 : decode cX4_portableOf 105 = .ok (.ifCond .eq 7, 3) := by decide +kernel
theorem dX4_portableOf_108 : decode cX4_portableOf 108 = .ok (.iconst 1, 1) := by decide +kernel
theorem dX4_portableOf_109 : decode cX4_portableOf 109 = .ok (.goto 4, 3) := by decide +kernel
theorem dX4_portableOf_112 : decode cX4_portableOf 112 = .ok (.iconst 0, 1) := by decide +kernel
theorem dX4_portableOf_113 : decode cX4_portableOf 113 = .ok (.ireturn, 1) := by decide +kernel
theorem dX4_portableOf_114 : decode cX4_portableOf 114 = .ok (.aload_n 3, 1) := by decide +kernel
theorem dX4_portableOf_115 : decode cX4_portableOf 115 = .ok (.getfield 101, 3) := by decide +kernel
theorem dX4_portableOf_118 : decode cX4_portableOf 118 = .ok (.getfield 111, 3) := by decide +kernel
theorem dX4_portableOf_121 : decode cX4_portableOf 121 = .ok (.ireturn, 1) := by decide +kernel
theorem dX4_portableOf_122 : decode cX4_portableOf 122 = .ok (.aload_n 3, 1) := by decide +kernel
theorem dX4_portableOf_123 : decode cX4_portableOf 123 = .ok (.getfield 134, 3) := by decide +kernel
theorem dX4_portableOf_126 : decode cX4_portableOf 126 = .ok (.getfield 111, 3) := by decide +kernel
theorem dX4_portableOf_129 : decode cX4_portableOf 129 = .ok (.ireturn, 1) := by decide +kernel
theorem dX4_portableOf_130 : decode cX4_portableOf 130 = .ok (.aload_n 3, 1) := by decide +kernel
theorem dX4_portableOf_131 : decode cX4_portableOf 131 = .ok (.getfield 137, 3) := by decide +kernel
theorem dX4_portableOf_134 : decode cX4_portableOf 134 = .ok (.ireturn, 1) := by decide +kernel
theorem dX4_portableOf_135 : decode cX4_portableOf 135 = .ok (.aload_n 3, 1) := by decide +kernel
theorem dX4_portableOf_136 : decode cX4_portableOf 136 = .ok (.getfield 80, 3) := by decide +kernel
theorem dX4_portableOf_139 : decode cX4_portableOf 139 = .ok (.ifCond .eq 7, 3) := by decide +kernel
theorem dX4_portableOf_142 : decode cX4_portableOf 142 = .ok (.iconst 1, 1) := by decide +kernel
theorem dX4_portableOf_143 : decode cX4_portableOf 143 = .ok (.goto 4, 3) := by decide +kernel
theorem dX4_portableOf_146 : decode cX4_portableOf 146 = .ok (.iconst 0, 1) := by decide +kernel
theorem dX4_portableOf_147 : decode cX4_portableOf 147 = .ok (.ireturn, 1) := by decide +kernel
theorem dX4_portableOf_148 : decode cX4_portableOf 148 = .ok (.aload_n 3, 1) := by decide +kernel
theorem dX4_portableOf_149 : decode cX4_portableOf 149 = .ok (.invokevirtual 140, 3) := by decide +kernel
theorem dX4_portableOf_152 : decode cX4_portableOf 152 = .ok (.ifCond .eq 15, 3) := by decide +kernel
theorem dX4_portableOf_155 : decode cX4_portableOf 155 = .ok (.aload_n 0, 1) := by decide +kernel
theorem dX4_portableOf_156 : decode cX4_portableOf 156 = .ok (.getfield 84, 3) := by decide +kernel
theorem dX4_portableOf_159 : decode cX4_portableOf 159 = .ok (.aload_n 3, 1) := by decide +kernel
theorem dX4_portableOf_160 : decode cX4_portableOf 160 = .ok (.getfield 144, 3) := by decide +kernel
theorem dX4_portableOf_163 : decode cX4_portableOf 163 = .ok (.isub, 1) := by decide +kernel
theorem dX4_portableOf_164 : decode cX4_portableOf 164 = .ok (.goto 4, 3) := by decide +kernel
theorem dX4_portableOf_167 : decode cX4_portableOf 167 = .ok (.iconst 0, 1) := by decide +kernel
theorem dX4_portableOf_168 : decode cX4_portableOf 168 = .ok (.ireturn, 1) := by decide +kernel
theorem dX4_portableOf_169 : decode cX4_portableOf 169 = .ok (.bipush (-9), 2) := by decide +kernel
theorem dX4_portableOf_171 : decode cX4_portableOf 171 = .ok (.ireturn, 1) := by decide +kernel
theorem dX4_bearer_0 : decode cX4_bearer 0 = .ok (.iload_n 1, 1) := by decide +kernel
theorem dX4_bearer_1 : decode cX4_bearer 1 = .ok (.ifCond .lt 14, 3) := by decide +kernel
theorem dX4_bearer_4 : decode cX4_bearer 4 = .ok (.iload_n 1, 1) := by decide +kernel
theorem dX4_bearer_5 : decode cX4_bearer 5 = .ok (.aload_n 0, 1) := by decide +kernel
theorem dX4_bearer_6 : decode cX4_bearer 6 = .ok (.getfield 12, 3) := by decide +kernel
theorem dX4_bearer_9 : decode cX4_bearer 9 = .ok (.getfield 147, 3) := by decide +kernel
theorem dX4_bearer_12 : decode cX4_bearer 12 = .ok (.if_icmp .lt 6, 3) := by decide +kernel
theorem dX4_bearer_15 : decode cX4_bearer 15 = .ok (.bipush (-9), 2) := by decide +kernel
theorem dX4_bearer_17 : decode cX4_bearer 17 = .ok (.ireturn, 1) := by decide +kernel
theorem dX4_bearer_18 : decode cX4_bearer 18 = .ok (.aload_n 0, 1) := by decide +kernel
theorem dX4_bearer_19 : decode cX4_bearer 19 = .ok (.getfield 12, 3) := by decide +kernel
theorem dX4_bearer_22 : decode cX4_bearer 22 = .ok (.getfield 150, 3) := by decide +kernel
theorem dX4_bearer_25 : decode cX4_bearer 25 = .ok (.iload_n 1, 1) := by decide +kernel
theorem dX4_bearer_26 : decode cX4_bearer 26 = .ok (.aaload, 1) := by decide +kernel
theorem dX4_bearer_27 : decode cX4_bearer 27 = .ok (.astore_n 3, 1) := by decide +kernel
theorem dX4_bearer_28 : decode cX4_bearer 28 = .ok (.iload_n 2, 1) := by decide +kernel
theorem dX4_bearer_29 : decode cX4_bearer 29 = .ok (.tableswitch 68 0 4 #[35, 40, 45, 50, 55], 35) := by decide +kernel
theorem dX4_bearer_64 : decode cX4_bearer 64 = .ok (.aload_n 3, 1) := by decide +kernel
theorem dX4_bearer_65 : decode cX4_bearer 65 = .ok (.getfield 154, 3) := by decide +kernel
theorem dX4_bearer_68 : decode cX4_bearer 68 = .ok (.ireturn, 1) := by decide +kernel
theorem dX4_bearer_69 : decode cX4_bearer 69 = .ok (.aload_n 3, 1) := by decide +kernel
theorem dX4_bearer_70 : decode cX4_bearer 70 = .ok (.getfield 159, 3) := by decide +kernel
theorem dX4_bearer_73 : decode cX4_bearer 73 = .ok (.ireturn, 1) := by decide +kernel
theorem dX4_bearer_74 : decode cX4_bearer 74 = .ok (.aload_n 3, 1) := by decide +kernel
theorem dX4_bearer_75 : decode cX4_bearer 75 = .ok (.getfield 162, 3) := by decide +kernel
theorem dX4_bearer_78 : decode cX4_bearer 78 = .ok (.ireturn, 1) := by decide +kernel
theorem dX4_bearer_79 : decode cX4_bearer 79 = .ok (.aload_n 3, 1) := by decide +kernel
theorem dX4_bearer_80 : decode cX4_bearer 80 = .ok (.getfield 165, 3) := by decide +kernel
theorem dX4_bearer_83 : decode cX4_bearer 83 = .ok (.ireturn, 1) := by decide +kernel
theorem dX4_bearer_84 : decode cX4_bearer 84 = .ok (.aload_n 3, 1) := by decide +kernel
theorem dX4_bearer_85 : decode cX4_bearer 85 = .ok (.getfield 168, 3) := by decide +kernel
theorem dX4_bearer_88 : decode cX4_bearer 88 = .ok (.ifCond .eq 7, 3) := by decide +kernel
theorem dX4_bearer_91 : decode cX4_bearer 91 = .ok (.iconst 1, 1) := by decide +kernel
theorem dX4_bearer_92 : decode cX4_bearer 92 = .ok (.goto 4, 3) := by decide +kernel
theorem dX4_bearer_95 : decode cX4_bearer 95 = .ok (.iconst 0, 1) := by decide +kernel
theorem dX4_bearer_96 : decode cX4_bearer 96 = .ok (.ireturn, 1) := by decide +kernel
theorem dX4_bearer_97 : decode cX4_bearer 97 = .ok (.bipush (-9), 2) := by decide +kernel
theorem dX4_bearer_99 : decode cX4_bearer 99 = .ok (.ireturn, 1) := by decide +kernel
theorem dX4_level_0 : decode cX4_level 0 = .ok (.aload_n 0, 1) := by decide +kernel
theorem dX4_level_1 : decode cX4_level 1 = .ok (.getfield 12, 3) := by decide +kernel
theorem dX4_level_4 : decode cX4_level 4 = .ok (.iload_n 1, 1) := by decide +kernel
theorem dX4_level_5 : decode cX4_level 5 = .ok (.invokevirtual 63, 3) := by decide +kernel
theorem dX4_level_8 : decode cX4_level 8 = .ok (.ifCond .eq 21, 3) := by decide +kernel
theorem dX4_level_11 : decode cX4_level 11 = .ok (.aload_n 0, 1) := by decide +kernel
theorem dX4_level_12 : decode cX4_level 12 = .ok (.getfield 12, 3) := by decide +kernel
theorem dX4_level_15 : decode cX4_level 15 = .ok (.iload_n 2, 1) := by decide +kernel
theorem dX4_level_16 : decode cX4_level 16 = .ok (.invokevirtual 56, 3) := by decide +kernel
theorem dX4_level_19 : decode cX4_level 19 = .ok (.ifCond .eq 10, 3) := by decide +kernel
theorem dX4_level_22 : decode cX4_level 22 = .ok (.iload_n 3, 1) := by decide +kernel
theorem dX4_level_23 : decode cX4_level 23 = .ok (.invokestatic 26, 3) := by decide +kernel
theorem dX4_level_26 : decode cX4_level 26 = .ok (.ifCond .ne 9, 3) := by decide +kernel
theorem dX4_level_29 : decode cX4_level 29 = .ok (.aload_n 0, 1) := by decide +kernel
theorem dX4_level_30 : decode cX4_level 30 = .ok (.iconst (-1), 1) := by decide +kernel
theorem dX4_level_31 : decode cX4_level 31 = .ok (.invokevirtual 30, 3) := by decide +kernel
theorem dX4_level_34 : decode cX4_level 34 = .ok (.ireturn, 1) := by decide +kernel
theorem dX4_level_35 : decode cX4_level 35 = .ok (.aload_n 0, 1) := by decide +kernel
theorem dX4_level_36 : decode cX4_level 36 = .ok (.getfield 12, 3) := by decide +kernel
theorem dX4_level_39 : decode cX4_level 39 = .ok (.iload_n 3, 1) := by decide +kernel
theorem dX4_level_40 : decode cX4_level 40 = .ok (.aload_n 0, 1) := by decide +kernel
theorem dX4_level_41 : decode cX4_level 41 = .ok (.getfield 12, 3) := by decide +kernel
theorem dX4_level_44 : decode cX4_level 44 = .ok (.iload_n 1, 1) := by decide +kernel
theorem dX4_level_45 : decode cX4_level 45 = .ok (.iload_n 2, 1) := by decide +kernel
theorem dX4_level_46 : decode cX4_level 46 = .ok (.invokevirtual 171, 3) := by decide +kernel
theorem dX4_level_49 : decode cX4_level 49 = .ok (.aload_n 0, 1) := by decide +kernel
theorem dX4_level_50 : decode cX4_level 50 = .ok (.getfield 12, 3) := by decide +kernel
theorem dX4_level_53 : decode cX4_level 53 = .ok (.iload_n 1, 1) := by decide +kernel
theorem dX4_level_54 : decode cX4_level 54 = .ok (.iload_n 2, 1) := by decide +kernel
theorem dX4_level_55 : decode cX4_level 55 = .ok (.invokevirtual 175, 3) := by decide +kernel
theorem dX4_level_58 : decode cX4_level 58 = .ok (.aload_n 0, 1) := by decide +kernel
theorem dX4_level_59 : decode cX4_level 59 = .ok (.getfield 12, 3) := by decide +kernel
theorem dX4_level_62 : decode cX4_level 62 = .ok (.iload_n 1, 1) := by decide +kernel
theorem dX4_level_63 : decode cX4_level 63 = .ok (.iload_n 2, 1) := by decide +kernel
theorem dX4_level_64 : decode cX4_level 64 = .ok (.invokevirtual 178, 3) := by decide +kernel
theorem dX4_level_67 : decode cX4_level 67 = .ok (.invokevirtual 181, 3) := by decide +kernel
theorem dX4_level_70 : decode cX4_level 70 = .ok (.ireturn, 1) := by decide +kernel
