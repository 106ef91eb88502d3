theorem dX0_init_0 : decode cX0_init 0 = .ok (.aload_n 0, 1) := by decide +kernel
theorem dX0_init_1 : decode cX0_init 1 = .ok (.invokespecial 1, 3) := by decide +kernel
theorem dX0_init_4 : decode cX0_init 4 = .ok (.return_, 1) := by decide +kernel
theorem dX1_init_0 : decode cX1_init 0 = .ok (.aload_n 0, 1) := by decide +kernel
theorem dX1_init_1 : decode cX1_init 1 = .ok (.invokespecial 1, 3) := by decide +kernel
theorem dX1_init_4 : decode cX1_init 4 = .ok (.aload_n 0, 1) := by decide +kernel
theorem dX1_init_5 : decode cX1_init 5 = .ok (.iload_n 1, 1) := by decide +kernel
theorem dX1_init_6 : decode cX1_init 6 = .ok (.iconst 1, 1) := by decide +kernel
theorem dX1_init_7 : decode cX1_init 7 = .ok (.invokestatic 7, 3) := by decide +kernel
theorem dX1_init_10 : decode cX1_init 10 = .ok (.newarray .long, 2) := by decide +kernel
theorem dX1_init_12 : decode cX1_init 12 = .ok (.putfield 13, 3) := by decide +kernel
theorem dX1_init_15 : decode cX1_init 15 = .ok (.return_, 1) := by decide +kernel
theorem dX1_isFull_0 : decode cX1_isFull 0 = .ok (.aload_n 0, 1) := by decide +kernel
theorem dX1_isFull_1 : decode cX1_isFull 1 = .ok (.getfield 19, 3) := by decide +kernel
theorem dX1_isFull_4 : decode cX1_isFull 4 = .ok (.aload_n 0, 1) := by decide +kernel
theorem dX1_isFull_5 : decode cX1_isFull 5 = .ok (.getfield 13, 3) := by decide +kernel
theorem dX1_isFull_8 : decode cX1_isFull 8 = .ok (.arraylength, 1) := by decide +kernel
theorem dX1_isFull_9 : decode cX1_isFull 9 = .ok (.if_icmp .lt 7, 3) := by decide +kernel
theorem dX1_isFull_12 : decode cX1_isFull 12 = .ok (.iconst 1, 1) := by decide +kernel
theorem dX1_isFull_13 : decode cX1_isFull 13 = .ok (.goto 4, 3) := by decide +kernel
theorem dX1_isFull_16 : decode cX1_isFull 16 = .ok (.iconst 0, 1) := by decide +kernel
theorem dX1_isFull_17 : decode cX1_isFull 17 = .ok (.ireturn, 1) := by decide +kernel
theorem dX1_put_0 : decode cX1_put 0 = .ok (.aload_n 0, 1) := by decide +kernel
theorem dX1_put_1 : decode cX1_put 1 = .ok (.invokevirtual 23, 3) := by decide +kernel
theorem dX1_put_4 : decode cX1_put 4 = .ok (.ifCond .eq 5, 3) := by decide +kernel
theorem dX1_put_7 : decode cX1_put 7 = .ok (.iconst 0, 1) := by decide +kernel
theorem dX1_put_8 : decode cX1_put 8 = .ok (.ireturn, 1) := by decide +kernel
theorem dX1_put_9 : decode cX1_put 9 = .ok (.aload_n 0, 1) := by decide +kernel
theorem dX1_put_10 : decode cX1_put 10 = .ok (.getfield 13, 3) := by decide +kernel
theorem dX1_put_13 : decode cX1_put 13 = .ok (.aload_n 0, 1) := by decide +kernel
theorem dX1_put_14 : decode cX1_put 14 = .ok (.aload_n 0, 1) := by decide +kernel
theorem dX1_put_15 : decode cX1_put 15 = .ok (.getfield 27, 3) := by decide +kernel
theorem dX1_put_18 : decode cX1_put 18 = .ok (.aload_n 0, 1) := by decide +kernel
theorem dX1_put_19 : decode cX1_put 19 = .ok (.getfield 19, 3) := by decide +kernel
theorem dX1_put_22 : decode cX1_put 22 = .ok (.iadd, 1) := by decide +kernel
theorem dX1_put_23 : decode cX1_put 23 = .ok (.invokevirtual 30, 3) := by decide +kernel
theorem dX1_put_26 : decode cX1_put 26 = .ok (.lload_n 1, 1) := by decide +kernel
theorem dX1_put_27 : decode cX1_put 27 = .ok (.lastore, 1) := by decide +kernel
theorem dX1_put_28 : decode cX1_put 28 = .ok (.aload_n 0, 1) := by decide +kernel
theorem dX1_put_29 : decode cX1_put 29 = .ok (.dup, 1) := by decide +kernel
theorem dX1_put_30 : decode cX1_put 30 = .ok (.getfield 19, 3) := by decide +kernel
theorem dX1_put_33 : decode cX1_put 33 = .ok (.iconst 1, 1) := by decide +kernel
theorem dX1_put_34 : decode cX1_put 34 = .ok (.iadd, 1) := by decide +kernel
theorem dX1_put_35 : decode cX1_put 35 = .ok (.putfield 19, 3) := by decide +kernel
theorem dX1_put_38 : decode cX1_put 38 = .ok (.iconst 1, 1) := by decide +kernel
theorem dX1_put_39 : decode cX1_put 39 = .ok (.ireturn, 1) := by decide +kernel
theorem dX1_take_0 : decode cX1_take 0 = .ok (.aload_n 0, 1) := by decide +kernel
theorem dX1_take_1 : decode cX1_take 1 = .ok (.getfield 19, 3) := by decide +kernel
theorem dX1_take_4 : decode cX1_take 4 = .ok (.ifCond .ne 5, 3) := by decide +kernel
theorem dX1_take_7 : decode cX1_take 7 = .ok (.lconst 0, 1) := by decide +kernel
theorem dX1_take_8 : decode cX1_take 8 = .ok (.lreturn, 1) := by decide +kernel
theorem dX1_take_9 : decode cX1_take 9 = .ok (.aload_n 0, 1) := by decide +kernel
theorem dX1_take_10 : decode cX1_take 10 = .ok (.getfield 13, 3) := by decide +kernel
theorem dX1_take_13 : decode cX1_take 13 = .ok (.aload_n 0, 1) := by decide +kernel
theorem dX1_take_14 : decode cX1_take 14 = .ok (.getfield 27, 3) := by decide +kernel
theorem dX1_take_17 : decode cX1_take 17 = .ok (.laload, 1) := by decide +kernel
theorem dX1_take_18 : decode cX1_take 18 = .ok (.lstore_n 1, 1) := by decide +kernel
theorem dX1_take_19 : decode cX1_take 19 = .ok (.aload_n 0, 1) := by decide +kernel
theorem dX1_take_20 : decode cX1_take 20 = .ok (.aload_n 0, 1) := by decide +kernel
theorem dX1_take_21 : decode cX1_take 21 = .ok (.aload_n 0, 1) := by decide +kernel
theorem dX1_take_22 : decode cX1_take 22 = .ok (.getfield 27, 3) := by decide +kernel
theorem dX1_take_25 : decode cX1_take 25 = .ok (.iconst 1, 1) := by decide +kernel
theorem dX1_take_26 : decode cX1_take 26 = .ok (.iadd, 1) := by decide +kernel
theorem dX1_take_27 : decode cX1_take 27 = .ok (.invokevirtual 30, 3) := by decide +kernel
theorem dX1_take_30 : decode cX1_take 30 = .ok (.putfield 27, 3) := by decide +kernel
theorem dX1_take_33 : decode cX1_take 33 = .ok (.aload_n 0, 1) := by decide +kernel
theorem dX1_take_34 : decode cX1_take 34 = .ok (.dup, 1) := by decide +kernel
theorem dX1_take_35 : decode cX1_take 35 = .ok (.getfield 19, 3) := by decide +kernel
theorem dX1_take_38 : decode cX1_take 38 = .ok (.iconst 1, 1) := by decide +kernel
theorem dX1_take_39 : decode cX1_take 39 = .ok (.isub, 1) := by decide +kernel
theorem dX1_take_40 : decode cX1_take 40 = .ok (.putfield 19, 3) := by decide +kernel
theorem dX1_take_43 : decode cX1_take 43 = .ok (.lload_n 1, 1) := by decide +kernel
theorem dX1_take_44 : decode cX1_take 44 = .ok (.lreturn, 1) := by decide +kernel
theorem dX1_at_0 : decode cX1_at 0 = .ok (.iload_n 1, 1) := by decide +kernel
theorem dX1_at_1 : decode cX1_at 1 = .ok (.ifCond .lt 29, 3) := by decide +kernel
theorem dX1_at_4 : decode cX1_at 4 = .ok (.iload_n 1, 1) := by decide +kernel
theorem dX1_at_5 : decode cX1_at 5 = .ok (.aload_n 0, 1) := by decide +kernel
theorem dX1_at_6 : decode cX1_at 6 = .ok (.getfield 19, 3) := by decide +kernel
theorem dX1_at_9 : decode cX1_at 9 = .ok (.if_icmp .ge 21, 3) := by decide +kernel
theorem dX1_at_12 : decode cX1_at 12 = .ok (.aload_n 0, 1) := by decide +kernel
theorem dX1_at_13 : decode cX1_at 13 = .ok (.getfield 13, 3) := by decide +kernel
theorem dX1_at_16 : decode cX1_at 16 = .ok (.aload_n 0, 1) := by decide +kernel
theorem dX1_at_17 : decode cX1_at 17 = .ok (.aload_n 0, 1) := by decide +kernel
theorem dX1_at_18 : decode cX1_at 18 = .ok (.getfield 27, 3) := by decide +kernel
theorem dX1_at_21 : decode cX1_at 21 = .ok (.iload_n 1, 1) := by decide +kernel
theorem dX1_at_22 : decode cX1_at 22 = .ok (.iadd, 1) := by decide +kernel
theorem dX1_at_23 : decode cX1_at 23 = .ok (.invokevirtual 30, 3) := by decide +kernel
theorem dX1_at_26 : decode cX1_at 26 = .ok (.laload, 1) := by decide +kernel
theorem dX1_at_27 : decode cX1_at 27 = .ok (.goto 4, 3) := by decide +kernel
theorem dX1_at_30 : decode cX1_at 30 = .ok (.lconst 0, 1) := by decide +kernel
theorem dX1_at_31 : decode cX1_at 31 = .ok (.lreturn, 1) := by decide +kernel
theorem dX1_clear_0 : decode cX1_clear 0 = .ok (.aload_n 0, 1) := by decide +kernel
theorem dX1_clear_1 : decode cX1_clear 1 = .ok (.iconst 0, 1) := by decide +kernel
theorem dX1_clear_2 : decode cX1_clear 2 = .ok (.putfield 27, 3) := by decide +kernel
theorem dX1_clear_5 : decode cX1_clear 5 = .ok (.aload_n 0, 1) := by decide +kernel
theorem dX1_clear_6 : decode cX1_clear 6 = .ok (.iconst 0, 1) := by decide +kernel
theorem dX1_clear_7 : decode cX1_clear 7 = .ok (.putfield 19, 3) := by decide +kernel
theorem dX1_clear_10 : decode cX1_clear 10 = .ok (.return_, 1) := by decide +kernel
theorem dX1_wrap_0 : decode cX1_wrap 0 = .ok (.iload_n 1, 1) := by decide +kernel
theorem dX1_wrap_1 : decode cX1_wrap 1 = .ok (.aload_n 0, 1) := by decide +kernel
theorem dX1_wrap_2 : decode cX1_wrap 2 = .ok (.getfield 13, 3) := by decide +kernel
theorem dX1_wrap_5 : decode cX1_wrap 5 = .ok (.arraylength, 1) := by decide +kernel
theorem dX1_wrap_6 : decode cX1_wrap 6 = .ok (.if_icmp .ge 7, 3) := by decide +kernel
theorem dX1_wrap_9 : decode cX1_wrap 9 = .ok (.iload_n 1, 1) := by decide +kernel
theorem dX1_wrap_10 : decode cX1_wrap 10 = .ok (.goto 10, 3) := by decide +kernel
theorem dX1_wrap_13 : decode cX1_wrap 13 = .ok (.iload_n 1, 1) := by decide +kernel
theorem dX1_wrap_14 : decode cX1_wrap 14 = .ok (.aload_n 0, 1) := by decide +kernel
theorem dX1_wrap_15 : decode cX1_wrap 15 = .ok (.getfield 13, 3) := by decide +kernel
theorem dX1_wrap_18 : decode cX1_wrap 18 = .ok (.arraylength, 1) := by decide +kernel
theorem dX1_wrap_19 : decode cX1_wrap 19 = .ok (.isub, 1) := by decide +kernel
theorem dX1_wrap_20 : decode cX1_wrap 20 = .ok (.ireturn, 1) := by decide +kernel
theorem dX2_init_0 : decode cX2_init 0 = .ok (.aload_n 0, 1) := by decide +kernel
theorem dX2_init_1 : decode cX2_init 1 = .ok (.invokespecial 3, 3) := by decide +kernel
theorem dX2_init_4 : decode cX2_init 4 = .ok (.aload_n 0, 1) := by decide +kernel
theorem dX2_init_5 : decode cX2_init 5 = .ok (.iconst 0, 1) := by decide +kernel
theorem dX2_init_6 : decode cX2_init 6 = .ok (.putfield 9, 3) := by decide +kernel
theorem dX2_init_9 : decode cX2_init 9 = .ok (.aload_n 0, 1) := by decide +kernel
theorem dX2_init_10 : decode cX2_init 10 = .ok (.bipush (-9), 2) := by decide +kernel
theorem dX2_init_12 : decode cX2_init 12 = .ok (.putfield 15, 3) := by decide +kernel
theorem dX2_init_15 : decode cX2_init 15 = .ok (.aload_n 0, 1) := by decide +kernel
theorem dX2_init_16 : decode cX2_init 16 = .ok (.new 18, 3) := by decide +kernel
theorem dX2_init_19 : decode cX2_init 19 = .ok (.dup, 1) := by decide +kernel
theorem dX2_init_20 : decode cX2_init 20 = .ok (.bipush 8, 2) := by decide +kernel
theorem dX2_init_22 : decode cX2_init 22 = .ok (.invokespecial 20, 3) := by decide +kernel
theorem dX2_init_25 : decode cX2_init 25 = .ok (.putfield 23, 3) := by decide +kernel
theorem dX2_init_28 : decode cX2_init 28 = .ok (.aload_n 0, 1) := by decide +kernel
theorem dX2_init_29 : decode cX2_init 29 = .ok (.new 18, 3) := by decide +kernel
theorem dX2_init_32 : decode cX2_init 32 = .ok (.dup, 1) := by decide +kernel
theorem dX2_init_33 : decode cX2_init 33 = .ok (.bipush 16, 2) := by decide +kernel
theorem dX2_init_35 : decode cX2_init 35 = .ok (.invokespecial 20, 3) := by decide +kernel
theorem dX2_init_38 : decode cX2_init 38 = .ok (.putfield 27, 3) := by decide +kernel
theorem dX2_init_41 : decode cX2_init 41 = .ok (.aload_n 0, 1) := by decide +kernel
theorem dX2_init_42 : decode cX2_init 42 = .ok (.new 18, 3) := by decide +kernel
theorem dX2_init_45 : decode cX2_init 45 = .ok (.dup, 1) := by decide +kernel
theorem dX2_init_46 : decode cX2_init 46 = .ok (.bipush 20, 2) := by decide +kernel
theorem dX2_init_48 : decode cX2_init 48 = .ok (.invokespecial 20, 3) := by decide +kernel
theorem dX2_init_51 : decode cX2_init 51 = .ok (.putfield 30, 3) := by decide +kernel
theorem dX2_init_54 : decode cX2_init 54 = .ok (.aload_n 0, 1) := by decide +kernel
theorem dX2_init_55 : decode cX2_init 55 = .ok (.iload_n 1, 1) := by decide +kernel
theorem dX2_init_56 : decode cX2_init 56 = .ok (.putfield 33, 3) := by decide +kernel
theorem dX2_init_59 : decode cX2_init 59 = .ok (.aload_n 0, 1) := by decide +kernel
theorem dX2_init_60 : decode cX2_init 60 = .ok (.lload_n 2, 1) := by decide +kernel
theorem dX2_init_61 : decode cX2_init 61 = .ok (.putfield 36, 3) := by decide +kernel
theorem dX2_init_64 : decode cX2_init 64 = .ok (.return_, 1) := by decide +kernel
theorem dX2_begin_0 : decode cX2_begin 0 = .ok (.aload_n 0, 1) := by decide +kernel
theorem dX2_begin_1 : decode cX2_begin 1 = .ok (.iload_n 1, 1) := by decide +kernel
theorem dX2_begin_2 : decode cX2_begin 2 = .ok (.putfield 9, 3) := by decide +kernel
theorem dX2_begin_5 : decode cX2_begin 5 = .ok (.aload_n 0, 1) := by decide +kernel
theorem dX2_begin_6 : decode cX2_begin 6 = .ok (.iload_n 2, 1) := by decide +kernel
theorem dX2_begin_7 : decode cX2_begin 7 = .ok (.putfield 15, 3) := by decide +kernel
theorem dX2_begin_10 : decode cX2_begin 10 = .ok (.aload_n 0, 1) := by decide +kernel
theorem dX2_begin_11 : decode cX2_begin 11 = .ok (.iload_n 3, 1) := by decide +kernel
theorem dX2_begin_12 : decode cX2_begin 12 = .ok (.putfield 40, 3) := by decide +kernel
theorem dX2_begin_15 : decode cX2_begin 15 = .ok (.return_, 1) := by decide +kernel
theorem dX2_becomeIdle_0 : decode cX2_becomeIdle 0 = .ok (.aload_n 0, 1) := by decide +kernel
theorem dX2_becomeIdle_1 : decode cX2_becomeIdle 1 = .ok (.iconst 0, 1) := by decide +kernel
theorem dX2_becomeIdle_2 : decode cX2_becomeIdle 2 = .ok (.putfield 9, 3) := by decide +kernel
theorem dX2_becomeIdle_5 : decode cX2_becomeIdle 5 = .ok (.aload_n 0, 1) := by decide +kernel
theorem dX2_becomeIdle_6 : decode cX2_becomeIdle 6 = .ok (.bipush (-9), 2) := by decide +kernel
theorem dX2_becomeIdle_8 : decode cX2_becomeIdle 8 = .ok (.putfield 15, 3) := by decide +kernel
theorem dX2_becomeIdle_11 : decode cX2_becomeIdle 11 = .ok (.aload_n 0, 1) := by decide +kernel
theorem dX2_becomeIdle_12 : decode cX2_becomeIdle 12 = .ok (.getfield 23, 3) := by decide +kernel
theorem dX2_becomeIdle_15 : decode cX2_becomeIdle 15 = .ok (.invokevirtual 43, 3) := by decide +kernel
theorem dX2_becomeIdle_18 : decode cX2_becomeIdle 18 = .ok (.aload_n 0, 1) := by decide +kernel
theorem dX2_becomeIdle_19 : decode cX2_becomeIdle 19 = .ok (.getfield 27, 3) := by decide +kernel
theorem dX2_becomeIdle_22 : decode cX2_becomeIdle 22 = .ok (.invokevirtual 43, 3) := by decide +kernel
theorem dX2_becomeIdle_25 : decode cX2_becomeIdle 25 = .ok (.return_, 1) := by decide +kernel
theorem dX2_keep_0 : decode cX2_keep 0 = .ok (.aload_n 0, 1) := by decide +kernel
theorem dX2_keep_1 : decode cX2_keep 1 = .ok (.getfield 30, 3) := by decide +kernel
theorem dX2_keep_4 : decode cX2_keep 4 = .ok (.invokevirtual 46, 3) := by decide +kernel
theorem dX2_keep_7 : decode cX2_keep 7 = .ok (.ifCond .eq 11, 3) := by decide +kernel
theorem dX2_keep_10 : decode cX2_keep 10 = .ok (.aload_n 0, 1) := by decide +kernel
theorem dX2_keep_11 : decode cX2_keep 11 = .ok (.getfield 30, 3) := by decide +kernel
theorem dX2_keep_14 : decode cX2_keep 14 = .ok (.invokevirtual 50, 3) := by decide +kernel
theorem dX2_keep_17 : decode cX2_keep 17 = .ok (.pop2, 1) := by decide +kernel
theorem dX2_keep_18 : decode cX2_keep 18 = .ok (.aload_n 0, 1) := by decide +kernel
theorem dX2_keep_19 : decode cX2_keep 19 = .ok (.getfield 30, 3) := by decide +kernel
theorem dX2_keep_22 : decode cX2_keep 22 = .ok (.lload_n 1, 1) := by decide +kernel
theorem dX2_keep_23 : decode cX2_keep 23 = .ok (.invokevirtual 54, 3) := by decide +kernel
theorem dX2_keep_26 : decode cX2_keep 26 = .ok (.pop, 1) := by decide +kernel
theorem dX2_keep_27 : decode cX2_keep 27 = .ok (.aload_n 0, 1) := by decide +kernel
theorem dX2_keep_28 : decode cX2_keep 28 = .ok (.dup, 1) := by decide +kernel
theorem dX2_keep_29 : decode cX2_keep 29 = .ok (.getfield 58, 3) := by decide +kernel
theorem dX2_keep_32 : decode cX2_keep 32 = .ok (.iconst 1, 1) := by decide +kernel
theorem dX2_keep_33 : decode cX2_keep 33 = .ok (.iadd, 1) := by decide +kernel
theorem dX2_keep_34 : decode cX2_keep 34 = .ok (.putfield 58, 3) := by decide +kernel
theorem dX2_keep_37 : decode cX2_keep 37 = .ok (.return_, 1) := by decide +kernel
theorem dX2_calls_0 : decode cX2_calls 0 = .ok (.aload_n 0, 1) := by decide +kernel
theorem dX2_calls_1 : decode cX2_calls 1 = .ok (.getfield 9, 3) := by decide +kernel
theorem dX2_calls_4 : decode cX2_calls 4 = .ok (.iconst 1, 1) := by decide +kernel
theorem dX2_calls_5 : decode cX2_calls 5 = .ok (.if_icmp .eq 19, 3) := by decide +kernel
theorem dX2_calls_8 : decode cX2_calls 8 = .ok (.aload_n 0, 1) := by decide +kernel
theorem dX2_calls_9 : decode cX2_calls 9 = .ok (.getfield 9, 3) := by decide +kernel
theorem dX2_calls_12 : decode cX2_calls 12 = .ok (.iconst 2, 1) := by decide +kernel
theorem dX2_calls_13 : decode cX2_calls 13 = .ok (.if_icmp .eq 11, 3) := by decide +kernel
theorem dX2_calls_16 : decode cX2_calls 16 = .ok (.aload_n 0, 1) := by decide +kernel
theorem dX2_calls_17 : decode cX2_calls 17 = .ok (.getfield 9, 3) := by decide +kernel
theorem dX2_calls_20 : decode cX2_calls 20 = .ok (.iconst 3, 1) := by decide +kernel
theorem dX2_calls_21 : decode cX2_calls 21 = .ok (.if_icmp .ne 7, 3) := by decide +kernel
theorem dX2_calls_24 : decode cX2_calls 24 = .ok (.iconst 1, 1) := by decide +kernel
theorem dX2_calls_25 : decode cX2_calls 25 = .ok (.goto 4, 3) := by decide +kernel
theorem dX2_calls_28 : decode cX2_calls 28 = .ok (.iconst 0, 1) := by decide +kernel
theorem dX2_calls_29 : decode cX2_calls 29 = .ok (.ireturn, 1) := by decide +kernel
theorem dX2_isCalled_0 : decode cX2_isCalled 0 = .ok (.aload_n 0, 1) := by decide +kernel
theorem dX2_isCalled_1 : decode cX2_isCalled 1 = .ok (.getfield 9, 3) := by decide +kernel
theorem dX2_isCalled_4 : decode cX2_isCalled 4 = .ok (.iconst 4, 1) := by decide +kernel
theorem dX2_isCalled_5 : decode cX2_isCalled 5 = .ok (.if_icmp .eq 20, 3) := by decide +kernel
theorem dX2_isCalled_8 : decode cX2_isCalled 8 = .ok (.aload_n 0, 1) := by decide +kernel
theorem dX2_isCalled_9 : decode cX2_isCalled 9 = .ok (.getfield 9, 3) := by decide +kernel
theorem dX2_isCalled_12 : decode cX2_isCalled 12 = .ok (.iconst 5, 1) := by decide +kernel
theorem dX2_isCalled_13 : decode cX2_isCalled 13 = .ok (.if_icmp .eq 12, 3) := by decide +kernel
theorem dX2_isCalled_16 : decode cX2_isCalled 16 = .ok (.aload_n 0, 1) := by decide +kernel
theorem dX2_isCalled_17 : decode cX2_isCalled 17 = .ok (.getfield 9, 3) := by decide +kernel
theorem dX2_isCalled_20 : decode cX2_isCalled 20 = .ok (.bipush 6, 2) := by decide +kernel
theorem dX2_isCalled_22 : decode cX2_isCalled 22 = .ok (.if_icmp .ne 7, 3) := by decide +kernel
theorem dX2_isCalled_25 : decode cX2_isCalled 25 = .ok (.iconst 1, 1) := by decide +kernel
theorem dX2_isCalled_26 : decode cX2_isCalled 26 = .ok (.goto 4, 3) := by decide +kernel
theorem dX2_isCalled_29 : decode cX2_isCalled 29 = .ok (.iconst 0, 1) := by decide +kernel
theorem dX2_isCalled_30 : decode cX2_isCalled 30 = .ok (.ireturn, 1) := by decide +kernel
theorem dX2_isPending_0 : decode cX2_isPending 0 = .ok (.aload_n 0, 1) := by decide +kernel
theorem dX2_isPending_1 : decode cX2_isPending 1 = .ok (.invokevirtual 61, 3) := by decide +kernel
theorem dX2_isPending_4 : decode cX2_isPending 4 = .ok (.ifCond .ne 10, 3) := by decide +kernel
theorem dX2_isPending_7 : decode cX2_isPending 7 = .ok (.aload_n 0, 1) := by decide +kernel
theorem dX2_isPending_8 : decode cX2_isPending 8 = .ok (.invokevirtual 64, 3) := by decide +kernel
theorem dX2_isPending_11 : decode cX2_isPending 11 = .ok (.ifCond .eq 7, 3) := by decide +kernel
theorem dX2_isPending_14 : decode cX2_isPending 14 = .ok (.iconst 1, 1) := by decide +kernel
theorem dX2_isPending_15 : decode cX2_isPending 15 = .ok (.goto 4, 3) := by decide +kernel
theorem dX2_isPending_18 : decode cX2_isPending 18 = .ok (.iconst 0, 1) := by decide +kernel
theorem dX2_isPending_19 : decode cX2_isPending 19 = .ok (.ireturn, 1) := by decide +kernel
theorem dX3_init_0 : decode cX3_init 0 = .ok (.aload_n 0, 1) := by decide +kernel
theorem dX3_init_1 : decode cX3_init 1 = .ok (.invokespecial 3, 3) := by decide +kernel
theorem dX3_init_4 : decode cX3_init 4 = .ok (.aload_n 0, 1) := by decide +kernel
theorem dX3_init_5 : decode cX3_init 5 = .ok (.iconst 4, 1) := by decide +kernel
theorem dX3_init_6 : decode cX3_init 6 = .ok (.newarray .int, 2) := by decide +kernel
theorem dX3_init_8 : decode cX3_init 8 = .ok (.putfield 9, 3) := by decide +kernel
theorem dX3_init_11 : decode cX3_init 11 = .ok (.aload_n 0, 1) := by decide +kernel
theorem dX3_init_12 : decode cX3_init 12 = .ok (.bipush 8, 2) := by decide +kernel
theorem dX3_init_14 : decode cX3_init 14 = .ok (.newarray .int, 2) := by decide +kernel
theorem dX3_init_16 : decode cX3_init 16 = .ok (.putfield 15, 3) := by decide +kernel
theorem dX3_init_19 : decode cX3_init 19 = .ok (.aload_n 0, 1) := by decide +kernel
theorem dX3_init_20 : decode cX3_init 20 = .ok (.bipush 16, 2) := by decide +kernel
theorem dX3_init_22 : decode cX3_init 22 = .ok (.newarray .int, 2) := by decide +kernel
theorem dX3_init_24 : decode cX3_init 24 = .ok (.putfield 18, 3) := by decide +kernel
theorem dX3_init_27 : decode cX3_init 27 = .ok (.aload_n 0, 1) := by decide +kernel
theorem dX3_init_28 : decode cX3_init 28 = .ok (.bipush 120, 2) := by decide +kernel
theorem dX3_init_30 : decode cX3_init 30 = .ok (.newarray .int, 2) := by decide +kernel
theorem dX3_init_32 : decode cX3_init 32 = .ok (.putfield 21, 3) := by decide +kernel
theorem dX3_init_35 : decode cX3_init 35 = .ok (.aload_n 0, 1) := by decide +kernel
theorem dX3_init_36 : decode cX3_init 36 = .ok (.bipush 120, 2) := by decide +kernel
theorem dX3_init_38 : decode cX3_init 38 = .ok (.newarray .int, 2) := by decide +kernel
theorem dX3_init_40 : decode cX3_init 40 = .ok (.putfield 24, 3) := by decide +kernel
theorem dX3_init_43 : decode cX3_init 43 = .ok (.aload_n 0, 1) := by decide +kernel
theorem dX3_init_44 : decode cX3_init 44 = .ok (.bipush 120, 2) := by decide +kernel
theorem dX3_init_46 : decode cX3_init 46 = .ok (.newarray .int, 2) := by decide +kernel
theorem dX3_init_48 : decode cX3_init 48 = .ok (.putfield 27, 3) := by decide +kernel
theorem dX3_init_51 : decode cX3_init 51 = .ok (.aload_n 0, 1) := by decide +kernel
theorem dX3_init_52 : decode cX3_init 52 = .ok (.bipush 16, 2) := by decide +kernel
theorem dX3_init_54 : decode cX3_init 54 = .ok (.anewarray 30, 3) := by decide +kernel
theorem dX3_init_57 : decode cX3_init 57 = .ok (.putfield 32, 3) := by decide +kernel
theorem dX3_init_60 : decode cX3_init 60 = .ok (.iconst 0, 1) := by decide +kernel
theorem dX3_init_61 : decode cX3_init 61 = .ok (.istore_n 1, 1) := by decide +kernel
theorem dX3_init_62 : decode cX3_init 62 = .ok (.iload_n 1, 1) := by decide +kernel
theorem dX3_init_63 : decode cX3_init 63 = .ok (.bipush 16, 2) := by decide +kernel
theorem dX3_init_65 : decode cX3_init 65 = .ok (.if_icmp .ge 22, 3) := by decide +kernel
theorem dX3_init_68 : decode cX3_init 68 = .ok (.aload_n 0, 1) := by decide +kernel
theorem dX3_init_69 : decode cX3_init 69 = .ok (.getfield 32, 3) := by decide +kernel
theorem dX3_init_72 : decode cX3_init 72 = .ok (.iload_n 1, 1) := by decide +kernel
theorem dX3_init_73 : decode cX3_init 73 = .ok (.new 30, 3) := by decide +kernel
theorem dX3_init_76 : decode cX3_init 76 = .ok (.dup, 1) := by decide +kernel
theorem dX3_init_77 : decode cX3_init 77 = .ok (.invokespecial 36, 3) := by decide +kernel
theorem dX3_init_80 : decode cX3_init 80 = .ok (.aastore, 1) := by decide +kernel
theorem dX3_init_81 : decode cX3_init 81 = .ok (.iinc 1 1, 3) := by decide +kernel
theorem dX3_init_84 : decode cX3_init 84 = .ok (.goto (-22), 3) := by decide +kernel
theorem dX3_init_87 : decode cX3_init 87 = .ok (.return_, 1) := by decide +kernel
theorem dX3_hasCell_0 : decode cX3_hasCell 0 = .ok (.iload_n 1, 1) := by decide +kernel
theorem dX3_hasCell_1 : decode cX3_hasCell 1 = .ok (.ifCond .lt 15, 3) := by decide +kernel
theorem dX3_hasCell_4 : decode cX3_hasCell 4 = .ok (.iload_n 1, 1) := by decide +kernel
theorem dX3_hasCell_5 : decode cX3_hasCell 5 = .ok (.aload_n 0, 1) := by decide +kernel
theorem dX3_hasCell_6 : decode cX3_hasCell 6 = .ok (.getfield 37, 3) := by decide +kernel
theorem dX3_hasCell_9 : decode cX3_hasCell 9 = .ok (.if_icmp .ge 7, 3) := by decide +kernel
theorem dX3_hasCell_12 : decode cX3_hasCell 12 = .ok (.iconst 1, 1) := by decide +kernel
theorem dX3_hasCell_13 : decode cX3_hasCell 13 = .ok (.goto 4, 3) := by decide +kernel
theorem dX3_hasCell_16 : decode cX3_hasCell 16 = .ok (.iconst 0, 1) := by decide +kernel
theorem dX3_hasCell_17 : decode cX3_hasCell 17 = .ok (.ireturn, 1) := by decide +kernel
theorem dX3_hasPortable_0 : decode cX3_hasPortable 0 = .ok (.iload_n 1, 1) := by decide +kernel
theorem dX3_hasPortable_1 : decode cX3_hasPortable 1 = .ok (.ifCond .lt 15, 3) := by decide +kernel
theorem dX3_hasPortable_4 : decode cX3_hasPortable 4 = .ok (.iload_n 1, 1) := by decide +kernel
theorem dX3_hasPortable_5 : decode cX3_hasPortable 5 = .ok (.aload_n 0, 1) := by decide +kernel
theorem dX3_hasPortable_6 : decode cX3_hasPortable 6 = .ok (.getfield 41, 3) := by decide +kernel
theorem dX3_hasPortable_9 : decode cX3_hasPortable 9 = .ok (.if_icmp .ge 7, 3) := by decide +kernel
theorem dX3_hasPortable_12 : decode cX3_hasPortable 12 = .ok (.iconst 1, 1) := by decide +kernel
theorem dX3_hasPortable_13 : decode cX3_hasPortable 13 = .ok (.goto 4, 3) := by decide +kernel
theorem dX3_hasPortable_16 : decode cX3_hasPortable 16 = .ok (.iconst 0, 1) := by decide +kernel
theorem dX3_hasPortable_17 : decode cX3_hasPortable 17 = .ok (.ireturn, 1) := by decide +kernel
theorem dX3_addCell_0 : decode cX3_addCell 0 = .ok (.aload_n 0, 1) := by decide +kernel
theorem dX3_addCell_1 : decode cX3_addCell 1 = .ok (.getfield 37, 3) := by decide +kernel
theorem dX3_addCell_4 : decode cX3_addCell 4 = .ok (.istore_n 2, 1) := by decide +kernel
theorem dX3_addCell_5 : decode cX3_addCell 5 = .ok (.aload_n 0, 1) := by decide +kernel
theorem dX3_addCell_6 : decode cX3_addCell 6 = .ok (.getfield 9, 3) := by decide +kernel
theorem dX3_addCell_9 : decode cX3_addCell 9 = .ok (.iload_n 2, 1) := by decide +kernel
theorem dX3_addCell_10 : decode cX3_addCell 10 = .ok (.iload_n 1, 1) := by decide +kernel
theorem dX3_addCell_11 : decode cX3_addCell 11 = .ok (.iastore, 1) := by decide +kernel
theorem dX3_addCell_12 : decode cX3_addCell 12 = .ok (.aload_n 0, 1) := by decide +kernel
theorem dX3_addCell_13 : decode cX3_addCell 13 = .ok (.getfield 24, 3) := by decide +kernel
theorem dX3_addCell_16 : decode cX3_addCell 16 = .ok (.iload_n 1, 1) := by decide +kernel
theorem dX3_addCell_17 : decode cX3_addCell 17 = .ok (.dup2, 1) := by decide +kernel
theorem dX3_addCell_18 : decode cX3_addCell 18 = .ok (.iaload, 1) := by decide +kernel
theorem dX3_addCell_19 : decode cX3_addCell 19 = .ok (.iconst 1, 1) := by decide +kernel
theorem dX3_addCell_20 : decode cX3_addCell 20 = .ok (.iload_n 2, 1) := by decide +kernel
theorem dX3_addCell_21 : decode cX3_addCell 21 = .ok (.ishl, 1) := by decide +kernel
theorem dX3_addCell_22 : decode cX3_addCell 22 = .ok (.ior, 1) := by decide +kernel
theorem dX3_addCell_23 : decode cX3_addCell 23 = .ok (.iastore, 1) := by decide +kernel
theorem dX3_addCell_24 : decode cX3_addCell 24 = .ok (.aload_n 0, 1) := by decide +kernel
theorem dX3_addCell_25 : decode cX3_addCell 25 = .ok (.dup, 1) := by decide +kernel
theorem dX3_addCell_26 : decode cX3_addCell 26 = .ok (.getfield 37, 3) := by decide +kernel
theorem dX3_addCell_29 : decode cX3_addCell 29 = .ok (.iconst 1, 1) := by decide +kernel
theorem dX3_addCell_30 : decode cX3_addCell 30 = .ok (.iadd, 1) := by decide +kernel
theorem dX3_addCell_31 : decode cX3_addCell 31 = .ok (.putfield 37, 3) := by decide +kernel
theorem dX3_addCell_34 : decode cX3_addCell 34 = .ok (.iload_n 2, 1) := by decide +kernel
theorem dX3_addCell_35 : decode cX3_addCell 35 = .ok (.ireturn, 1) := by decide +kernel
theorem dX3_addPortable_0 : decode cX3_addPortable 0 = .ok (.aload_n 0, 1) := by decide +kernel
theorem dX3_addPortable_1 : decode cX3_addPortable 1 = .ok (.getfield 41, 3) := by decide +kernel
theorem dX3_addPortable_4 : decode cX3_addPortable 4 = .ok (.istore_n 2, 1) := by decide +kernel
theorem dX3_addPortable_5 : decode cX3_addPortable 5 = .ok (.aload_n 0, 1) := by decide +kernel
theorem dX3_addPortable_6 : decode cX3_addPortable 6 = .ok (.getfield 15, 3) := by decide +kernel
theorem dX3_addPortable_9 : decode cX3_addPortable 9 = .ok (.iload_n 2, 1) := by decide +kernel
theorem dX3_addPortable_10 : decode cX3_addPortable 10 = .ok (.iload_n 1, 1) := by decide +kernel
theorem dX3_addPortable_11 : decode cX3_addPortable 11 = .ok (.iastore, 1) := by decide +kernel
theorem dX3_addPortable_12 : decode cX3_addPortable 12 = .ok (.aload_n 0, 1) := by decide +kernel
theorem dX3_addPortable_13 : decode cX3_addPortable 13 = .ok (.dup, 1) := by decide +kernel
theorem dX3_addPortable_14 : decode cX3_addPortable 14 = .ok (.getfield 41, 3) := by decide +kernel
theorem dX3_addPortable_17 : decode cX3_addPortable 17 = .ok (.iconst 1, 1) := by decide +kernel
theorem dX3_addPortable_18 : decode cX3_addPortable 18 = .ok (.iadd, 1) := by decide +kernel
theorem dX3_addPortable_19 : decode cX3_addPortable 19 = .ok (.putfield 41, 3) := by decide +kernel
theorem dX3_addPortable_22 : decode cX3_addPortable 22 = .ok (.iload_n 2, 1) := by decide +kernel
theorem dX3_addPortable_23 : decode cX3_addPortable 23 = .ok (.ireturn, 1) := by decide +kernel
theorem dX3_changeNoise_0 : decode cX3_changeNoise 0 = .ok (.iconst 1, 1) := by decide +kernel
theorem dX3_changeNoise_1 : decode cX3_changeNoise 1 = .ok (.iload_n 1, 1) := by decide +kernel
theorem dX3_changeNoise_2 : decode cX3_changeNoise 2 = .ok (.ishl, 1) := by decide +kernel
theorem dX3_changeNoise_3 : decode cX3_changeNoise 3 = .ok (.istore 4, 2) := by decide +kernel
theorem dX3_changeNoise_5 : decode cX3_changeNoise 5 = .ok (.aload_n 0, 1) := by decide +kernel
theorem dX3_changeNoise_6 : decode cX3_changeNoise 6 = .ok (.getfield 21, 3) := by decide +kernel
theorem dX3_changeNoise_9 : decode cX3_changeNoise 9 = .ok (.iload_n 2, 1) := by decide +kernel
theorem dX3_changeNoise_10 : decode cX3_changeNoise 10 = .ok (.iaload, 1) := by decide +kernel
theorem dX3_changeNoise_11 : decode cX3_changeNoise 11 = .ok (.iload 4, 2) := by decide +kernel
theorem dX3_changeNoise_13 : decode cX3_changeNoise 13 = .ok (.iand, 1) := by decide +kernel
theorem dX3_changeNoise_14 : decode cX3_changeNoise 14 = .ok (.ifCond .eq 7, 3) := by decide +kernel
theorem dX3_changeNoise_17 : decode cX3_changeNoise 17 = .ok (.iconst 1, 1) := by decide +kernel
theorem dX3_changeNoise_18 : decode cX3_changeNoise 18 = .ok (.goto 4, 3) := by decide +kernel
theorem dX3_changeNoise_21 : decode cX3_changeNoise 21 = .ok (.iconst 0, 1) := by decide +kernel
theorem dX3_changeNoise_22 : decode cX3_changeNoise 22 = .ok (.istore 5, 2) := by decide +kernel
theorem dX3_changeNoise_24 : decode cX3_changeNoise 24 = .ok (.iload 5, 2) := by decide +kernel
theorem dX3_changeNoise_26 : decode cX3_changeNoise 26 = .ok (.iload_n 3, 1) := by decide +kernel
theorem dX3_changeNoise_27 : decode cX3_changeNoise 27 = .ok (.if_icmp .eq 14, 3) := by decide +kernel
theorem dX3_changeNoise_30 : decode cX3_changeNoise 30 = .ok (.aload_n 0, 1) := by decide +kernel
theorem dX3_changeNoise_31 : decode cX3_changeNoise 31 = .ok (.getfield 21, 3) := by decide +kernel
theorem dX3_changeNoise_34 : decode cX3_changeNoise 34 = .ok (.iload_n 2, 1) := by decide +kernel
theorem dX3_changeNoise_35 : decode cX3_changeNoise 35 = .ok (.dup2, 1) := by decide +kernel
theorem dX3_changeNoise_36 : decode cX3_changeNoise 36 = .ok (.iaload, 1) := by decide +kernel
theorem dX3_changeNoise_37 : decode cX3_changeNoise 37 = .ok (.iload 4, 2) := by decide +kernel
theorem dX3_changeNoise_39 : decode cX3_changeNoise 39 = .ok (.ixor, 1) := by decide +kernel
theorem dX3_changeNoise_40 : decode cX3_changeNoise 40 = .ok (.iastore, 1) := by decide +kernel
theorem dX3_changeNoise_41 : decode cX3_changeNoise 41 = .ok (.iload 5, 2) := by decide +kernel
theorem dX3_changeNoise_43 : decode cX3_changeNoise 43 = .ok (.iload_n 3, 1) := by decide +kernel
theorem dX3_changeNoise_44 : decode cX3_changeNoise 44 = .ok (.if_icmp .eq 7, 3) := by decide +kernel
theorem dX3_changeNoise_47 : decode cX3_changeNoise 47 = .ok (.iconst 1, 1) := by decide +kernel
theorem dX3_changeNoise_48 : decode cX3_changeNoise 48 = .ok (.goto 4, 3) := by decide +kernel
theorem dX3_changeNoise_51 : decode cX3_changeNoise 51 = .ok (.iconst 0, 1) := by decide +kernel
theorem dX3_changeNoise_52 : decode cX3_changeNoise 52 = .ok (.ireturn, 1) := by decide +kernel
theorem dX3_noiseBits_0 : decode cX3_noiseBits 0 = .ok (.iconst 1, 1) := by decide +kernel
theorem dX3_noiseBits_1 : decode cX3_noiseBits 1 = .ok (.aload_n 0, 1) := by decide +kernel
theorem dX3_noiseBits_2 : decode cX3_noiseBits 2 = .ok (.getfield 15, 3) := by decide +kernel
theorem dX3_noiseBits_5 : decode cX3_noiseBits 5 = .ok (.iload_n 1, 1) := by decide +kernel
theorem dX3_noiseBits_6 : decode cX3_noiseBits 6 = .ok (.iaload, 1) := by decide +kernel
theorem dX3_noiseBits_7 : decode cX3_noiseBits 7 = .ok (.ishl, 1) := by decide +kernel
theorem dX3_noiseBits_8 : decode cX3_noiseBits 8 = .ok (.iconst 1, 1) := by decide +kernel
theorem dX3_noiseBits_9 : decode cX3_noiseBits 9 = .ok (.bipush 16, 2) := by decide +kernel
theorem dX3_noiseBits_11 : decode cX3_noiseBits 11 = .ok (.iload_n 2, 1) := by decide +kernel
theorem dX3_noiseBits_12 : decode cX3_noiseBits 12 = .ok (.iadd, 1) := by decide +kernel
theorem dX3_noiseBits_13 : decode cX3_noiseBits 13 = .ok (.ishl, 1) := by decide +kernel
theorem dX3_noiseBits_14 : decode cX3_noiseBits 14 = .ok (.ior, 1) := by decide +kernel
theorem dX3_noiseBits_15 : decode cX3_noiseBits 15 = .ok (.ireturn, 1) := by decide +kernel
theorem dX3_otherCells_0 : decode cX3_otherCells 0 = .ok (.aload_n 0, 1) := by decide +kernel
theorem dX3_otherCells_1 : decode cX3_otherCells 1 = .ok (.getfield 18, 3) := by decide +kernel
theorem dX3_otherCells_4 : decode cX3_otherCells 4 = .ok (.aload_n 0, 1) := by decide +kernel
theorem dX3_otherCells_5 : decode cX3_otherCells 5 = .ok (.getfield 15, 3) := by decide +kernel
theorem dX3_otherCells_8 : decode cX3_otherCells 8 = .ok (.iload_n 1, 1) := by decide +kernel
theorem dX3_otherCells_9 : decode cX3_otherCells 9 = .ok (.iaload, 1) := by decide +kernel
theorem dX3_otherCells_10 : decode cX3_otherCells 10 = .ok (.iaload, 1) := by decide +kernel
theorem dX3_otherCells_11 : decode cX3_otherCells 11 = .ok (.iconst 1, 1) := by decide +kernel
theorem dX3_otherCells_12 : decode cX3_otherCells 12 = .ok (.iload_n 2, 1) := by decide +kernel
theorem dX3_otherCells_13 : decode cX3_otherCells 13 = .ok (.ishl, 1) := by decide +kernel
theorem dX3_otherCells_14 : decode cX3_otherCells 14 = .ok (.iconst (-1), 1) := by decide +kernel
theorem dX3_otherCells_15 : decode cX3_otherCells 15 = .ok (.ixor, 1) := by decide +kernel
theorem dX3_otherCells_16 : decode cX3_otherCells 16 = .ok (.iand, 1) := by decide +kernel
theorem dX3_otherCells_17 : decode cX3_otherCells 17 = .ok (.ireturn, 1) := by decide +kernel
theorem dX3_otherPortables_0 : decode cX3_otherPortables 0 = .ok (.iconst 0, 1) := by decide +kernel
theorem dX3_otherPortables_1 : decode cX3_otherPortables 1 = .ok (.istore_n 3, 1) := by decide +kernel
theorem dX3_otherPortables_2 : decode cX3_otherPortables 2 = .ok (.iconst 0, 1) := by decide +kernel
theorem dX3_otherPortables_3 : decode cX3_otherPortables 3 = .ok (.istore 4, 2) := by decide +kernel
theorem dX3_otherPortables_5 : decode cX3_otherPortables 5 = .ok (.iload 4, 2) := by decide +kernel
theorem dX3_otherPortables_7 : decode cX3_otherPortables 7 = .ok (.aload_n 0, 1) := by decide +kernel
theorem dX3_otherPortables_8 : decode cX3_otherPortables 8 = .ok (.getfield 41, 3) := by decide +kernel
theorem dX3_otherPortables_11 : decode cX3_otherPortables 11 = .ok (.if_icmp .ge 37, 3) := by decide +kernel
theorem dX3_otherPortables_14 : decode cX3_otherPortables 14 = .ok (.iload 4, 2) := by decide +kernel
theorem dX3_otherPortables_16 : decode cX3_otherPortables 16 = .ok (.iload_n 1, 1) := by decide +kernel
theorem dX3_otherPortables_17 : decode cX3_otherPortables 17 = .ok (.if_icmp .eq 25, 3) := by decide +kernel
theorem dX3_otherPortables_20 : decode cX3_otherPortables 20 = .ok (.aload_n 0, 1) := by decide +kernel
theorem dX3_otherPortables_21 : decode cX3_otherPortables 21 = .ok (.iload_n 2, 1) := by decide +kernel
theorem dX3_otherPortables_22 : decode cX3_otherPortables 22 = .ok (.aload_n 0, 1) := by decide +kernel
theorem dX3_otherPortables_23 : decode cX3_otherPortables 23 = .ok (.getfield 15, 3) := by decide +kernel
theorem dX3_otherPortables_26 : decode cX3_otherPortables 26 = .ok (.iload 4, 2) := by decide +kernel
theorem dX3_otherPortables_28 : decode cX3_otherPortables 28 = .ok (.iaload, 1) := by decide +kernel
theorem dX3_otherPortables_29 : decode cX3_otherPortables 29 = .ok (.invokevirtual 44, 3) := by decide +kernel
theorem dX3_otherPortables_32 : decode cX3_otherPortables 32 = .ok (.ifCond .eq 10, 3) := by decide +kernel
theorem dX3_otherPortables_35 : decode cX3_otherPortables 35 = .ok (.iload_n 3, 1) := by decide +kernel
theorem dX3_otherPortables_36 : decode cX3_otherPortables 36 = .ok (.iconst 1, 1) := by decide +kernel
theorem dX3_otherPortables_37 : decode cX3_otherPortables 37 = .ok (.iload 4, 2) := by decide +kernel
theorem dX3_otherPortables_39 : decode cX3_otherPortables 39 = .ok (.ishl, 1) := by decide +kernel
theorem dX3_otherPortables_40 : decode cX3_otherPortables 40 = .ok (.ior, 1) := by decide +kernel
theorem dX3_otherPortables_41 : decode cX3_otherPortables 41 = .ok (.istore_n 3, 1) := by decide +kernel
theorem dX3_otherPortables_42 : decode cX3_otherPortables 42 = .ok (.iinc 4 1, 3) := by decide +kernel
theorem dX3_otherPortables_45 : decode cX3_otherPortables 45 = .ok (.goto (-40), 3) := by decide +kernel
theorem dX3_otherPortables_48 : decode cX3_otherPortables 48 = .ok (.iload_n 3, 1) := by decide +kernel
theorem dX3_otherPortables_49 : decode cX3_otherPortables 49 = .ok (.ireturn, 1) := by decide +kernel
theorem dX3_levelOn_0 : decode cX3_levelOn 0 = .ok (.iconst 4, 1) := by decide +kernel
theorem dX3_levelOn_1 : decode cX3_levelOn 1 = .ok (.aload_n 0, 1) := by decide +kernel
theorem dX3_levelOn_2 : decode cX3_levelOn 2 = .ok (.getfield 21, 3) := by decide +kernel
theorem dX3_levelOn_5 : decode cX3_levelOn 5 = .ok (.iload_n 1, 1) := by decide +kernel
theorem dX3_levelOn_6 : decode cX3_levelOn 6 = .ok (.iaload, 1) := by decide +kernel
theorem dX3_levelOn_7 : decode cX3_levelOn 7 = .ok (.iload_n 2, 1) := by decide +kernel
theorem dX3_levelOn_8 : decode cX3_levelOn 8 = .ok (.iand, 1) := by decide +kernel
theorem dX3_levelOn_9 : decode cX3_levelOn 9 = .ok (.invokestatic 48, 3) := by decide +kernel
theorem dX3_levelOn_12 : decode cX3_levelOn 12 = .ok (.imul, 1) := by decide +kernel
theorem dX3_levelOn_13 : decode cX3_levelOn 13 = .ok (.aload_n 0, 1) := by decide +kernel
theorem dX3_levelOn_14 : decode cX3_levelOn 14 = .ok (.getfield 24, 3) := by decide +kernel
theorem dX3_levelOn_17 : decode cX3_levelOn 17 = .ok (.iload_n 1, 1) := by decide +kernel
theorem dX3_levelOn_18 : decode cX3_levelOn 18 = .ok (.iaload, 1) := by decide +kernel
theorem dX3_levelOn_19 : decode cX3_levelOn 19 = .ok (.iload_n 3, 1) := by decide +kernel
theorem dX3_levelOn_20 : decode cX3_levelOn 20 = .ok (.iand, 1) := by decide +kernel
theorem dX3_levelOn_21 : decode cX3_levelOn 21 = .ok (.invokestatic 48, 3) := by decide +kernel
theorem dX3_levelOn_24 : decode cX3_levelOn 24 = .ok (.iadd, 1) := by decide +kernel
theorem dX3_levelOn_25 : decode cX3_levelOn 25 = .ok (.aload_n 0, 1) := by decide +kernel
theorem dX3_levelOn_26 : decode cX3_levelOn 26 = .ok (.getfield 27, 3) := by decide +kernel
theorem dX3_levelOn_29 : decode cX3_levelOn 29 = .ok (.iload_n 1, 1) := by decide +kernel
theorem dX3_levelOn_30 : decode cX3_levelOn 30 = .ok (.iaload, 1) := by decide +kernel
theorem dX3_levelOn_31 : decode cX3_levelOn 31 = .ok (.iload 4, 2) := by decide +kernel
theorem dX3_levelOn_33 : decode cX3_levelOn 33 = .ok (.iand, 1) := by decide +kernel
theorem dX3_levelOn_34 : decode cX3_levelOn 34 = .ok (.invokestatic 48, 3) := by decide +kernel
theorem dX3_levelOn_37 : decode cX3_levelOn 37 = .ok (.iadd, 1) := by decide +kernel
theorem dX3_levelOn_38 : decode cX3_levelOn 38 = .ok (.ireturn, 1) := by decide +kernel
theorem dX3_reachesPlace_0 : decode cX3_reachesPlace 0 = .ok (.aload_n 0, 1) := by decide +kernel
theorem dX3_reachesPlace_1 : decode cX3_reachesPlace 1 = .ok (.getfield 18, 3) := by decide +kernel
theorem dX3_reachesPlace_4 : decode cX3_reachesPlace 4 = .ok (.iload_n 2, 1) := by decide +kernel
theorem dX3_reachesPlace_5 : decode cX3_reachesPlace 5 = .ok (.iaload, 1) := by decide +kernel
theorem dX3_reachesPlace_6 : decode cX3_reachesPlace 6 = .ok (.iconst 1, 1) := by decide +kernel
theorem dX3_reachesPlace_7 : decode cX3_reachesPlace 7 = .ok (.iload_n 1, 1) := by decide +kernel
theorem dX3_reachesPlace_8 : decode cX3_reachesPlace 8 = .ok (.ishl, 1) := by decide +kernel
theorem dX3_reachesPlace_9 : decode cX3_reachesPlace 9 = .ok (.iand, 1) := by decide +kernel
theorem dX3_reachesPlace_10 : decode cX3_reachesPlace 10 = .ok (.ifCond .eq 7, 3) := by decide +kernel
theorem dX3_reachesPlace_13 : decode cX3_reachesPlace 13 = .ok (.iconst 1, 1) := by decide +kernel
theorem dX3_reachesPlace_14 : decode cX3_reachesPlace 14 = .ok (.goto 4, 3) := by decide +kernel
theorem dX3_reachesPlace_17 : decode cX3_reachesPlace 17 = .ok (.iconst 0, 1) := by decide +kernel
theorem dX3_reachesPlace_18 : decode cX3_reachesPlace 18 = .ok (.ireturn, 1) := by decide +kernel
theorem dX3_comesDown_0 : decode cX3_comesDown 0 = .ok (.aload_n 0, 1) := by decide +kernel
theorem dX3_comesDown_1 : decode cX3_comesDown 1 = .ok (.getfield 24, 3) := by decide +kernel
theorem dX3_comesDown_4 : decode cX3_comesDown 4 = .ok (.iload_n 3, 1) := by decide +kernel
theorem dX3_comesDown_5 : decode cX3_comesDown 5 = .ok (.iaload, 1) := by decide +kernel
theorem dX3_comesDown_6 : decode cX3_comesDown 6 = .ok (.aload_n 0, 1) := by decide +kernel
theorem dX3_comesDown_7 : decode cX3_comesDown 7 = .ok (.getfield 18, 3) := by decide +kernel
theorem dX3_comesDown_10 : decode cX3_comesDown 10 = .ok (.iload_n 2, 1) := by decide +kernel
theorem dX3_comesDown_11 : decode cX3_comesDown 11 = .ok (.iaload, 1) := by decide +kernel
theorem dX3_comesDown_12 : decode cX3_comesDown 12 = .ok (.iand, 1) := by decide +kernel
theorem dX3_comesDown_13 : decode cX3_comesDown 13 = .ok (.iconst 1, 1) := by decide +kernel
theorem dX3_comesDown_14 : decode cX3_comesDown 14 = .ok (.iload_n 1, 1) := by decide +kernel
theorem dX3_comesDown_15 : decode cX3_comesDown 15 = .ok (.ishl, 1) := by decide +kernel
theorem dX3_comesDown_16 : decode cX3_comesDown 16 = .ok (.iconst (-1), 1) := by decide +kernel
theorem dX3_comesDown_17 : decode cX3_comesDown 17 = .ok (.ixor, 1) := by decide +kernel
theorem dX3_comesDown_18 : decode cX3_comesDown 18 = .ok (.iand, 1) := by decide +kernel
theorem dX3_comesDown_19 : decode cX3_comesDown 19 = .ok (.istore 4, 2) := by decide +kernel
theorem dX3_comesDown_21 : decode cX3_comesDown 21 = .ok (.aload_n 0, 1) := by decide +kernel
theorem dX3_comesDown_22 : decode cX3_comesDown 22 = .ok (.iload_n 1, 1) := by decide +kernel
theorem dX3_comesDown_23 : decode cX3_comesDown 23 = .ok (.iload_n 2, 1) := by decide +kernel
theorem dX3_comesDown_24 : decode cX3_comesDown 24 = .ok (.invokevirtual 44, 3) := by decide +kernel
theorem dX3_comesDown_27 : decode cX3_comesDown 27 = .ok (.ifCond .eq 25, 3) := by decide +kernel
theorem dX3_comesDown_30 : decode cX3_comesDown 30 = .ok (.aload_n 0, 1) := by decide +kernel
theorem dX3_comesDown_31 : decode cX3_comesDown 31 = .ok (.getfield 21, 3) := by decide +kernel
theorem dX3_comesDown_34 : decode cX3_comesDown 34 = .ok (.iload_n 3, 1) := by decide +kernel
theorem dX3_comesDown_35 : decode cX3_comesDown 35 = .ok (.iaload, 1) := by decide +kernel
theorem dX3_comesDown_36 : decode cX3_comesDown 36 = .ok (.iconst 1, 1) := by decide +kernel
theorem dX3_comesDown_37 : decode cX3_comesDown 37 = .ok (.iload_n 2, 1) := by decide +kernel
theorem dX3_comesDown_38 : decode cX3_comesDown 38 = .ok (.ishl, 1) := by decide +kernel
theorem dX3_comesDown_39 : decode cX3_comesDown 39 = .ok (.iand, 1) := by decide +kernel
theorem dX3_comesDown_40 : decode cX3_comesDown 40 = .ok (.ifCond .ne 12, 3) := by decide +kernel
theorem dX3_comesDown_43 : decode cX3_comesDown 43 = .ok (.iload 4, 2) := by decide +kernel
theorem dX3_comesDown_45 : decode cX3_comesDown 45 = .ok (.ifCond .ne 7, 3) := by decide +kernel
theorem dX3_comesDown_48 : decode cX3_comesDown 48 = .ok (.iconst 1, 1) := by decide +kernel
theorem dX3_comesDown_49 : decode cX3_comesDown 49 = .ok (.goto 4, 3) := by decide +kernel
theorem dX3_comesDown_52 : decode cX3_comesDown 52 = .ok (.iconst 0, 1) := by decide +kernel
theorem dX3_comesDown_53 : decode cX3_comesDown 53 = .ok (.ireturn, 1) := by decide +kernel
theorem dX3_comesUp_0 : decode cX3_comesUp 0 = .ok (.aload_n 0, 1) := by decide +kernel
theorem dX3_comesUp_1 : decode cX3_comesUp 1 = .ok (.iload_n 2, 1) := by decide +kernel
theorem dX3_comesUp_2 : decode cX3_comesUp 2 = .ok (.aload_n 0, 1) := by decide +kernel
theorem dX3_comesUp_3 : decode cX3_comesUp 3 = .ok (.getfield 15, 3) := by decide +kernel
theorem dX3_comesUp_6 : decode cX3_comesUp 6 = .ok (.iload_n 1, 1) := by decide +kernel
theorem dX3_comesUp_7 : decode cX3_comesUp 7 = .ok (.iaload, 1) := by decide +kernel
theorem dX3_comesUp_8 : decode cX3_comesUp 8 = .ok (.invokevirtual 44, 3) := by decide +kernel
theorem dX3_comesUp_11 : decode cX3_comesUp 11 = .ok (.ifCond .eq 39, 3) := by decide +kernel
theorem dX3_comesUp_14 : decode cX3_comesUp 14 = .ok (.aload_n 0, 1) := by decide +kernel
theorem dX3_comesUp_15 : decode cX3_comesUp 15 = .ok (.getfield 21, 3) := by decide +kernel
theorem dX3_comesUp_18 : decode cX3_comesUp 18 = .ok (.iload_n 3, 1) := by decide +kernel
theorem dX3_comesUp_19 : decode cX3_comesUp 19 = .ok (.iaload, 1) := by decide +kernel
theorem dX3_comesUp_20 : decode cX3_comesUp 20 = .ok (.iconst 1, 1) := by decide +kernel
theorem dX3_comesUp_21 : decode cX3_comesUp 21 = .ok (.bipush 16, 2) := by decide +kernel
theorem dX3_comesUp_23 : decode cX3_comesUp 23 = .ok (.iload_n 2, 1) := by decide +kernel
theorem dX3_comesUp_24 : decode cX3_comesUp 24 = .ok (.iadd, 1) := by decide +kernel
theorem dX3_comesUp_25 : decode cX3_comesUp 25 = .ok (.ishl, 1) := by decide +kernel
theorem dX3_comesUp_26 : decode cX3_comesUp 26 = .ok (.iand, 1) := by decide +kernel
theorem dX3_comesUp_27 : decode cX3_comesUp 27 = .ok (.ifCond .ne 23, 3) := by decide +kernel
theorem dX3_comesUp_30 : decode cX3_comesUp 30 = .ok (.aload_n 0, 1) := by decide +kernel
theorem dX3_comesUp_31 : decode cX3_comesUp 31 = .ok (.getfield 27, 3) := by decide +kernel
theorem dX3_comesUp_34 : decode cX3_comesUp 34 = .ok (.iload_n 3, 1) := by decide +kernel
theorem dX3_comesUp_35 : decode cX3_comesUp 35 = .ok (.iaload, 1) := by decide +kernel
theorem dX3_comesUp_36 : decode cX3_comesUp 36 = .ok (.aload_n 0, 1) := by decide +kernel
theorem dX3_comesUp_37 : decode cX3_comesUp 37 = .ok (.iload_n 1, 1) := by decide +kernel
theorem dX3_comesUp_38 : decode cX3_comesUp 38 = .ok (.iload_n 2, 1) := by decide +kernel
theorem dX3_comesUp_39 : decode cX3_comesUp 39 = .ok (.invokevirtual 54, 3) := by decide +kernel
theorem dX3_comesUp_42 : decode cX3_comesUp 42 = .ok (.iand, 1) := by decide +kernel
theorem dX3_comesUp_43 : decode cX3_comesUp 43 = .ok (.ifCond .ne 7, 3) := by decide +kernel
theorem dX3_comesUp_46 : decode cX3_comesUp 46 = .ok (.iconst 1, 1) := by decide +kernel
theorem dX3_comesUp_47 : decode cX3_comesUp 47 = .ok (.goto 4, 3) := by decide +kernel
theorem dX3_comesUp_50 : decode cX3_comesUp 50 = .ok (.iconst 0, 1) := by decide +kernel
theorem dX3_comesUp_51 : decode cX3_comesUp 51 = .ok (.ireturn, 1) := by decide +kernel
theorem dX3_bearersOf_0 : decode cX3_bearersOf 0 = .ok (.iconst 0, 1) := by decide +kernel
theorem dX3_bearersOf_1 : decode cX3_bearersOf 1 = .ok (.istore_n 2, 1) := by decide +kernel
theorem dX3_bearersOf_2 : decode cX3_bearersOf 2 = .ok (.iconst 0, 1) := by decide +kernel
theorem dX3_bearersOf_3 : decode cX3_bearersOf 3 = .ok (.istore_n 3, 1) := by decide +kernel
theorem dX3_bearersOf_4 : decode cX3_bearersOf 4 = .ok (.iload_n 3, 1) := by decide +kernel
theorem dX3_bearersOf_5 : decode cX3_bearersOf 5 = .ok (.aload_n 0, 1) := by decide +kernel
theorem dX3_bearersOf_6 : decode cX3_bearersOf 6 = .ok (.getfield 58, 3) := by decide +kernel
theorem dX3_bearersOf_9 : decode cX3_bearersOf 9 = .ok (.if_icmp .ge 25, 3) := by decide +kernel
theorem dX3_bearersOf_12 : decode cX3_bearersOf 12 = .ok (.aload_n 0, 1) := by decide +kernel
theorem dX3_bearersOf_13 : decode cX3_bearersOf 13 = .ok (.getfield 32, 3) := by decide +kernel
theorem dX3_bearersOf_16 : decode cX3_bearersOf 16 = .ok (.iload_n 3, 1) := by decide +kernel
theorem dX3_bearersOf_17 : decode cX3_bearersOf 17 = .ok (.aaload, 1) := by decide +kernel
theorem dX3_bearersOf_18 : decode cX3_bearersOf 18 = .ok (.getfield 61, 3) := by decide +kernel
theorem dX3_bearersOf_21 : decode cX3_bearersOf 21 = .ok (.iload_n 1, 1) := by decide +kernel
theorem dX3_bearersOf_22 : decode cX3_bearersOf 22 = .ok (.if_icmp .ne 6, 3) := by decide +kernel
theorem dX3_bearersOf_25 : decode cX3_bearersOf 25 = .ok (.iinc 2 1, 3) := by decide +kernel
theorem dX3_bearersOf_28 : decode cX3_bearersOf 28 = .ok (.iinc 3 1, 3) := by decide +kernel
theorem dX3_bearersOf_31 : decode cX3_bearersOf 31 = .ok (.goto (-27), 3) := by decide +kernel
theorem dX3_bearersOf_34 : decode cX3_bearersOf 34 = .ok (.iload_n 2, 1) := by decide +kernel
theorem dX3_bearersOf_35 : decode cX3_bearersOf 35 = .ok (.ireturn, 1) := by decide +kernel
theorem dX3_firstBearerOf_0 : decode cX3_firstBearerOf 0 = .ok (.iconst 0, 1) := by decide +kernel
theorem dX3_firstBearerOf_1 : decode cX3_firstBearerOf 1 = .ok (.istore_n 2, 1) := by decide +kernel
theorem dX3_firstBearerOf_2 : decode cX3_firstBearerOf 2 = .ok (.iload_n 2, 1) := by decide +kernel
theorem dX3_firstBearerOf_3 : decode cX3_firstBearerOf 3 = .ok (.aload_n 0, 1) := by decide +kernel
theorem dX3_firstBearerOf_4 : decode cX3_firstBearerOf 4 = .ok (.getfield 58, 3) := by decide +kernel
theorem dX3_firstBearerOf_7 : decode cX3_firstBearerOf 7 = .ok (.if_icmp .ge 24, 3) := by decide +kernel
theorem dX3_firstBearerOf_10 : decode cX3_firstBearerOf 10 = .ok (.aload_n 0, 1) := by decide +kernel
theorem dX3_firstBearerOf_11 : decode cX3_firstBearerOf 11 = .ok (.getfield 32, 3) := by decide +kernel
theorem dX3_firstBearerOf_14 : decode cX3_firstBearerOf 14 = .ok (.iload_n 2, 1) := by decide +kernel
theorem dX3_firstBearerOf_15 : decode cX3_firstBearerOf 15 = .ok (.aaload, 1) := by decide +kernel
theorem dX3_firstBearerOf_16 : decode cX3_firstBearerOf 16 = .ok (.getfield 61, 3) := by decide +kernel
theorem dX3_firstBearerOf_19 : decode cX3_firstBearerOf 19 = .ok (.iload_n 1, 1) := by decide +kernel
theorem dX3_firstBearerOf_20 : decode cX3_firstBearerOf 20 = .ok (.if_icmp .ne 5, 3) := by decide +kernel
theorem dX3_firstBearerOf_23 : decode cX3_firstBearerOf 23 = .ok (.iload_n 2, 1) := by decide +kernel
theorem dX3_firstBearerOf_24 : decode cX3_firstBearerOf 24 = .ok (.ireturn, 1) := by decide +kernel
theorem dX3_firstBearerOf_25 : decode cX3_firstBearerOf 25 = .ok (.iinc 2 1, 3) := by decide +kernel
theorem dX3_firstBearerOf_28 : decode cX3_firstBearerOf 28 = .ok (.goto (-26), 3) := by decide +kernel
theorem dX3_firstBearerOf_31 : decode cX3_firstBearerOf 31 = .ok (.bipush (-9), 2) := by decide +kernel
theorem dX3_firstBearerOf_33 : decode cX3_firstBearerOf 33 = .ok (.ireturn, 1) := by decide +kernel
theorem dX3_lastBearerOf_0 : decode cX3_lastBearerOf 0 = .ok (.aload_n 0, 1) := by decide +kernel
theorem dX3_lastBearerOf_1 : decode cX3_lastBearerOf 1 = .ok (.getfield 58, 3) := by decide +kernel
theorem dX3_lastBearerOf_4 : decode cX3_lastBearerOf 4 = .ok (.iconst 1, 1) := by decide +kernel
theorem dX3_lastBearerOf_5 : decode cX3_lastBearerOf 5 = .ok (.isub, 1) := by decide +kernel
theorem dX3_lastBearerOf_6 : decode cX3_lastBearerOf 6 = .ok (.istore_n 2, 1) := by decide +kernel
theorem dX3_lastBearerOf_7 : decode cX3_lastBearerOf 7 = .ok (.iload_n 2, 1) := by decide +kernel
theorem dX3_lastBearerOf_8 : decode cX3_lastBearerOf 8 = .ok (.ifCond .lt 24, 3) := by decide +kernel
theorem dX3_lastBearerOf_11 : decode cX3_lastBearerOf 11 = .ok (.aload_n 0, 1) := by decide +kernel
theorem dX3_lastBearerOf_12 : decode cX3_lastBearerOf 12 = .ok (.getfield 32, 3) := by decide +kernel
theorem dX3_lastBearerOf_15 : decode cX3_lastBearerOf 15 = .ok (.iload_n 2, 1) := by decide +kernel
theorem dX3_lastBearerOf_16 : decode cX3_lastBearerOf 16 = .ok (.aaload, 1) := by decide +kernel
theorem dX3_lastBearerOf_17 : decode cX3_lastBearerOf 17 = .ok (.getfield 61, 3) := by decide +kernel
theorem dX3_lastBearerOf_20 : decode cX3_lastBearerOf 20 = .ok (.iload_n 1, 1) := by decide +kernel
theorem dX3_lastBearerOf_21 : decode cX3_lastBearerOf 21 = .ok (.if_icmp .ne 5, 3) := by decide +kernel
theorem dX3_lastBearerOf_24 : decode cX3_lastBearerOf 24 = .ok (.iload_n 2, 1) := by decide +kernel
theorem dX3_lastBearerOf_25 : decode cX3_lastBearerOf 25 = .ok (.ireturn, 1) := by decide +kernel
theorem dX3_lastBearerOf_26 : decode cX3_lastBearerOf 26 = .ok (.iinc 2 (-1), 3) := by decide +kernel
theorem dX3_lastBearerOf_29 : decode cX3_lastBearerOf 29 = .ok (.goto (-22), 3) := by decide +kernel
theorem dX3_lastBearerOf_32 : decode cX3_lastBearerOf 32 = .ok (.bipush (-9), 2) := by decide +kernel
theorem dX3_lastBearerOf_34 : decode cX3_lastBearerOf 34 = .ok (.ireturn, 1) := by decide +kernel
theorem dX3_handsOver_0 : decode cX3_handsOver 0 = .ok (.aload_n 0, 1) := by decide +kernel
theorem dX3_handsOver_1 : decode cX3_handsOver 1 = .ok (.iload_n 1, 1) := by decide +kernel
theorem dX3_handsOver_2 : decode cX3_handsOver 2 = .ok (.invokevirtual 64, 3) := by decide +kernel
theorem dX3_handsOver_5 : decode cX3_handsOver 5 = .ok (.istore_n 2, 1) := by decide +kernel
theorem dX3_handsOver_6 : decode cX3_handsOver 6 = .ok (.iload_n 2, 1) := by decide +kernel
theorem dX3_handsOver_7 : decode cX3_handsOver 7 = .ok (.ifCond .lt 29, 3) := by decide +kernel
theorem dX3_handsOver_10 : decode cX3_handsOver 10 = .ok (.iload_n 2, 1) := by decide +kernel
theorem dX3_handsOver_11 : decode cX3_handsOver 11 = .ok (.aload_n 0, 1) := by decide +kernel
theorem dX3_handsOver_12 : decode cX3_handsOver 12 = .ok (.iload_n 1, 1) := by decide +kernel
theorem dX3_handsOver_13 : decode cX3_handsOver 13 = .ok (.invokevirtual 67, 3) := by decide +kernel
theorem dX3_handsOver_16 : decode cX3_handsOver 16 = .ok (.if_icmp .ne 20, 3) := by decide +kernel
theorem dX3_handsOver_19 : decode cX3_handsOver 19 = .ok (.aload_n 0, 1) := by decide +kernel
theorem dX3_handsOver_20 : decode cX3_handsOver 20 = .ok (.getfield 32, 3) := by decide +kernel
theorem dX3_handsOver_23 : decode cX3_handsOver 23 = .ok (.iload_n 2, 1) := by decide +kernel
theorem dX3_handsOver_24 : decode cX3_handsOver 24 = .ok (.aaload, 1) := by decide +kernel
theorem dX3_handsOver_25 : decode cX3_handsOver 25 = .ok (.getfield 70, 3) := by decide +kernel
theorem dX3_handsOver_28 : decode cX3_handsOver 28 = .ok (.iconst 3, 1) := by decide +kernel
theorem dX3_handsOver_29 : decode cX3_handsOver 29 = .ok (.if_icmp .lt 7, 3) := by decide +kernel
theorem dX3_handsOver_32 : decode cX3_handsOver 32 = .ok (.iconst 1, 1) := by decide +kernel
theorem dX3_handsOver_33 : decode cX3_handsOver 33 = .ok (.goto 4, 3) := by decide +kernel
theorem dX3_handsOver_36 : decode cX3_handsOver 36 = .ok (.iconst 0, 1) := by decide +kernel
theorem dX3_handsOver_37 : decode cX3_handsOver 37 = .ok (.ireturn, 1) := by decide +kernel
theorem dX3_hasGoodBearer_0 : decode cX3_hasGoodBearer 0 = .ok (.iconst 0, 1) := by decide +kernel
theorem dX3_hasGoodBearer_1 : decode cX3_hasGoodBearer 1 = .ok (.istore_n 2, 1) := by decide +kernel
theorem dX3_hasGoodBearer_2 : decode cX3_hasGoodBearer 2 = .ok (.iload_n 2, 1) := by decide +kernel
theorem dX3_hasGoodBearer_3 : decode cX3_hasGoodBearer 3 = .ok (.aload_n 0, 1) := by decide +kernel
theorem dX3_hasGoodBearer_4 : decode cX3_hasGoodBearer 4 = .ok (.getfield 58, 3) := by decide +kernel
theorem dX3_hasGoodBearer_7 : decode cX3_hasGoodBearer 7 = .ok (.if_icmp .ge 36, 3) := by decide +kernel
theorem dX3_hasGoodBearer_10 : decode cX3_hasGoodBearer 10 = .ok (.aload_n 0, 1) := by decide +kernel
theorem dX3_hasGoodBearer_11 : decode cX3_hasGoodBearer 11 = .ok (.getfield 32, 3) := by decide +kernel
theorem dX3_hasGoodBearer_14 : decode cX3_hasGoodBearer 14 = .ok (.iload_n 2, 1) := by decide +kernel
theorem dX3_hasGoodBearer_15 : decode cX3_hasGoodBearer 15 = .ok (.aaload, 1) := by decide +kernel
theorem dX3_hasGoodBearer_16 : decode cX3_hasGoodBearer 16 = .ok (.getfield 61, 3) := by decide +kernel
theorem dX3_hasGoodBearer_19 : decode cX3_hasGoodBearer 19 = .ok (.iload_n 1, 1) := by decide +kernel
theorem dX3_hasGoodBearer_20 : decode cX3_hasGoodBearer 20 = .ok (.if_icmp .ne 17, 3) := by decide +kernel
theorem dX3_hasGoodBearer_23 : decode cX3_hasGoodBearer 23 = .ok (.aload_n 0, 1) := by decide +kernel
theorem dX3_hasGoodBearer_24 : decode cX3_hasGoodBearer 24 = .ok (.getfield 32, 3) := by decide +kernel
theorem dX3_hasGoodBearer_27 : decode cX3_hasGoodBearer 27 = .ok (.iload_n 2, 1) := by decide +kernel
theorem dX3_hasGoodBearer_28 : decode cX3_hasGoodBearer 28 = .ok (.aaload, 1) := by decide +kernel
theorem dX3_hasGoodBearer_29 : decode cX3_hasGoodBearer 29 = .ok (.getfield 73, 3) := by decide +kernel
theorem dX3_hasGoodBearer_32 : decode cX3_hasGoodBearer 32 = .ok (.ifCond .eq 5, 3) := by decide +kernel
theorem dX3_hasGoodBearer_35 : decode cX3_hasGoodBearer 35 = .ok (.iconst 1, 1) := by decide +kernel
theorem dX3_hasGoodBearer_36 : decode cX3_hasGoodBearer 36 = .ok (.ireturn, 1) := by decide +kernel
theorem dX3_hasGoodBearer_37 : decode cX3_hasGoodBearer 37 = .ok (.iinc 2 1, 3) := by decide +kernel
theorem dX3_hasGoodBearer_40 : decode cX3_hasGoodBearer 40 = .ok (.goto (-38), 3) := by decide +kernel
theorem dX3_hasGoodBearer_43 : decode cX3_hasGoodBearer 43 = .ok (.iconst 0, 1) := by decide +kernel
theorem dX3_hasGoodBearer_44 : decode cX3_hasGoodBearer 44 = .ok (.ireturn, 1) := by decide +kernel
theorem dX3_setUp_0 : decode cX3_setUp 0 = .ok (.aload_n 0, 1) := by decide +kernel
theorem dX3_setUp_1 : decode cX3_setUp 1 = .ok (.iload_n 1, 1) := by decide +kernel
theorem dX3_setUp_2 : decode cX3_setUp 2 = .ok (.invokevirtual 77, 3) := by decide +kernel
theorem dX3_setUp_5 : decode cX3_setUp 5 = .ok (.istore_n 2, 1) := by decide +kernel
theorem dX3_setUp_6 : decode cX3_setUp 6 = .ok (.iload_n 2, 1) := by decide +kernel
theorem dX3_setUp_7 : decode cX3_setUp 7 = .ok (.ifCond .ge 4, 3) := by decide +kernel
theorem dX3_setUp_10 : decode cX3_setUp 10 = .ok (.return_, 1) := by decide +kernel
theorem dX3_setUp_11 : decode cX3_setUp 11 = .ok (.aload_n 0, 1) := by decide +kernel
theorem dX3_setUp_12 : decode cX3_setUp 12 = .ok (.iload_n 1, 1) := by decide +kernel
theorem dX3_setUp_13 : decode cX3_setUp 13 = .ok (.iload_n 2, 1) := by decide +kernel
theorem dX3_setUp_14 : decode cX3_setUp 14 = .ok (.invokevirtual 80, 3) := by decide +kernel
theorem dX3_setUp_17 : decode cX3_setUp 17 = .ok (.istore_n 3, 1) := by decide +kernel
theorem dX3_setUp_18 : decode cX3_setUp 18 = .ok (.iload_n 3, 1) := by decide +kernel
theorem dX3_setUp_19 : decode cX3_setUp 19 = .ok (.ifCond .lt 10, 3) := by decide +kernel
theorem dX3_setUp_22 : decode cX3_setUp 22 = .ok (.aload_n 0, 1) := by decide +kernel
theorem dX3_setUp_23 : decode cX3_setUp 23 = .ok (.iload_n 1, 1) := by decide +kernel
theorem dX3_setUp_24 : decode cX3_setUp 24 = .ok (.iload_n 2, 1) := by decide +kernel
theorem dX3_setUp_25 : decode cX3_setUp 25 = .ok (.iload_n 3, 1) := by decide +kernel
theorem dX3_setUp_26 : decode cX3_setUp 26 = .ok (.invokevirtual 83, 3) := by decide +kernel
theorem dX3_setUp_29 : decode cX3_setUp 29 = .ok (.return_, 1) := by decide +kernel
theorem dX3_chooseCell_0 : decode cX3_chooseCell 0 = .ok (.aload_n 0, 1) := by decide +kernel
theorem dX3_chooseCell_1 : decode cX3_chooseCell 1 = .ok (.iload_n 1, 1) := by decide +kernel
theorem dX3_chooseCell_2 : decode cX3_chooseCell 2 = .ok (.invokevirtual 64, 3) := by decide +kernel
theorem dX3_chooseCell_5 : decode cX3_chooseCell 5 = .ok (.istore_n 2, 1) := by decide +kernel
theorem dX3_chooseCell_6 : decode cX3_chooseCell 6 = .ok (.iload_n 2, 1) := by decide +kernel
theorem dX3_chooseCell_7 : decode cX3_chooseCell 7 = .ok (.ifCond .ge 8, 3) := by decide +kernel
theorem dX3_chooseCell_10 : decode cX3_chooseCell 10 = .ok (.bipush (-9), 2) := by decide +kernel
theorem dX3_chooseCell_12 : decode cX3_chooseCell 12 = .ok (.goto 12, 3) := by decide +kernel
theorem dX3_chooseCell_15 : decode cX3_chooseCell 15 = .ok (.aload_n 0, 1) := by decide +kernel
theorem dX3_chooseCell_16 : decode cX3_chooseCell 16 = .ok (.getfield 32, 3) := by decide +kernel
theorem dX3_chooseCell_19 : decode cX3_chooseCell 19 = .ok (.iload_n 2, 1) := by decide +kernel
theorem dX3_chooseCell_20 : decode cX3_chooseCell 20 = .ok (.aaload, 1) := by decide +kernel
theorem dX3_chooseCell_21 : decode cX3_chooseCell 21 = .ok (.getfield 87, 3) := by decide +kernel
theorem dX3_chooseCell_24 : decode cX3_chooseCell 24 = .ok (.istore_n 3, 1) := by decide +kernel
theorem dX3_chooseCell_25 : decode cX3_chooseCell 25 = .ok (.bipush (-9), 2) := by decide +kernel
theorem dX3_chooseCell_27 : decode cX3_chooseCell 27 = .ok (.istore 4, 2) := by decide +kernel
theorem dX3_chooseCell_29 : decode cX3_chooseCell 29 = .ok (.iconst 0, 1) := by decide +kernel
theorem dX3_chooseCell_30 : decode cX3_chooseCell 30 = .ok (.istore 5, 2) := by decide +kernel
theorem dX3_chooseCell_32 : decode cX3_chooseCell 32 = .ok (.iload 5, 2) := by decide +kernel
theorem dX3_chooseCell_34 : decode cX3_chooseCell 34 = .ok (.aload_n 0, 1) := by decide +kernel
theorem dX3_chooseCell_35 : decode cX3_chooseCell 35 = .ok (.getfield 37, 3) := by decide +kernel
theorem dX3_chooseCell_38 : decode cX3_chooseCell 38 = .ok (.if_icmp .ge 44, 3) := by decide +kernel
theorem dX3_chooseCell_41 : decode cX3_chooseCell 41 = .ok (.aload_n 0, 1) := by decide +kernel
theorem dX3_chooseCell_42 : decode cX3_chooseCell 42 = .ok (.iload 5, 2) := by decide +kernel
theorem dX3_chooseCell_44 : decode cX3_chooseCell 44 = .ok (.aload_n 0, 1) := by decide +kernel
theorem dX3_chooseCell_45 : decode cX3_chooseCell 45 = .ok (.getfield 15, 3) := by decide +kernel
theorem dX3_chooseCell_48 : decode cX3_chooseCell 48 = .ok (.iload_n 1, 1) := by decide +kernel
theorem dX3_chooseCell_49 : decode cX3_chooseCell 49 = .ok (.iaload, 1) := by decide +kernel
theorem dX3_chooseCell_50 : decode cX3_chooseCell 50 = .ok (.aload_n 0, 1) := by decide +kernel
theorem dX3_chooseCell_51 : decode cX3_chooseCell 51 = .ok (.getfield 9, 3) := by decide +kernel
theorem dX3_chooseCell_54 : decode cX3_chooseCell 54 = .ok (.iload 5, 2) := by decide +kernel
theorem dX3_chooseCell_56 : decode cX3_chooseCell 56 = .ok (.iaload, 1) := by decide +kernel
theorem dX3_chooseCell_57 : decode cX3_chooseCell 57 = .ok (.invokevirtual 90, 3) := by decide +kernel
theorem dX3_chooseCell_60 : decode cX3_chooseCell 60 = .ok (.ifCond .eq 16, 3) := by decide +kernel
theorem dX3_chooseCell_63 : decode cX3_chooseCell 63 = .ok (.iload 5, 2) := by decide +kernel
theorem dX3_chooseCell_65 : decode cX3_chooseCell 65 = .ok (.iload_n 3, 1) := by decide +kernel
theorem dX3_chooseCell_66 : decode cX3_chooseCell 66 = .ok (.if_icmp .eq 6, 3) := by decide +kernel
theorem dX3_chooseCell_69 : decode cX3_chooseCell 69 = .ok (.iload 5, 2) := by decide +kernel
theorem dX3_chooseCell_71 : decode cX3_chooseCell 71 = .ok (.ireturn, 1) := by decide +kernel
theorem dX3_chooseCell_72 : decode cX3_chooseCell 72 = .ok (.iload 5, 2) := by decide +kernel
theorem dX3_chooseCell_74 : decode cX3_chooseCell 74 = .ok (.istore 4, 2) := by decide +kernel
theorem dX3_chooseCell_76 : decode cX3_chooseCell 76 = .ok (.iinc 5 1, 3) := by decide +kernel
theorem dX3_chooseCell_79 : decode cX3_chooseCell 79 = .ok (.goto (-47), 3) := by decide +kernel
theorem dX3_chooseCell_82 : decode cX3_chooseCell 82 = .ok (.iload 4, 2) := by decide +kernel
theorem dX3_chooseCell_84 : decode cX3_chooseCell 84 = .ok (.ireturn, 1) := by decide +kernel
theorem dX3_chooseChannel_0 : decode cX3_chooseChannel 0 = .ok (.aload_n 0, 1) := by decide +kernel
theorem dX3_chooseChannel_1 : decode cX3_chooseChannel 1 = .ok (.iload_n 1, 1) := by decide +kernel
theorem dX3_chooseChannel_2 : decode cX3_chooseChannel 2 = .ok (.iload_n 2, 1) := by decide +kernel
theorem dX3_chooseChannel_3 : decode cX3_chooseChannel 3 = .ok (.invokevirtual 94, 3) := by decide +kernel
theorem dX3_chooseChannel_6 : decode cX3_chooseChannel 6 = .ok (.istore_n 3, 1) := by decide +kernel
theorem dX3_chooseChannel_7 : decode cX3_chooseChannel 7 = .ok (.aload_n 0, 1) := by decide +kernel
theorem dX3_chooseChannel_8 : decode cX3_chooseChannel 8 = .ok (.iload_n 1, 1) := by decide +kernel
theorem dX3_chooseChannel_9 : decode cX3_chooseChannel 9 = .ok (.iload_n 2, 1) := by decide +kernel
theorem dX3_chooseChannel_10 : decode cX3_chooseChannel 10 = .ok (.invokevirtual 97, 3) := by decide +kernel
theorem dX3_chooseChannel_13 : decode cX3_chooseChannel 13 = .ok (.istore 4, 2) := by decide +kernel
theorem dX3_chooseChannel_15 : decode cX3_chooseChannel 15 = .ok (.aload_n 0, 1) := by decide +kernel
theorem dX3_chooseChannel_16 : decode cX3_chooseChannel 16 = .ok (.iload_n 1, 1) := by decide +kernel
theorem dX3_chooseChannel_17 : decode cX3_chooseChannel 17 = .ok (.iload_n 2, 1) := by decide +kernel
theorem dX3_chooseChannel_18 : decode cX3_chooseChannel 18 = .ok (.invokevirtual 100, 3) := by decide +kernel
theorem dX3_chooseChannel_21 : decode cX3_chooseChannel 21 = .ok (.istore 5, 2) := by decide +kernel
theorem dX3_chooseChannel_23 : decode cX3_chooseChannel 23 = .ok (.aload_n 0, 1) := by decide +kernel
theorem dX3_chooseChannel_24 : decode cX3_chooseChannel 24 = .ok (.iload_n 1, 1) := by decide +kernel
theorem dX3_chooseChannel_25 : decode cX3_chooseChannel 25 = .ok (.iload_n 2, 1) := by decide +kernel
theorem dX3_chooseChannel_26 : decode cX3_chooseChannel 26 = .ok (.invokevirtual 54, 3) := by decide +kernel
theorem dX3_chooseChannel_29 : decode cX3_chooseChannel 29 = .ok (.istore 6, 2) := by decide +kernel
theorem dX3_chooseChannel_31 : decode cX3_chooseChannel 31 = .ok (.iconst 4, 1) := by decide +kernel
theorem dX3_chooseChannel_32 : decode cX3_chooseChannel 32 = .ok (.istore 7, 2) := by decide +kernel
theorem dX3_chooseChannel_34 : decode cX3_chooseChannel 34 = .ok (.bipush (-9), 2) := by decide +kernel
theorem dX3_chooseChannel_36 : decode cX3_chooseChannel 36 = .ok (.istore 8, 2) := by decide +kernel
theorem dX3_chooseChannel_38 : decode cX3_chooseChannel 38 = .ok (.iconst 0, 1) := by decide +kernel
theorem dX3_chooseChannel_39 : decode cX3_chooseChannel 39 = .ok (.istore 9, 2) := by decide +kernel
theorem dX3_chooseChannel_41 : decode cX3_chooseChannel 41 = .ok (.iload 9, 2) := by decide +kernel
theorem dX3_chooseChannel_43 : decode cX3_chooseChannel 43 = .ok (.bipush 120, 2) := by decide +kernel
theorem dX3_chooseChannel_45 : decode cX3_chooseChannel 45 = .ok (.if_icmp .ge 55, 3) := by decide +kernel
theorem dX3_chooseChannel_48 : decode cX3_chooseChannel 48 = .ok (.iload 7, 2) := by decide +kernel
theorem dX3_chooseChannel_50 : decode cX3_chooseChannel 50 = .ok (.ifCond .le 50, 3) := by decide +kernel
theorem dX3_chooseChannel_53 : decode cX3_chooseChannel 53 = .ok (.iload_n 3, 1) := by decide +kernel
theorem dX3_chooseChannel_54 : decode cX3_chooseChannel 54 = .ok (.iconst 1, 1) := by decide +kernel
theorem dX3_chooseChannel_55 : decode cX3_chooseChannel 55 = .ok (.iload 9, 2) := by decide +kernel
theorem dX3_chooseChannel_57 : decode cX3_chooseChannel 57 = .ok (.bipush 10, 2) := by decide +kernel
theorem dX3_chooseChannel_59 : decode cX3_chooseChannel 59 = .ok (.idiv, 1) := by decide +kernel
theorem dX3_chooseChannel_60 : decode cX3_chooseChannel 60 = .ok (.ishl, 1) := by decide +kernel
theorem dX3_chooseChannel_61 : decode cX3_chooseChannel 61 = .ok (.iand, 1) := by decide +kernel
theorem dX3_chooseChannel_62 : decode cX3_chooseChannel 62 = .ok (.ifCond .ne 32, 3) := by decide +kernel
theorem dX3_chooseChannel_65 : decode cX3_chooseChannel 65 = .ok (.aload_n 0, 1) := by decide +kernel
theorem dX3_chooseChannel_66 : decode cX3_chooseChannel 66 = .ok (.iload 9, 2) := by decide +kernel
theorem dX3_chooseChannel_68 : decode cX3_chooseChannel 68 = .ok (.iload 4, 2) := by decide +kernel
theorem dX3_chooseChannel_70 : decode cX3_chooseChannel 70 = .ok (.iload 5, 2) := by decide +kernel
theorem dX3_chooseChannel_72 : decode cX3_chooseChannel 72 = .ok (.iload 6, 2) := by decide +kernel
theorem dX3_chooseChannel_74 : decode cX3_chooseChannel 74 = .ok (.invokevirtual 103, 3) := by decide +kernel
theorem dX3_chooseChannel_77 : decode cX3_chooseChannel 77 = .ok (.istore 10, 2) := by decide +kernel
theorem dX3_chooseChannel_79 : decode cX3_chooseChannel 79 = .ok (.iload 10, 2) := by decide +kernel
theorem dX3_chooseChannel_81 : decode cX3_chooseChannel 81 = .ok (.iload 7, 2) := by decide +kernel
theorem dX3_chooseChannel_83 : decode cX3_chooseChannel 83 = .ok (.if_icmp .ge 11, 3) := by decide +kernel
theorem dX3_chooseChannel_86 : decode cX3_chooseChannel 86 = .ok (.iload 10, 2) := by decide +kernel
theorem dX3_chooseChannel_88 : decode cX3_chooseChannel 88 = .ok (.istore 7, 2) := by decide +kernel
theorem dX3_chooseChannel_90 : decode cX3_chooseChannel 90 = .ok (.iload 9, 2) := by decide +kernel
theorem dX3_chooseChannel_92 : decode cX3_chooseChannel 92 = .ok (.istore 8, 2) := by decide +kernel
theorem dX3_chooseChannel_94 : decode cX3_chooseChannel 94 = .ok (.iinc 9 1, 3) := by decide +kernel
theorem dX3_chooseChannel_97 : decode cX3_chooseChannel 97 = .ok (.goto (-56), 3) := by decide +kernel
theorem dX3_chooseChannel_100 : decode cX3_chooseChannel 100 = .ok (.iload 8, 2) := by decide +kernel
theorem dX3_chooseChannel_102 : decode cX3_chooseChannel 102 = .ok (.ireturn, 1) := by decide +kernel
