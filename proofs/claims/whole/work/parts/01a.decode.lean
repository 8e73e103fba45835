theorem dX0_init_0 : decode cX0_init 0 = .ok (.aload_n 0, 1) := by decide +kernel
theorem dX0_init_1 : decode cX0_init 1 = .ok (.invokespecial 3, 3) := by decide +kernel
theorem dX0_init_4 : decode cX0_init 4 = .ok (.aload_n 0, 1) := by decide +kernel
theorem dX0_init_5 : decode cX0_init 5 = .ok (.bipush 14, 2) := by decide +kernel
theorem dX0_init_7 : decode cX0_init 7 = .ok (.anewarray 9, 3) := by decide +kernel
theorem dX0_init_10 : decode cX0_init 10 = .ok (.putfield 11, 3) := by decide +kernel
theorem dX0_init_13 : decode cX0_init 13 = .ok (.iconst 0, 1) := by decide +kernel
theorem dX0_init_14 : decode cX0_init 14 = .ok (.istore_n 1, 1) := by decide +kernel
theorem dX0_init_15 : decode cX0_init 15 = .ok (.iload_n 1, 1) := by decide +kernel
theorem dX0_init_16 : decode cX0_init 16 = .ok (.bipush 14, 2) := by decide +kernel
theorem dX0_init_18 : decode cX0_init 18 = .ok (.if_icmp .ge 22, 3) := by decide +kernel
theorem dX0_init_21 : decode cX0_init 21 = .ok (.aload_n 0, 1) := by decide +kernel
theorem dX0_init_22 : decode cX0_init 22 = .ok (.getfield 11, 3) := by decide +kernel
theorem dX0_init_25 : decode cX0_init 25 = .ok (.iload_n 1, 1) := by decide +kernel
theorem dX0_init_26 : decode cX0_init 26 = .ok (.new 9, 3) := by decide +kernel
theorem dX0_init_29 : decode cX0_init 29 = .ok (.dup, 1) := by decide +kernel
theorem dX0_init_30 : decode cX0_init 30 = .ok (.invokespecial 17, 3) := by decide +kernel
theorem dX0_init_33 : decode cX0_init 33 = .ok (.aastore, 1) := by decide +kernel
theorem dX0_init_34 : decode cX0_init 34 = .ok (.iinc 1 1, 3) := by decide +kernel
theorem dX0_init_37 : decode cX0_init 37 = .ok (.goto (-22), 3) := by decide +kernel
theorem dX0_init_40 : decode cX0_init 40 = .ok (.return_, 1) := by decide +kernel
theorem dX0_clear_0 : decode cX0_clear 0 = .ok (.aload_n 0, 1) := by decide +kernel
theorem dX0_clear_1 : decode cX0_clear 1 = .ok (.iconst 0, 1) := by decide +kernel
theorem dX0_clear_2 : decode cX0_clear 2 = .ok (.putfield 18, 3) := by decide +kernel
theorem dX0_clear_5 : decode cX0_clear 5 = .ok (.aload_n 0, 1) := by decide +kernel
theorem dX0_clear_6 : decode cX0_clear 6 = .ok (.iconst 0, 1) := by decide +kernel
theorem dX0_clear_7 : decode cX0_clear 7 = .ok (.putfield 22, 3) := by decide +kernel
theorem dX0_clear_10 : decode cX0_clear 10 = .ok (.return_, 1) := by decide +kernel
theorem dX0_remember_0 : decode cX0_remember 0 = .ok (.aload_n 0, 1) := by decide +kernel
theorem dX0_remember_1 : decode cX0_remember 1 = .ok (.getfield 22, 3) := by decide +kernel
theorem dX0_remember_4 : decode cX0_remember 4 = .ok (.bipush 14, 2) := by decide +kernel
theorem dX0_remember_6 : decode cX0_remember 6 = .ok (.if_icmp .ne 26, 3) := by decide +kernel
theorem dX0_remember_9 : decode cX0_remember 9 = .ok (.aload_n 0, 1) := by decide +kernel
theorem dX0_remember_10 : decode cX0_remember 10 = .ok (.aload_n 0, 1) := by decide +kernel
theorem dX0_remember_11 : decode cX0_remember 11 = .ok (.getfield 18, 3) := by decide +kernel
theorem dX0_remember_14 : decode cX0_remember 14 = .ok (.iconst 1, 1) := by decide +kernel
theorem dX0_remember_15 : decode cX0_remember 15 = .ok (.iadd, 1) := by decide +kernel
theorem dX0_remember_16 : decode cX0_remember 16 = .ok (.bipush 14, 2) := by decide +kernel
theorem dX0_remember_18 : decode cX0_remember 18 = .ok (.irem, 1) := by decide +kernel
theorem dX0_remember_19 : decode cX0_remember 19 = .ok (.putfield 18, 3) := by decide +kernel
theorem dX0_remember_22 : decode cX0_remember 22 = .ok (.aload_n 0, 1) := by decide +kernel
theorem dX0_remember_23 : decode cX0_remember 23 = .ok (.dup, 1) := by decide +kernel
theorem dX0_remember_24 : decode cX0_remember 24 = .ok (.getfield 22, 3) := by decide +kernel
theorem dX0_remember_27 : decode cX0_remember 27 = .ok (.iconst 1, 1) := by decide +kernel
theorem dX0_remember_28 : decode cX0_remember 28 = .ok (.isub, 1) := by decide +kernel
theorem dX0_remember_29 : decode cX0_remember 29 = .ok (.putfield 22, 3) := by decide +kernel
theorem dX0_remember_32 : decode cX0_remember 32 = .ok (.aload_n 0, 1) := by decide +kernel
theorem dX0_remember_33 : decode cX0_remember 33 = .ok (.getfield 11, 3) := by decide +kernel
theorem dX0_remember_36 : decode cX0_remember 36 = .ok (.aload_n 0, 1) := by decide +kernel
theorem dX0_remember_37 : decode cX0_remember 37 = .ok (.getfield 18, 3) := by decide +kernel
theorem dX0_remember_40 : decode cX0_remember 40 = .ok (.aload_n 0, 1) := by decide +kernel
theorem dX0_remember_41 : decode cX0_remember 41 = .ok (.getfield 22, 3) := by decide +kernel
theorem dX0_remember_44 : decode cX0_remember 44 = .ok (.iadd, 1) := by decide +kernel
theorem dX0_remember_45 : decode cX0_remember 45 = .ok (.bipush 14, 2) := by decide +kernel
theorem dX0_remember_47 : decode cX0_remember 47 = .ok (.irem, 1) := by decide +kernel
theorem dX0_remember_48 : decode cX0_remember 48 = .ok (.aaload, 1) := by decide +kernel
theorem dX0_remember_49 : decode cX0_remember 49 = .ok (.aload_n 1, 1) := by decide +kernel
theorem dX0_remember_50 : decode cX0_remember 50 = .ok (.invokevirtual 25, 3) := by decide +kernel
theorem dX0_remember_53 : decode cX0_remember 53 = .ok (.aload_n 0, 1) := by decide +kernel
theorem dX0_remember_54 : decode cX0_remember 54 = .ok (.dup, 1) := by decide +kernel
theorem dX0_remember_55 : decode cX0_remember 55 = .ok (.getfield 22, 3) := by decide +kernel
theorem dX0_remember_58 : decode cX0_remember 58 = .ok (.iconst 1, 1) := by decide +kernel
theorem dX0_remember_59 : decode cX0_remember 59 = .ok (.iadd, 1) := by decide +kernel
theorem dX0_remember_60 : decode cX0_remember 60 = .ok (.putfield 22, 3) := by decide +kernel
theorem dX0_remember_63 : decode cX0_remember 63 = .ok (.return_, 1) := by decide +kernel
theorem dX0_takeBack_0 : decode cX0_takeBack 0 = .ok (.aload_n 0, 1) := by decide +kernel
theorem dX0_takeBack_1 : decode cX0_takeBack 1 = .ok (.getfield 22, 3) := by decide +kernel
theorem dX0_takeBack_4 : decode cX0_takeBack 4 = .ok (.ifCond .ne 6, 3) := by decide +kernel
theorem dX0_takeBack_7 : decode cX0_takeBack 7 = .ok (.bipush (-3), 2) := by decide +kernel
theorem dX0_takeBack_9 : decode cX0_takeBack 9 = .ok (.ireturn, 1) := by decide +kernel
theorem dX0_takeBack_10 : decode cX0_takeBack 10 = .ok (.aload_n 0, 1) := by decide +kernel
theorem dX0_takeBack_11 : decode cX0_takeBack 11 = .ok (.dup, 1) := by decide +kernel
theorem dX0_takeBack_12 : decode cX0_takeBack 12 = .ok (.getfield 22, 3) := by decide +kernel
theorem dX0_takeBack_15 : decode cX0_takeBack 15 = .ok (.iconst 1, 1) := by decide +kernel
theorem dX0_takeBack_16 : decode cX0_takeBack 16 = .ok (.isub, 1) := by decide +kernel
theorem dX0_takeBack_17 : decode cX0_takeBack 17 = .ok (.putfield 22, 3) := by decide +kernel
theorem dX0_takeBack_20 : decode cX0_takeBack 20 = .ok (.aload_n 1, 1) := by decide +kernel
theorem dX0_takeBack_21 : decode cX0_takeBack 21 = .ok (.aload_n 0, 1) := by decide +kernel
theorem dX0_takeBack_22 : decode cX0_takeBack 22 = .ok (.getfield 11, 3) := by decide +kernel
theorem dX0_takeBack_25 : decode cX0_takeBack 25 = .ok (.aload_n 0, 1) := by decide +kernel
theorem dX0_takeBack_26 : decode cX0_takeBack 26 = .ok (.getfield 18, 3) := by decide +kernel
theorem dX0_takeBack_29 : decode cX0_takeBack 29 = .ok (.aload_n 0, 1) := by decide +kernel
theorem dX0_takeBack_30 : decode cX0_takeBack 30 = .ok (.getfield 22, 3) := by decide +kernel
theorem dX0_takeBack_33 : decode cX0_takeBack 33 = .ok (.iadd, 1) := by decide +kernel
theorem dX0_takeBack_34 : decode cX0_takeBack 34 = .ok (.bipush 14, 2) := by decide +kernel
theorem dX0_takeBack_36 : decode cX0_takeBack 36 = .ok (.irem, 1) := by decide +kernel
theorem dX0_takeBack_37 : decode cX0_takeBack 37 = .ok (.aaload, 1) := by decide +kernel
theorem dX0_takeBack_38 : decode cX0_takeBack 38 = .ok (.invokevirtual 25, 3) := by decide +kernel
theorem dX0_takeBack_41 : decode cX0_takeBack 41 = .ok (.aload_n 0, 1) := by decide +kernel
theorem dX0_takeBack_42 : decode cX0_takeBack 42 = .ok (.getfield 22, 3) := by decide +kernel
theorem dX0_takeBack_45 : decode cX0_takeBack 45 = .ok (.ireturn, 1) := by decide +kernel
theorem dX1_init_0 : decode cX1_init 0 = .ok (.aload_n 0, 1) := by decide +kernel
theorem dX1_init_1 : decode cX1_init 1 = .ok (.invokespecial 3, 3) := by decide +kernel
theorem dX1_init_4 : decode cX1_init 4 = .ok (.aload_n 0, 1) := by decide +kernel
theorem dX1_init_5 : decode cX1_init 5 = .ok (.bipush 6, 2) := by decide +kernel
theorem dX1_init_7 : decode cX1_init 7 = .ok (.newarray .int, 2) := by decide +kernel
theorem dX1_init_9 : decode cX1_init 9 = .ok (.putfield 9, 3) := by decide +kernel
theorem dX1_init_12 : decode cX1_init 12 = .ok (.aload_n 0, 1) := by decide +kernel
theorem dX1_init_13 : decode cX1_init 13 = .ok (.bipush 6, 2) := by decide +kernel
theorem dX1_init_15 : decode cX1_init 15 = .ok (.newarray .boolean, 2) := by decide +kernel
theorem dX1_init_17 : decode cX1_init 17 = .ok (.putfield 15, 3) := by decide +kernel
theorem dX1_init_20 : decode cX1_init 20 = .ok (.return_, 1) := by decide +kernel
theorem dX1_add_0 : decode cX1_add 0 = .ok (.aload_n 0, 1) := by decide +kernel
theorem dX1_add_1 : decode cX1_add 1 = .ok (.getfield 19, 3) := by decide +kernel
theorem dX1_add_4 : decode cX1_add 4 = .ok (.bipush 6, 2) := by decide +kernel
theorem dX1_add_6 : decode cX1_add 6 = .ok (.if_icmp .lt 6, 3) := by decide +kernel
theorem dX1_add_9 : decode cX1_add 9 = .ok (.bipush (-4), 2) := by decide +kernel
theorem dX1_add_11 : decode cX1_add 11 = .ok (.ireturn, 1) := by decide +kernel
theorem dX1_add_12 : decode cX1_add 12 = .ok (.aload_n 0, 1) := by decide +kernel
theorem dX1_add_13 : decode cX1_add 13 = .ok (.getfield 9, 3) := by decide +kernel
theorem dX1_add_16 : decode cX1_add 16 = .ok (.aload_n 0, 1) := by decide +kernel
theorem dX1_add_17 : decode cX1_add 17 = .ok (.getfield 19, 3) := by decide +kernel
theorem dX1_add_20 : decode cX1_add 20 = .ok (.iload_n 1, 1) := by decide +kernel
theorem dX1_add_21 : decode cX1_add 21 = .ok (.iastore, 1) := by decide +kernel
theorem dX1_add_22 : decode cX1_add 22 = .ok (.aload_n 0, 1) := by decide +kernel
theorem dX1_add_23 : decode cX1_add 23 = .ok (.getfield 15, 3) := by decide +kernel
theorem dX1_add_26 : decode cX1_add 26 = .ok (.aload_n 0, 1) := by decide +kernel
theorem dX1_add_27 : decode cX1_add 27 = .ok (.getfield 19, 3) := by decide +kernel
theorem dX1_add_30 : decode cX1_add 30 = .ok (.iload_n 2, 1) := by decide +kernel
theorem dX1_add_31 : decode cX1_add 31 = .ok (.bastore, 1) := by decide +kernel
theorem dX1_add_32 : decode cX1_add 32 = .ok (.aload_n 0, 1) := by decide +kernel
theorem dX1_add_33 : decode cX1_add 33 = .ok (.dup, 1) := by decide +kernel
theorem dX1_add_34 : decode cX1_add 34 = .ok (.getfield 19, 3) := by decide +kernel
theorem dX1_add_37 : decode cX1_add 37 = .ok (.iconst 1, 1) := by decide +kernel
theorem dX1_add_38 : decode cX1_add 38 = .ok (.iadd, 1) := by decide +kernel
theorem dX1_add_39 : decode cX1_add 39 = .ok (.putfield 19, 3) := by decide +kernel
theorem dX1_add_42 : decode cX1_add 42 = .ok (.aload_n 0, 1) := by decide +kernel
theorem dX1_add_43 : decode cX1_add 43 = .ok (.getfield 19, 3) := by decide +kernel
theorem dX1_add_46 : decode cX1_add 46 = .ok (.ireturn, 1) := by decide +kernel
theorem dX1_clear_0 : decode cX1_clear 0 = .ok (.aload_n 0, 1) := by decide +kernel
theorem dX1_clear_1 : decode cX1_clear 1 = .ok (.getfield 19, 3) := by decide +kernel
theorem dX1_clear_4 : decode cX1_clear 4 = .ok (.istore_n 1, 1) := by decide +kernel
theorem dX1_clear_5 : decode cX1_clear 5 = .ok (.aload_n 0, 1) := by decide +kernel
theorem dX1_clear_6 : decode cX1_clear 6 = .ok (.iconst 0, 1) := by decide +kernel
theorem dX1_clear_7 : decode cX1_clear 7 = .ok (.putfield 19, 3) := by decide +kernel
theorem dX1_clear_10 : decode cX1_clear 10 = .ok (.iload_n 1, 1) := by decide +kernel
theorem dX1_clear_11 : decode cX1_clear 11 = .ok (.ireturn, 1) := by decide +kernel
theorem dX1_isSo_0 : decode cX1_isSo 0 = .ok (.iconst 0, 1) := by decide +kernel
theorem dX1_isSo_1 : decode cX1_isSo 1 = .ok (.istore_n 3, 1) := by decide +kernel
theorem dX1_isSo_2 : decode cX1_isSo 2 = .ok (.iload_n 3, 1) := by decide +kernel
theorem dX1_isSo_3 : decode cX1_isSo 3 = .ok (.aload_n 0, 1) := by decide +kernel
theorem dX1_isSo_4 : decode cX1_isSo 4 = .ok (.getfield 19, 3) := by decide +kernel
theorem dX1_isSo_7 : decode cX1_isSo 7 = .ok (.if_icmp .ge 31, 3) := by decide +kernel
theorem dX1_isSo_10 : decode cX1_isSo 10 = .ok (.aload_n 2, 1) := by decide +kernel
theorem dX1_isSo_11 : decode cX1_isSo 11 = .ok (.aload_n 0, 1) := by decide +kernel
theorem dX1_isSo_12 : decode cX1_isSo 12 = .ok (.getfield 9, 3) := by decide +kernel
theorem dX1_isSo_15 : decode cX1_isSo 15 = .ok (.iload_n 3, 1) := by decide +kernel
theorem dX1_isSo_16 : decode cX1_isSo 16 = .ok (.iaload, 1) := by decide +kernel
theorem dX1_isSo_17 : decode cX1_isSo 17 = .ok (.aload_n 1, 1) := by decide +kernel
theorem dX1_isSo_18 : decode cX1_isSo 18 = .ok (.invokevirtual 23, 3) := by decide +kernel
theorem dX1_isSo_21 : decode cX1_isSo 21 = .ok (.aload_n 0, 1) := by decide +kernel
theorem dX1_isSo_22 : decode cX1_isSo 22 = .ok (.getfield 15, 3) := by decide +kernel
theorem dX1_isSo_25 : decode cX1_isSo 25 = .ok (.iload_n 3, 1) := by decide +kernel
theorem dX1_isSo_26 : decode cX1_isSo 26 = .ok (.baload, 1) := by decide +kernel
theorem dX1_isSo_27 : decode cX1_isSo 27 = .ok (.if_icmp .eq 5, 3) := by decide +kernel
theorem dX1_isSo_30 : decode cX1_isSo 30 = .ok (.iconst 0, 1) := by decide +kernel
theorem dX1_isSo_31 : decode cX1_isSo 31 = .ok (.ireturn, 1) := by decide +kernel
theorem dX1_isSo_32 : decode cX1_isSo 32 = .ok (.iinc 3 1, 3) := by decide +kernel
theorem dX1_isSo_35 : decode cX1_isSo 35 = .ok (.goto (-33), 3) := by decide +kernel
theorem dX1_isSo_38 : decode cX1_isSo 38 = .ok (.iconst 1, 1) := by decide +kernel
theorem dX1_isSo_39 : decode cX1_isSo 39 = .ok (.ireturn, 1) := by decide +kernel
theorem dX2_init_0 : decode cX2_init 0 = .ok (.aload_n 0, 1) := by decide +kernel
theorem dX2_init_1 : decode cX2_init 1 = .ok (.invokespecial 3, 3) := by decide +kernel
theorem dX2_init_4 : decode cX2_init 4 = .ok (.aload_n 0, 1) := by decide +kernel
theorem dX2_init_5 : decode cX2_init 5 = .ok (.iload_n 1, 1) := by decide +kernel
theorem dX2_init_6 : decode cX2_init 6 = .ok (.iconst 0, 1) := by decide +kernel
theorem dX2_init_7 : decode cX2_init 7 = .ok (.invokestatic 9, 3) := by decide +kernel
theorem dX2_init_10 : decode cX2_init 10 = .ok (.newarray .int, 2) := by decide +kernel
theorem dX2_init_12 : decode cX2_init 12 = .ok (.putfield 15, 3) := by decide +kernel
theorem dX2_init_15 : decode cX2_init 15 = .ok (.aload_n 0, 1) := by decide +kernel
theorem dX2_init_16 : decode cX2_init 16 = .ok (.iconst 0, 1) := by decide +kernel
theorem dX2_init_17 : decode cX2_init 17 = .ok (.putfield 21, 3) := by decide +kernel
theorem dX2_init_20 : decode cX2_init 20 = .ok (.return_, 1) := by decide +kernel
theorem dX2_clear_0 : decode cX2_clear 0 = .ok (.aload_n 0, 1) := by decide +kernel
theorem dX2_clear_1 : decode cX2_clear 1 = .ok (.iconst 0, 1) := by decide +kernel
theorem dX2_clear_2 : decode cX2_clear 2 = .ok (.putfield 21, 3) := by decide +kernel
theorem dX2_clear_5 : decode cX2_clear 5 = .ok (.return_, 1) := by decide +kernel
theorem dX2_add_0 : decode cX2_add 0 = .ok (.aload_n 0, 1) := by decide +kernel
theorem dX2_add_1 : decode cX2_add 1 = .ok (.getfield 21, 3) := by decide +kernel
theorem dX2_add_4 : decode cX2_add 4 = .ok (.aload_n 0, 1) := by decide +kernel
theorem dX2_add_5 : decode cX2_add 5 = .ok (.getfield 15, 3) := by decide +kernel
theorem dX2_add_8 : decode cX2_add 8 = .ok (.arraylength, 1) := by decide +kernel
theorem dX2_add_9 : decode cX2_add 9 = .ok (.if_icmp .ge 23, 3) := by decide +kernel
theorem dX2_add_12 : decode cX2_add 12 = .ok (.aload_n 0, 1) := by decide +kernel
theorem dX2_add_13 : decode cX2_add 13 = .ok (.getfield 15, 3) := by decide +kernel
theorem dX2_add_16 : decode cX2_add 16 = .ok (.aload_n 0, 1) := by decide +kernel
theorem dX2_add_17 : decode cX2_add 17 = .ok (.getfield 21, 3) := by decide +kernel
theorem dX2_add_20 : decode cX2_add 20 = .ok (.iload_n 1, 1) := by decide +kernel
theorem dX2_add_21 : decode cX2_add 21 = .ok (.iastore, 1) := by decide +kernel
theorem dX2_add_22 : decode cX2_add 22 = .ok (.aload_n 0, 1) := by decide +kernel
theorem dX2_add_23 : decode cX2_add 23 = .ok (.dup, 1) := by decide +kernel
theorem dX2_add_24 : decode cX2_add 24 = .ok (.getfield 21, 3) := by decide +kernel
theorem dX2_add_27 : decode cX2_add 27 = .ok (.iconst 1, 1) := by decide +kernel
theorem dX2_add_28 : decode cX2_add 28 = .ok (.iadd, 1) := by decide +kernel
theorem dX2_add_29 : decode cX2_add 29 = .ok (.putfield 21, 3) := by decide +kernel
theorem dX2_add_32 : decode cX2_add 32 = .ok (.return_, 1) := by decide +kernel
theorem dX2_setTo_0 : decode cX2_setTo 0 = .ok (.aload_n 0, 1) := by decide +kernel
theorem dX2_setTo_1 : decode cX2_setTo 1 = .ok (.aload_n 1, 1) := by decide +kernel
theorem dX2_setTo_2 : decode cX2_setTo 2 = .ok (.getfield 21, 3) := by decide +kernel
theorem dX2_setTo_5 : decode cX2_setTo 5 = .ok (.aload_n 0, 1) := by decide +kernel
theorem dX2_setTo_6 : decode cX2_setTo 6 = .ok (.getfield 15, 3) := by decide +kernel
theorem dX2_setTo_9 : decode cX2_setTo 9 = .ok (.arraylength, 1) := by decide +kernel
theorem dX2_setTo_10 : decode cX2_setTo 10 = .ok (.invokestatic 25, 3) := by decide +kernel
theorem dX2_setTo_13 : decode cX2_setTo 13 = .ok (.putfield 21, 3) := by decide +kernel
theorem dX2_setTo_16 : decode cX2_setTo 16 = .ok (.iconst 0, 1) := by decide +kernel
theorem dX2_setTo_17 : decode cX2_setTo 17 = .ok (.istore_n 2, 1) := by decide +kernel
theorem dX2_setTo_18 : decode cX2_setTo 18 = .ok (.iload_n 2, 1) := by decide +kernel
theorem dX2_setTo_19 : decode cX2_setTo 19 = .ok (.aload_n 0, 1) := by decide +kernel
theorem dX2_setTo_20 : decode cX2_setTo 20 = .ok (.getfield 21, 3) := by decide +kernel
theorem dX2_setTo_23 : decode cX2_setTo 23 = .ok (.if_icmp .ge 21, 3) := by decide +kernel
theorem dX2_setTo_26 : decode cX2_setTo 26 = .ok (.aload_n 0, 1) := by decide +kernel
theorem dX2_setTo_27 : decode cX2_setTo 27 = .ok (.getfield 15, 3) := by decide +kernel
theorem dX2_setTo_30 : decode cX2_setTo 30 = .ok (.iload_n 2, 1) := by decide +kernel
theorem dX2_setTo_31 : decode cX2_setTo 31 = .ok (.aload_n 1, 1) := by decide +kernel
theorem dX2_setTo_32 : decode cX2_setTo 32 = .ok (.getfield 15, 3) := by decide +kernel
theorem dX2_setTo_35 : decode cX2_setTo 35 = .ok (.iload_n 2, 1) := by decide +kernel
theorem dX2_setTo_36 : decode cX2_setTo 36 = .ok (.iaload, 1) := by decide +kernel
theorem dX2_setTo_37 : decode cX2_setTo 37 = .ok (.iastore, 1) := by decide +kernel
theorem dX2_setTo_38 : decode cX2_setTo 38 = .ok (.iinc 2 1, 3) := by decide +kernel
theorem dX2_setTo_41 : decode cX2_setTo 41 = .ok (.goto (-23), 3) := by decide +kernel
theorem dX2_setTo_44 : decode cX2_setTo 44 = .ok (.return_, 1) := by decide +kernel
theorem dX2_setFigures_0 : decode cX2_setFigures 0 = .ok (.aload_n 0, 1) := by decide +kernel
theorem dX2_setFigures_1 : decode cX2_setFigures 1 = .ok (.iload_n 1, 1) := by decide +kernel
theorem dX2_setFigures_2 : decode cX2_setFigures 2 = .ok (.aload_n 0, 1) := by decide +kernel
theorem dX2_setFigures_3 : decode cX2_setFigures 3 = .ok (.getfield 15, 3) := by decide +kernel
theorem dX2_setFigures_6 : decode cX2_setFigures 6 = .ok (.arraylength, 1) := by decide +kernel
theorem dX2_setFigures_7 : decode cX2_setFigures 7 = .ok (.invokestatic 25, 3) := by decide +kernel
theorem dX2_setFigures_10 : decode cX2_setFigures 10 = .ok (.iconst 0, 1) := by decide +kernel
theorem dX2_setFigures_11 : decode cX2_setFigures 11 = .ok (.invokestatic 9, 3) := by decide +kernel
theorem dX2_setFigures_14 : decode cX2_setFigures 14 = .ok (.putfield 21, 3) := by decide +kernel
theorem dX2_setFigures_17 : decode cX2_setFigures 17 = .ok (.lload_n 2, 1) := by decide +kernel
theorem dX2_setFigures_18 : decode cX2_setFigures 18 = .ok (.lstore 4, 2) := by decide +kernel
theorem dX2_setFigures_20 : decode cX2_setFigures 20 = .ok (.aload_n 0, 1) := by decide +kernel
theorem dX2_setFigures_21 : decode cX2_setFigures 21 = .ok (.getfield 21, 3) := by decide +kernel
theorem dX2_setFigures_24 : decode cX2_setFigures 24 = .ok (.iconst 1, 1) := by decide +kernel
theorem dX2_setFigures_25 : decode cX2_setFigures 25 = .ok (.isub, 1) := by decide +kernel
theorem dX2_setFigures_26 : decode cX2_setFigures 26 = .ok (.istore 6, 2) := by decide +kernel
theorem dX2_setFigures_28 : decode cX2_setFigures 28 = .ok (.iload 6, 2) := by decide +kernel
theorem dX2_setFigures_30 : decode cX2_setFigures 30 = .ok (.ifCond .lt 31, 3) := by decide +kernel
theorem dX2_setFigures_33 : decode cX2_setFigures 33 = .ok (.aload_n 0, 1) := by decide +kernel
theorem dX2_setFigures_34 : decode cX2_setFigures 34 = .ok (.getfield 15, 3) := by decide +kernel
theorem dX2_setFigures_37 : decode cX2_setFigures 37 = .ok (.iload 6, 2) := by decide +kernel
theorem dX2_setFigures_39 : decode cX2_setFigures 39 = .ok (.lload 4, 2) := by decide +kernel
theorem dX2_setFigures_41 : decode cX2_setFigures 41 = .ok (.ldc2_w 28, 3) := by decide +kernel
theorem dX2_setFigures_44 : decode cX2_setFigures 44 = .ok (.lrem, 1) := by decide +kernel
theorem dX2_setFigures_45 : decode cX2_setFigures 45 = .ok (.l2i, 1) := by decide +kernel
theorem dX2_setFigures_46 : decode cX2_setFigures 46 = .ok (.iastore, 1) := by decide +kernel
theorem dX2_setFigures_47 : decode cX2_setFigures 47 = .ok (.lload 4, 2) := by decide +kernel
theorem dX2_setFigures_49 : decode cX2_setFigures 49 = .ok (.ldc2_w 28, 3) := by decide +kernel
theorem dX2_setFigures_52 : decode cX2_setFigures 52 = .ok (.ldiv, 1) := by decide +kernel
theorem dX2_setFigures_53 : decode cX2_setFigures 53 = .ok (.lstore 4, 2) := by decide +kernel
theorem dX2_setFigures_55 : decode cX2_setFigures 55 = .ok (.iinc 6 (-1), 3) := by decide +kernel
theorem dX2_setFigures_58 : decode cX2_setFigures 58 = .ok (.goto (-30), 3) := by decide +kernel
theorem dX2_setFigures_61 : decode cX2_setFigures 61 = .ok (.return_, 1) := by decide +kernel
theorem dX2_figures_0 : decode cX2_figures 0 = .ok (.lconst 0, 1) := by decide +kernel
theorem dX2_figures_1 : decode cX2_figures 1 = .ok (.lstore_n 1, 1) := by decide +kernel
theorem dX2_figures_2 : decode cX2_figures 2 = .ok (.iconst 0, 1) := by decide +kernel
theorem dX2_figures_3 : decode cX2_figures 3 = .ok (.istore_n 3, 1) := by decide +kernel
theorem dX2_figures_4 : decode cX2_figures 4 = .ok (.iload_n 3, 1) := by decide +kernel
theorem dX2_figures_5 : decode cX2_figures 5 = .ok (.aload_n 0, 1) := by decide +kernel
theorem dX2_figures_6 : decode cX2_figures 6 = .ok (.getfield 21, 3) := by decide +kernel
theorem dX2_figures_9 : decode cX2_figures 9 = .ok (.if_icmp .ge 23, 3) := by decide +kernel
theorem dX2_figures_12 : decode cX2_figures 12 = .ok (.ldc2_w 28, 3) := by decide +kernel
theorem dX2_figures_15 : decode cX2_figures 15 = .ok (.lload_n 1, 1) := by decide +kernel
theorem dX2_figures_16 : decode cX2_figures 16 = .ok (.lmul, 1) := by decide +kernel
theorem dX2_figures_17 : decode cX2_figures 17 = .ok (.aload_n 0, 1) := by decide +kernel
theorem dX2_figures_18 : decode cX2_figures 18 = .ok (.getfield 15, 3) := by decide +kernel
theorem dX2_figures_21 : decode cX2_figures 21 = .ok (.iload_n 3, 1) := by decide +kernel
theorem dX2_figures_22 : decode cX2_figures 22 = .ok (.iaload, 1) := by decide +kernel
theorem dX2_figures_23 : decode cX2_figures 23 = .ok (.i2l, 1) := by decide +kernel
theorem dX2_figures_24 : decode cX2_figures 24 = .ok (.ladd, 1) := by decide +kernel
theorem dX2_figures_25 : decode cX2_figures 25 = .ok (.lstore_n 1, 1) := by decide +kernel
theorem dX2_figures_26 : decode cX2_figures 26 = .ok (.iinc 3 1, 3) := by decide +kernel
theorem dX2_figures_29 : decode cX2_figures 29 = .ok (.goto (-25), 3) := by decide +kernel
theorem dX2_figures_32 : decode cX2_figures 32 = .ok (.lload_n 1, 1) := by decide +kernel
theorem dX2_figures_33 : decode cX2_figures 33 = .ok (.lreturn, 1) := by decide +kernel
theorem dX2_loseLast_0 : decode cX2_loseLast 0 = .ok (.aload_n 0, 1) := by decide +kernel
theorem dX2_loseLast_1 : decode cX2_loseLast 1 = .ok (.getfield 21, 3) := by decide +kernel
theorem dX2_loseLast_4 : decode cX2_loseLast 4 = .ok (.ifCond .le 13, 3) := by decide +kernel
theorem dX2_loseLast_7 : decode cX2_loseLast 7 = .ok (.aload_n 0, 1) := by decide +kernel
theorem dX2_loseLast_8 : decode cX2_loseLast 8 = .ok (.dup, 1) := by decide +kernel
theorem dX2_loseLast_9 : decode cX2_loseLast 9 = .ok (.getfield 21, 3) := by decide +kernel
theorem dX2_loseLast_12 : decode cX2_loseLast 12 = .ok (.iconst 1, 1) := by decide +kernel
theorem dX2_loseLast_13 : decode cX2_loseLast 13 = .ok (.isub, 1) := by decide +kernel
theorem dX2_loseLast_14 : decode cX2_loseLast 14 = .ok (.putfield 21, 3) := by decide +kernel
theorem dX2_loseLast_17 : decode cX2_loseLast 17 = .ok (.return_, 1) := by decide +kernel
theorem dX2_loseFirst_0 : decode cX2_loseFirst 0 = .ok (.aload_n 0, 1) := by decide +kernel
theorem dX2_loseFirst_1 : decode cX2_loseFirst 1 = .ok (.getfield 21, 3) := by decide +kernel
theorem dX2_loseFirst_4 : decode cX2_loseFirst 4 = .ok (.ifCond .le 43, 3) := by decide +kernel
theorem dX2_loseFirst_7 : decode cX2_loseFirst 7 = .ok (.iconst 1, 1) := by decide +kernel
theorem dX2_loseFirst_8 : decode cX2_loseFirst 8 = .ok (.istore_n 1, 1) := by decide +kernel
theorem dX2_loseFirst_9 : decode cX2_loseFirst 9 = .ok (.iload_n 1, 1) := by decide +kernel
theorem dX2_loseFirst_10 : decode cX2_loseFirst 10 = .ok (.aload_n 0, 1) := by decide +kernel
theorem dX2_loseFirst_11 : decode cX2_loseFirst 11 = .ok (.getfield 21, 3) := by decide +kernel
theorem dX2_loseFirst_14 : decode cX2_loseFirst 14 = .ok (.if_icmp .ge 23, 3) := by decide +kernel
theorem dX2_loseFirst_17 : decode cX2_loseFirst 17 = .ok (.aload_n 0, 1) := by decide +kernel
theorem dX2_loseFirst_18 : decode cX2_loseFirst 18 = .ok (.getfield 15, 3) := by decide +kernel
theorem dX2_loseFirst_21 : decode cX2_loseFirst 21 = .ok (.iload_n 1, 1) := by decide +kernel
theorem dX2_loseFirst_22 : decode cX2_loseFirst 22 = .ok (.iconst 1, 1) := by decide +kernel
theorem dX2_loseFirst_23 : decode cX2_loseFirst 23 = .ok (.isub, 1) := by decide +kernel
theorem dX2_loseFirst_24 : decode cX2_loseFirst 24 = .ok (.aload_n 0, 1) := by decide +kernel
theorem dX2_loseFirst_25 : decode cX2_loseFirst 25 = .ok (.getfield 15, 3) := by decide +kernel
theorem dX2_loseFirst_28 : decode cX2_loseFirst 28 = .ok (.iload_n 1, 1) := by decide +kernel
theorem dX2_loseFirst_29 : decode cX2_loseFirst 29 = .ok (.iaload, 1) := by decide +kernel
theorem dX2_loseFirst_30 : decode cX2_loseFirst 30 = .ok (.iastore, 1) := by decide +kernel
theorem dX2_loseFirst_31 : decode cX2_loseFirst 31 = .ok (.iinc 1 1, 3) := by decide +kernel
theorem dX2_loseFirst_34 : decode cX2_loseFirst 34 = .ok (.goto (-25), 3) := by decide +kernel
theorem dX2_loseFirst_37 : decode cX2_loseFirst 37 = .ok (.aload_n 0, 1) := by decide +kernel
theorem dX2_loseFirst_38 : decode cX2_loseFirst 38 = .ok (.dup, 1) := by decide +kernel
theorem dX2_loseFirst_39 : decode cX2_loseFirst 39 = .ok (.getfield 21, 3) := by decide +kernel
theorem dX2_loseFirst_42 : decode cX2_loseFirst 42 = .ok (.iconst 1, 1) := by decide +kernel
theorem dX2_loseFirst_43 : decode cX2_loseFirst 43 = .ok (.isub, 1) := by decide +kernel
theorem dX2_loseFirst_44 : decode cX2_loseFirst 44 = .ok (.putfield 21, 3) := by decide +kernel
theorem dX2_loseFirst_47 : decode cX2_loseFirst 47 = .ok (.return_, 1) := by decide +kernel
theorem dX2_reverse_0 : decode cX2_reverse 0 = .ok (.iconst 0, 1) := by decide +kernel
theorem dX2_reverse_1 : decode cX2_reverse 1 = .ok (.istore_n 1, 1) := by decide +kernel
theorem dX2_reverse_2 : decode cX2_reverse 2 = .ok (.iload_n 1, 1) := by decide +kernel
theorem dX2_reverse_3 : decode cX2_reverse 3 = .ok (.aload_n 0, 1) := by decide +kernel
theorem dX2_reverse_4 : decode cX2_reverse 4 = .ok (.getfield 21, 3) := by decide +kernel
theorem dX2_reverse_7 : decode cX2_reverse 7 = .ok (.iconst 2, 1) := by decide +kernel
theorem dX2_reverse_8 : decode cX2_reverse 8 = .ok (.idiv, 1) := by decide +kernel
theorem dX2_reverse_9 : decode cX2_reverse 9 = .ok (.if_icmp .ge 49, 3) := by decide +kernel
theorem dX2_reverse_12 : decode cX2_reverse 12 = .ok (.aload_n 0, 1) := by decide +kernel
theorem dX2_reverse_13 : decode cX2_reverse 13 = .ok (.getfield 15, 3) := by decide +kernel
theorem dX2_reverse_16 : decode cX2_reverse 16 = .ok (.iload_n 1, 1) := by decide +kernel
theorem dX2_reverse_17 : decode cX2_reverse 17 = .ok (.iaload, 1) := by decide +kernel
theorem dX2_reverse_18 : decode cX2_reverse 18 = .ok (.istore_n 2, 1) := by decide +kernel
theorem dX2_reverse_19 : decode cX2_reverse 19 = .ok (.aload_n 0, 1) := by decide +kernel
theorem dX2_reverse_20 : decode cX2_reverse 20 = .ok (.getfield 15, 3) := by decide +kernel
theorem dX2_reverse_23 : decode cX2_reverse 23 = .ok (.iload_n 1, 1) := by decide +kernel
theorem dX2_reverse_24 : decode cX2_reverse 24 = .ok (.aload_n 0, 1) := by decide +kernel
theorem dX2_reverse_25 : decode cX2_reverse 25 = .ok (.getfield 15, 3) := by decide +kernel
theorem dX2_reverse_28 : decode cX2_reverse 28 = .ok (.aload_n 0, 1) := by decide +kernel
theorem dX2_reverse_29 : decode cX2_reverse 29 = .ok (.getfield 21, 3) := by decide +kernel
theorem dX2_reverse_32 : decode cX2_reverse 32 = .ok (.iconst 1, 1) := by decide +kernel
theorem dX2_reverse_33 : decode cX2_reverse 33 = .ok (.isub, 1) := by decide +kernel
theorem dX2_reverse_34 : decode cX2_reverse 34 = .ok (.iload_n 1, 1) := by decide +kernel
theorem dX2_reverse_35 : decode cX2_reverse 35 = .ok (.isub, 1) := by decide +kernel
theorem dX2_reverse_36 : decode cX2_reverse 36 = .ok (.iaload, 1) := by decide +kernel
theorem dX2_reverse_37 : decode cX2_reverse 37 = .ok (.iastore, 1) := by decide +kernel
theorem dX2_reverse_38 : decode cX2_reverse 38 = .ok (.aload_n 0, 1) := by decide +kernel
theorem dX2_reverse_39 : decode cX2_reverse 39 = .ok (.getfield 15, 3) := by decide +kernel
theorem dX2_reverse_42 : decode cX2_reverse 42 = .ok (.aload_n 0, 1) := by decide +kernel
theorem dX2_reverse_43 : decode cX2_reverse 43 = .ok (.getfield 21, 3) := by decide +kernel
theorem dX2_reverse_46 : decode cX2_reverse 46 = .ok (.iconst 1, 1) := by decide +kernel
theorem dX2_reverse_47 : decode cX2_reverse 47 = .ok (.isub, 1) := by decide +kernel
theorem dX2_reverse_48 : decode cX2_reverse 48 = .ok (.iload_n 1, 1) := by decide +kernel
theorem dX2_reverse_49 : decode cX2_reverse 49 = .ok (.isub, 1) := by decide +kernel
theorem dX2_reverse_50 : decode cX2_reverse 50 = .ok (.iload_n 2, 1) := by decide +kernel
theorem dX2_reverse_51 : decode cX2_reverse 51 = .ok (.iastore, 1) := by decide +kernel
theorem dX2_reverse_52 : decode cX2_reverse 52 = .ok (.iinc 1 1, 3) := by decide +kernel
theorem dX2_reverse_55 : decode cX2_reverse 55 = .ok (.goto (-53), 3) := by decide +kernel
theorem dX2_reverse_58 : decode cX2_reverse 58 = .ok (.return_, 1) := by decide +kernel
theorem dX2_overlapWith_0 : decode cX2_overlapWith 0 = .ok (.aload_n 0, 1) := by decide +kernel
theorem dX2_overlapWith_1 : decode cX2_overlapWith 1 = .ok (.getfield 21, 3) := by decide +kernel
theorem dX2_overlapWith_4 : decode cX2_overlapWith 4 = .ok (.aload_n 1, 1) := by decide +kernel
theorem dX2_overlapWith_5 : decode cX2_overlapWith 5 = .ok (.getfield 21, 3) := by decide +kernel
theorem dX2_overlapWith_8 : decode cX2_overlapWith 8 = .ok (.invokestatic 25, 3) := by decide +kernel
theorem dX2_overlapWith_11 : decode cX2_overlapWith 11 = .ok (.istore_n 2, 1) := by decide +kernel
theorem dX2_overlapWith_12 : decode cX2_overlapWith 12 = .ok (.iload_n 2, 1) := by decide +kernel
theorem dX2_overlapWith_13 : decode cX2_overlapWith 13 = .ok (.ifCond .le 20, 3) := by decide +kernel
theorem dX2_overlapWith_16 : decode cX2_overlapWith 16 = .ok (.aload_n 0, 1) := by decide +kernel
theorem dX2_overlapWith_17 : decode cX2_overlapWith 17 = .ok (.aload_n 1, 1) := by decide +kernel
theorem dX2_overlapWith_18 : decode cX2_overlapWith 18 = .ok (.iload_n 2, 1) := by decide +kernel
theorem dX2_overlapWith_19 : decode cX2_overlapWith 19 = .ok (.invokevirtual 30, 3) := by decide +kernel
theorem dX2_overlapWith_22 : decode cX2_overlapWith 22 = .ok (.ifCond .eq 5, 3) := by decide +kernel
theorem dX2_overlapWith_25 : decode cX2_overlapWith 25 = .ok (.iload_n 2, 1) := by decide +kernel
theorem dX2_overlapWith_26 : decode cX2_overlapWith 26 = .ok (.ireturn, 1) := by decide +kernel
theorem dX2_overlapWith_27 : decode cX2_overlapWith 27 = .ok (.iinc 2 (-1), 3) := by decide +kernel
theorem dX2_overlapWith_30 : decode cX2_overlapWith 30 = .ok (.goto (-18), 3) := by decide +kernel
theorem dX2_overlapWith_33 : decode cX2_overlapWith 33 = .ok (.iconst 0, 1) := by decide +kernel
theorem dX2_overlapWith_34 : decode cX2_overlapWith 34 = .ok (.ireturn, 1) := by decide +kernel
theorem dX2_endsAs_0 : decode cX2_endsAs 0 = .ok (.iconst 0, 1) := by decide +kernel
theorem dX2_endsAs_1 : decode cX2_endsAs 1 = .ok (.istore_n 3, 1) := by decide +kernel
theorem dX2_endsAs_2 : decode cX2_endsAs 2 = .ok (.iload_n 3, 1) := by decide +kernel
theorem dX2_endsAs_3 : decode cX2_endsAs 3 = .ok (.iload_n 2, 1) := by decide +kernel
theorem dX2_endsAs_4 : decode cX2_endsAs 4 = .ok (.if_icmp .ge 33, 3) := by decide +kernel
theorem dX2_endsAs_7 : decode cX2_endsAs 7 = .ok (.aload_n 0, 1) := by decide +kernel
theorem dX2_endsAs_8 : decode cX2_endsAs 8 = .ok (.getfield 15, 3) := by decide +kernel
theorem dX2_endsAs_11 : decode cX2_endsAs 11 = .ok (.aload_n 0, 1) := by decide +kernel
theorem dX2_endsAs_12 : decode cX2_endsAs 12 = .ok (.getfield 21, 3) := by decide +kernel
theorem dX2_endsAs_15 : decode cX2_endsAs 15 = .ok (.iload_n 2, 1) := by decide +kernel
theorem dX2_endsAs_16 : decode cX2_endsAs 16 = .ok (.isub, 1) := by decide +kernel
theorem dX2_endsAs_17 : decode cX2_endsAs 17 = .ok (.iload_n 3, 1) := by decide +kernel
theorem dX2_endsAs_18 : decode cX2_endsAs 18 = .ok (.iadd, 1) := by decide +kernel
theorem dX2_endsAs_19 : decode cX2_endsAs 19 = .ok (.iaload, 1) := by decide +kernel
theorem dX2_endsAs_20 : decode cX2_endsAs 20 = .ok (.aload_n 1, 1) := by decide +kernel
theorem dX2_endsAs_21 : decode cX2_endsAs 21 = .ok (.getfield 15, 3) := by decide +kernel
theorem dX2_endsAs_24 : decode cX2_endsAs 24 = .ok (.iload_n 3, 1) := by decide +kernel
theorem dX2_endsAs_25 : decode cX2_endsAs 25 = .ok (.iaload, 1) := by decide +kernel
theorem dX2_endsAs_26 : decode cX2_endsAs 26 = .ok (.if_icmp .eq 5, 3) := by decide +kernel
theorem dX2_endsAs_29 : decode cX2_endsAs 29 = .ok (.iconst 0, 1) := by decide +kernel
theorem dX2_endsAs_30 : decode cX2_endsAs 30 = .ok (.ireturn, 1) := by decide +kernel
theorem dX2_endsAs_31 : decode cX2_endsAs 31 = .ok (.iinc 3 1, 3) := by decide +kernel
theorem dX2_endsAs_34 : decode cX2_endsAs 34 = .ok (.goto (-32), 3) := by decide +kernel
theorem dX2_endsAs_37 : decode cX2_endsAs 37 = .ok (.iconst 1, 1) := by decide +kernel
theorem dX2_endsAs_38 : decode cX2_endsAs 38 = .ok (.ireturn, 1) := by decide +kernel
theorem dX2_addBehind_0 : decode cX2_addBehind 0 = .ok (.aload_n 0, 1) := by decide +kernel
theorem dX2_addBehind_1 : decode cX2_addBehind 1 = .ok (.aload_n 1, 1) := by decide +kernel
theorem dX2_addBehind_2 : decode cX2_addBehind 2 = .ok (.invokevirtual 34, 3) := by decide +kernel
theorem dX2_addBehind_5 : decode cX2_addBehind 5 = .ok (.istore_n 2, 1) := by decide +kernel
theorem dX2_addBehind_6 : decode cX2_addBehind 6 = .ok (.iload_n 2, 1) := by decide +kernel
theorem dX2_addBehind_7 : decode cX2_addBehind 7 = .ok (.aload_n 1, 1) := by decide +kernel
theorem dX2_addBehind_8 : decode cX2_addBehind 8 = .ok (.getfield 21, 3) := by decide +kernel
theorem dX2_addBehind_11 : decode cX2_addBehind 11 = .ok (.if_icmp .ge 19, 3) := by decide +kernel
theorem dX2_addBehind_14 : decode cX2_addBehind 14 = .ok (.aload_n 0, 1) := by decide +kernel
theorem dX2_addBehind_15 : decode cX2_addBehind 15 = .ok (.aload_n 1, 1) := by decide +kernel
theorem dX2_addBehind_16 : decode cX2_addBehind 16 = .ok (.getfield 15, 3) := by decide +kernel
theorem dX2_addBehind_19 : decode cX2_addBehind 19 = .ok (.iload_n 2, 1) := by decide +kernel
theorem dX2_addBehind_20 : decode cX2_addBehind 20 = .ok (.iaload, 1) := by decide +kernel
theorem dX2_addBehind_21 : decode cX2_addBehind 21 = .ok (.invokevirtual 38, 3) := by decide +kernel
theorem dX2_addBehind_24 : decode cX2_addBehind 24 = .ok (.iinc 2 1, 3) := by decide +kernel
theorem dX2_addBehind_27 : decode cX2_addBehind 27 = .ok (.goto (-21), 3) := by decide +kernel
theorem dX2_addBehind_30 : decode cX2_addBehind 30 = .ok (.return_, 1) := by decide +kernel
theorem dX2_bearsAt_0 : decode cX2_bearsAt 0 = .ok (.iload_n 1, 1) := by decide +kernel
theorem dX2_bearsAt_1 : decode cX2_bearsAt 1 = .ok (.ifCond .lt 16, 3) := by decide +kernel
theorem dX2_bearsAt_4 : decode cX2_bearsAt 4 = .ok (.iload_n 1, 1) := by decide +kernel
theorem dX2_bearsAt_5 : decode cX2_bearsAt 5 = .ok (.aload_n 0, 1) := by decide +kernel
theorem dX2_bearsAt_6 : decode cX2_bearsAt 6 = .ok (.getfield 21, 3) := by decide +kernel
theorem dX2_bearsAt_9 : decode cX2_bearsAt 9 = .ok (.aload_n 2, 1) := by decide +kernel
theorem dX2_bearsAt_10 : decode cX2_bearsAt 10 = .ok (.getfield 21, 3) := by decide +kernel
theorem dX2_bearsAt_13 : decode cX2_bearsAt 13 = .ok (.isub, 1) := by decide +kernel
theorem dX2_bearsAt_14 : decode cX2_bearsAt 14 = .ok (.if_icmp .le 5, 3) := by decide +kernel
theorem dX2_bearsAt_17 : decode cX2_bearsAt 17 = .ok (.iconst 0, 1) := by decide +kernel
theorem dX2_bearsAt_18 : decode cX2_bearsAt 18 = .ok (.ireturn, 1) := by decide +kernel
theorem dX2_bearsAt_19 : decode cX2_bearsAt 19 = .ok (.iconst 0, 1) := by decide +kernel
theorem dX2_bearsAt_20 : decode cX2_bearsAt 20 = .ok (.istore_n 3, 1) := by decide +kernel
theorem dX2_bearsAt_21 : decode cX2_bearsAt 21 = .ok (.iload_n 3, 1) := by decide +kernel
theorem dX2_bearsAt_22 : decode cX2_bearsAt 22 = .ok (.aload_n 2, 1) := by decide +kernel
theorem dX2_bearsAt_23 : decode cX2_bearsAt 23 = .ok (.getfield 21, 3) := by decide +kernel
theorem dX2_bearsAt_26 : decode cX2_bearsAt 26 = .ok (.if_icmp .ge 28, 3) := by decide +kernel
theorem dX2_bearsAt_29 : decode cX2_bearsAt 29 = .ok (.aload_n 0, 1) := by decide +kernel
theorem dX2_bearsAt_30 : decode cX2_bearsAt 30 = .ok (.getfield 15, 3) := by decide +kernel
theorem dX2_bearsAt_33 : decode cX2_bearsAt 33 = .ok (.iload_n 1, 1) := by decide +kernel
theorem dX2_bearsAt_34 : decode cX2_bearsAt 34 = .ok (.iload_n 3, 1) := by decide +kernel
theorem dX2_bearsAt_35 : decode cX2_bearsAt 35 = .ok (.iadd, 1) := by decide +kernel
theorem dX2_bearsAt_36 : decode cX2_bearsAt 36 = .ok (.iaload, 1) := by decide +kernel
theorem dX2_bearsAt_37 : decode cX2_bearsAt 37 = .ok (.aload_n 2, 1) := by decide +kernel
theorem dX2_bearsAt_38 : decode cX2_bearsAt 38 = .ok (.getfield 15, 3) := by decide +kernel
theorem dX2_bearsAt_41 : decode cX2_bearsAt 41 = .ok (.iload_n 3, 1) := by decide +kernel
theorem dX2_bearsAt_42 : decode cX2_bearsAt 42 = .ok (.iaload, 1) := by decide +kernel
theorem dX2_bearsAt_43 : decode cX2_bearsAt 43 = .ok (.if_icmp .eq 5, 3) := by decide +kernel
theorem dX2_bearsAt_46 : decode cX2_bearsAt 46 = .ok (.iconst 0, 1) := by decide +kernel
theorem dX2_bearsAt_47 : decode cX2_bearsAt 47 = .ok (.ireturn, 1) := by decide +kernel
theorem dX2_bearsAt_48 : decode cX2_bearsAt 48 = .ok (.iinc 3 1, 3) := by decide +kernel
theorem dX2_bearsAt_51 : decode cX2_bearsAt 51 = .ok (.goto (-30), 3) := by decide +kernel
theorem dX2_bearsAt_54 : decode cX2_bearsAt 54 = .ok (.iconst 1, 1) := by decide +kernel
theorem dX2_bearsAt_55 : decode cX2_bearsAt 55 = .ok (.ireturn, 1) := by decide +kernel
theorem dX2_firstPlaceOf_0 : decode cX2_firstPlaceOf 0 = .ok (.iconst 0, 1) := by decide +kernel
theorem dX2_firstPlaceOf_1 : decode cX2_firstPlaceOf 1 = .ok (.istore_n 2, 1) := by decide +kernel
theorem dX2_firstPlaceOf_2 : decode cX2_firstPlaceOf 2 = .ok (.iload_n 2, 1) := by decide +kernel
theorem dX2_firstPlaceOf_3 : decode cX2_firstPlaceOf 3 = .ok (.aload_n 0, 1) := by decide +kernel
theorem dX2_firstPlaceOf_4 : decode cX2_firstPlaceOf 4 = .ok (.getfield 21, 3) := by decide +kernel
theorem dX2_firstPlaceOf_7 : decode cX2_firstPlaceOf 7 = .ok (.if_icmp .ge 20, 3) := by decide +kernel
theorem dX2_firstPlaceOf_10 : decode cX2_firstPlaceOf 10 = .ok (.aload_n 0, 1) := by decide +kernel
theorem dX2_firstPlaceOf_11 : decode cX2_firstPlaceOf 11 = .ok (.iload_n 2, 1) := by decide +kernel
theorem dX2_firstPlaceOf_12 : decode cX2_firstPlaceOf 12 = .ok (.aload_n 1, 1) := by decide +kernel
theorem dX2_firstPlaceOf_13 : decode cX2_firstPlaceOf 13 = .ok (.invokevirtual 42, 3) := by decide +kernel
theorem dX2_firstPlaceOf_16 : decode cX2_firstPlaceOf 16 = .ok (.ifCond .eq 5, 3) := by decide +kernel
theorem dX2_firstPlaceOf_19 : decode cX2_firstPlaceOf 19 = .ok (.iload_n 2, 1) := by decide +kernel
theorem dX2_firstPlaceOf_20 : decode cX2_firstPlaceOf 20 = .ok (.ireturn, 1) := by decide +kernel
theorem dX2_firstPlaceOf_21 : decode cX2_firstPlaceOf 21 = .ok (.iinc 2 1, 3) := by decide +kernel
theorem dX2_firstPlaceOf_24 : decode cX2_firstPlaceOf 24 = .ok (.goto (-22), 3) := by decide +kernel
theorem dX2_firstPlaceOf_27 : decode cX2_firstPlaceOf 27 = .ok (.bipush (-9), 2) := by decide +kernel
theorem dX2_firstPlaceOf_29 : decode cX2_firstPlaceOf 29 = .ok (.ireturn, 1) := by decide +kernel
theorem dX2_bitsAt_0 : decode cX2_bitsAt 0 = .ok (.iconst 1, 1) := by decide +kernel
theorem dX2_bitsAt_1 : decode cX2_bitsAt 1 = .ok (.aload_n 0, 1) := by decide +kernel
theorem dX2_bitsAt_2 : decode cX2_bitsAt 2 = .ok (.getfield 21, 3) := by decide +kernel
theorem dX2_bitsAt_5 : decode cX2_bitsAt 5 = .ok (.ishl, 1) := by decide +kernel
theorem dX2_bitsAt_6 : decode cX2_bitsAt 6 = .ok (.iconst 1, 1) := by decide +kernel
theorem dX2_bitsAt_7 : decode cX2_bitsAt 7 = .ok (.isub, 1) := by decide +kernel
theorem dX2_bitsAt_8 : decode cX2_bitsAt 8 = .ok (.iload_n 1, 1) := by decide +kernel
theorem dX2_bitsAt_9 : decode cX2_bitsAt 9 = .ok (.ishl, 1) := by decide +kernel
theorem dX2_bitsAt_10 : decode cX2_bitsAt 10 = .ok (.ireturn, 1) := by decide +kernel
theorem dX2_placesUnder_0 : decode cX2_placesUnder 0 = .ok (.iconst 0, 1) := by decide +kernel
theorem dX2_placesUnder_1 : decode cX2_placesUnder 1 = .ok (.istore_n 2, 1) := by decide +kernel
theorem dX2_placesUnder_2 : decode cX2_placesUnder 2 = .ok (.iconst 0, 1) := by decide +kernel
theorem dX2_placesUnder_3 : decode cX2_placesUnder 3 = .ok (.istore_n 3, 1) := by decide +kernel
theorem dX2_placesUnder_4 : decode cX2_placesUnder 4 = .ok (.iload_n 3, 1) := by decide +kernel
theorem dX2_placesUnder_5 : decode cX2_placesUnder 5 = .ok (.aload_n 0, 1) := by decide +kernel
theorem dX2_placesUnder_6 : decode cX2_placesUnder 6 = .ok (.getfield 21, 3) := by decide +kernel
theorem dX2_placesUnder_9 : decode cX2_placesUnder 9 = .ok (.if_icmp .ge 26, 3) := by decide +kernel
theorem dX2_placesUnder_12 : decode cX2_placesUnder 12 = .ok (.aload_n 0, 1) := by decide +kernel
theorem dX2_placesUnder_13 : decode cX2_placesUnder 13 = .ok (.iload_n 3, 1) := by decide +kernel
theorem dX2_placesUnder_14 : decode cX2_placesUnder 14 = .ok (.aload_n 1, 1) := by decide +kernel
theorem dX2_placesUnder_15 : decode cX2_placesUnder 15 = .ok (.invokevirtual 42, 3) := by decide +kernel
theorem dX2_placesUnder_18 : decode cX2_placesUnder 18 = .ok (.ifCond .eq 11, 3) := by decide +kernel
theorem dX2_placesUnder_21 : decode cX2_placesUnder 21 = .ok (.iload_n 2, 1) := by decide +kernel
theorem dX2_placesUnder_22 : decode cX2_placesUnder 22 = .ok (.aload_n 1, 1) := by decide +kernel
theorem dX2_placesUnder_23 : decode cX2_placesUnder 23 = .ok (.iload_n 3, 1) := by decide +kernel
theorem dX2_placesUnder_24 : decode cX2_placesUnder 24 = .ok (.invokevirtual 46, 3) := by decide +kernel
theorem dX2_placesUnder_27 : decode cX2_placesUnder 27 = .ok (.ior, 1) := by decide +kernel
theorem dX2_placesUnder_28 : decode cX2_placesUnder 28 = .ok (.istore_n 2, 1) := by decide +kernel
theorem dX2_placesUnder_29 : decode cX2_placesUnder 29 = .ok (.iinc 3 1, 3) := by decide +kernel
theorem dX2_placesUnder_32 : decode cX2_placesUnder 32 = .ok (.goto (-28), 3) := by decide +kernel
theorem dX2_placesUnder_35 : decode cX2_placesUnder 35 = .ok (.iload_n 2, 1) := by decide +kernel
theorem dX2_placesUnder_36 : decode cX2_placesUnder 36 = .ok (.ireturn, 1) := by decide +kernel
theorem dX3_init_0 : decode cX3_init 0 = .ok (.aload_n 0, 1) := by decide +kernel
theorem dX3_init_1 : decode cX3_init 1 = .ok (.invokespecial 3, 3) := by decide +kernel
theorem dX3_init_4 : decode cX3_init 4 = .ok (.aload_n 0, 1) := by decide +kernel
theorem dX3_init_5 : decode cX3_init 5 = .ok (.iconst 2, 1) := by decide +kernel
theorem dX3_init_6 : decode cX3_init 6 = .ok (.anewarray 9, 3) := by decide +kernel
theorem dX3_init_9 : decode cX3_init 9 = .ok (.putfield 11, 3) := by decide +kernel
theorem dX3_init_12 : decode cX3_init 12 = .ok (.iconst 0, 1) := by decide +kernel
theorem dX3_init_13 : decode cX3_init 13 = .ok (.istore_n 1, 1) := by decide +kernel
theorem dX3_init_14 : decode cX3_init 14 = .ok (.iload_n 1, 1) := by decide +kernel
theorem dX3_init_15 : decode cX3_init 15 = .ok (.iconst 2, 1) := by decide +kernel
theorem dX3_init_16 : decode cX3_init 16 = .ok (.if_icmp .ge 22, 3) := by decide +kernel
theorem dX3_init_19 : decode cX3_init 19 = .ok (.aload_n 0, 1) := by decide +kernel
theorem dX3_init_20 : decode cX3_init 20 = .ok (.getfield 11, 3) := by decide +kernel
theorem dX3_init_23 : decode cX3_init 23 = .ok (.iload_n 1, 1) := by decide +kernel
theorem dX3_init_24 : decode cX3_init 24 = .ok (.new 9, 3) := by decide +kernel
theorem dX3_init_27 : decode cX3_init 27 = .ok (.dup, 1) := by decide +kernel
theorem dX3_init_28 : decode cX3_init 28 = .ok (.invokespecial 17, 3) := by decide +kernel
theorem dX3_init_31 : decode cX3_init 31 = .ok (.aastore, 1) := by decide +kernel
theorem dX3_init_32 : decode cX3_init 32 = .ok (.iinc 1 1, 3) := by decide +kernel
theorem dX3_init_35 : decode cX3_init 35 = .ok (.goto (-21), 3) := by decide +kernel
theorem dX3_init_38 : decode cX3_init 38 = .ok (.return_, 1) := by decide +kernel
theorem dX3_clear_0 : decode cX3_clear 0 = .ok (.aload_n 0, 1) := by decide +kernel
theorem dX3_clear_1 : decode cX3_clear 1 = .ok (.iconst 0, 1) := by decide +kernel
theorem dX3_clear_2 : decode cX3_clear 2 = .ok (.putfield 18, 3) := by decide +kernel
theorem dX3_clear_5 : decode cX3_clear 5 = .ok (.return_, 1) := by decide +kernel
theorem dX3_put_0 : decode cX3_put 0 = .ok (.iload_n 1, 1) := by decide +kernel
theorem dX3_put_1 : decode cX3_put 1 = .ok (.ifCond .lt 8, 3) := by decide +kernel
theorem dX3_put_4 : decode cX3_put 4 = .ok (.iload_n 1, 1) := by decide +kernel
theorem dX3_put_5 : decode cX3_put 5 = .ok (.iconst 2, 1) := by decide +kernel
theorem dX3_put_6 : decode cX3_put 6 = .ok (.if_icmp .lt 5, 3) := by decide +kernel
theorem dX3_put_9 : decode cX3_put 9 = .ok (.iconst (-1), 1) := by decide +kernel
theorem dX3_put_10 : decode cX3_put 10 = .ok (.ireturn, 1) := by decide +kernel
theorem dX3_put_11 : decode cX3_put 11 = .ok (.aload_n 0, 1) := by decide +kernel
theorem dX3_put_12 : decode cX3_put 12 = .ok (.getfield 11, 3) := by decide +kernel
theorem dX3_put_15 : decode cX3_put 15 = .ok (.iload_n 1, 1) := by decide +kernel
theorem dX3_put_16 : decode cX3_put 16 = .ok (.aaload, 1) := by decide +kernel
theorem dX3_put_17 : decode cX3_put 17 = .ok (.aload_n 2, 1) := by decide +kernel
theorem dX3_put_18 : decode cX3_put 18 = .ok (.invokevirtual 22, 3) := by decide +kernel
theorem dX3_put_21 : decode cX3_put 21 = .ok (.aload_n 0, 1) := by decide +kernel
theorem dX3_put_22 : decode cX3_put 22 = .ok (.dup, 1) := by decide +kernel
theorem dX3_put_23 : decode cX3_put 23 = .ok (.getfield 18, 3) := by decide +kernel
theorem dX3_put_26 : decode cX3_put 26 = .ok (.iconst 1, 1) := by decide +kernel
theorem dX3_put_27 : decode cX3_put 27 = .ok (.iload_n 1, 1) := by decide +kernel
theorem dX3_put_28 : decode cX3_put 28 = .ok (.ishl, 1) := by decide +kernel
theorem dX3_put_29 : decode cX3_put 29 = .ok (.ior, 1) := by decide +kernel
theorem dX3_put_30 : decode cX3_put 30 = .ok (.putfield 18, 3) := by decide +kernel
theorem dX3_put_33 : decode cX3_put 33 = .ok (.aload_n 2, 1) := by decide +kernel
theorem dX3_put_34 : decode cX3_put 34 = .ok (.getfield 26, 3) := by decide +kernel
theorem dX3_put_37 : decode cX3_put 37 = .ok (.ireturn, 1) := by decide +kernel
theorem dX3_bringBack_0 : decode cX3_bringBack 0 = .ok (.iload_n 1, 1) := by decide +kernel
theorem dX3_bringBack_1 : decode cX3_bringBack 1 = .ok (.ifCond .lt 8, 3) := by decide +kernel
theorem dX3_bringBack_4 : decode cX3_bringBack 4 = .ok (.iload_n 1, 1) := by decide +kernel
theorem dX3_bringBack_5 : decode cX3_bringBack 5 = .ok (.iconst 2, 1) := by decide +kernel
theorem dX3_bringBack_6 : decode cX3_bringBack 6 = .ok (.if_icmp .lt 5, 3) := by decide +kernel
theorem dX3_bringBack_9 : decode cX3_bringBack 9 = .ok (.iconst (-1), 1) := by decide +kernel
theorem dX3_bringBack_10 : decode cX3_bringBack 10 = .ok (.ireturn, 1) := by decide +kernel
theorem dX3_bringBack_11 : decode cX3_bringBack 11 = .ok (.aload_n 0, 1) := by decide +kernel
theorem dX3_bringBack_12 : decode cX3_bringBack 12 = .ok (.getfield 18, 3) := by decide +kernel
theorem dX3_bringBack_15 : decode cX3_bringBack 15 = .ok (.iload_n 1, 1) := by decide +kernel
theorem dX3_bringBack_16 : decode cX3_bringBack 16 = .ok (.ishr, 1) := by decide +kernel
theorem dX3_bringBack_17 : decode cX3_bringBack 17 = .ok (.iconst 1, 1) := by decide +kernel
theorem dX3_bringBack_18 : decode cX3_bringBack 18 = .ok (.iand, 1) := by decide +kernel
theorem dX3_bringBack_19 : decode cX3_bringBack 19 = .ok (.ifCond .ne 6, 3) := by decide +kernel
theorem dX3_bringBack_22 : decode cX3_bringBack 22 = .ok (.bipush (-3), 2) := by decide +kernel
theorem dX3_bringBack_24 : decode cX3_bringBack 24 = .ok (.ireturn, 1) := by decide +kernel
theorem dX3_bringBack_25 : decode cX3_bringBack 25 = .ok (.aload_n 2, 1) := by decide +kernel
theorem dX3_bringBack_26 : decode cX3_bringBack 26 = .ok (.aload_n 0, 1) := by decide +kernel
theorem dX3_bringBack_27 : decode cX3_bringBack 27 = .ok (.getfield 11, 3) := by decide +kernel
theorem dX3_bringBack_30 : decode cX3_bringBack 30 = .ok (.iload_n 1, 1) := by decide +kernel
theorem dX3_bringBack_31 : decode cX3_bringBack 31 = .ok (.aaload, 1) := by decide +kernel
theorem dX3_bringBack_32 : decode cX3_bringBack 32 = .ok (.invokevirtual 22, 3) := by decide +kernel
theorem dX3_bringBack_35 : decode cX3_bringBack 35 = .ok (.aload_n 2, 1) := by decide +kernel
theorem dX3_bringBack_36 : decode cX3_bringBack 36 = .ok (.getfield 26, 3) := by decide +kernel
theorem dX3_bringBack_39 : decode cX3_bringBack 39 = .ok (.ireturn, 1) := by decide +kernel
theorem dX4_init_0 : decode cX4_init 0 = .ok (.aload_n 0, 1) := by decide +kernel
theorem dX4_init_1 : decode cX4_init 1 = .ok (.invokespecial 3, 3) := by decide +kernel
theorem dX4_init_4 : decode cX4_init 4 = .ok (.aload_n 0, 1) := by decide +kernel
theorem dX4_init_5 : decode cX4_init 5 = .ok (.new 9, 3) := by decide +kernel
theorem dX4_init_8 : decode cX4_init 8 = .ok (.dup, 1) := by decide +kernel
theorem dX4_init_9 : decode cX4_init 9 = .ok (.bipush 12, 2) := by decide +kernel
theorem dX4_init_11 : decode cX4_init 11 = .ok (.invokespecial 11, 3) := by decide +kernel
theorem dX4_init_14 : decode cX4_init 14 = .ok (.putfield 14, 3) := by decide +kernel
theorem dX4_init_17 : decode cX4_init 17 = .ok (.return_, 1) := by decide +kernel
theorem dX4_setTo_0 : decode cX4_setTo 0 = .ok (.aload_n 0, 1) := by decide +kernel
theorem dX4_setTo_1 : decode cX4_setTo 1 = .ok (.getfield 14, 3) := by decide +kernel
theorem dX4_setTo_4 : decode cX4_setTo 4 = .ok (.aload_n 1, 1) := by decide +kernel
theorem dX4_setTo_5 : decode cX4_setTo 5 = .ok (.getfield 14, 3) := by decide +kernel
theorem dX4_setTo_8 : decode cX4_setTo 8 = .ok (.invokevirtual 20, 3) := by decide +kernel
theorem dX4_setTo_11 : decode cX4_setTo 11 = .ok (.aload_n 0, 1) := by decide +kernel
theorem dX4_setTo_12 : decode cX4_setTo 12 = .ok (.aload_n 1, 1) := by decide +kernel
theorem dX4_setTo_13 : decode cX4_setTo 13 = .ok (.getfield 24, 3) := by decide +kernel
theorem dX4_setTo_16 : decode cX4_setTo 16 = .ok (.putfield 24, 3) := by decide +kernel
theorem dX4_setTo_19 : decode cX4_setTo 19 = .ok (.aload_n 0, 1) := by decide +kernel
theorem dX4_setTo_20 : decode cX4_setTo 20 = .ok (.aload_n 1, 1) := by decide +kernel
theorem dX4_setTo_21 : decode cX4_setTo 21 = .ok (.getfield 28, 3) := by decide +kernel
theorem dX4_setTo_24 : decode cX4_setTo 24 = .ok (.putfield 28, 3) := by decide +kernel
theorem dX4_setTo_27 : decode cX4_setTo 27 = .ok (.return_, 1) := by decide +kernel
theorem dX5_init_0 : decode cX5_init 0 = .ok (.aload_n 0, 1) := by decide +kernel
theorem dX5_init_1 : decode cX5_init 1 = .ok (.invokespecial 3, 3) := by decide +kernel
theorem dX5_init_4 : decode cX5_init 4 = .ok (.aload_n 0, 1) := by decide +kernel
theorem dX5_init_5 : decode cX5_init 5 = .ok (.bipush 48, 2) := by decide +kernel
theorem dX5_init_7 : decode cX5_init 7 = .ok (.newarray .int, 2) := by decide +kernel
theorem dX5_init_9 : decode cX5_init 9 = .ok (.putfield 9, 3) := by decide +kernel
theorem dX5_init_12 : decode cX5_init 12 = .ok (.return_, 1) := by decide +kernel
theorem dX5_add_0 : decode cX5_add 0 = .ok (.aload_n 0, 1) := by decide +kernel
theorem dX5_add_1 : decode cX5_add 1 = .ok (.getfield 15, 3) := by decide +kernel
theorem dX5_add_4 : decode cX5_add 4 = .ok (.bipush 48, 2) := by decide +kernel
theorem dX5_add_6 : decode cX5_add 6 = .ok (.if_icmp .lt 6, 3) := by decide +kernel
theorem dX5_add_9 : decode cX5_add 9 = .ok (.bipush (-4), 2) := by decide +kernel
theorem dX5_add_11 : decode cX5_add 11 = .ok (.ireturn, 1) := by decide +kernel
theorem dX5_add_12 : decode cX5_add 12 = .ok (.aload_n 0, 1) := by decide +kernel
theorem dX5_add_13 : decode cX5_add 13 = .ok (.getfield 9, 3) := by decide +kernel
theorem dX5_add_16 : decode cX5_add 16 = .ok (.aload_n 0, 1) := by decide +kernel
theorem dX5_add_17 : decode cX5_add 17 = .ok (.getfield 15, 3) := by decide +kernel
theorem dX5_add_20 : decode cX5_add 20 = .ok (.iload_n 1, 1) := by decide +kernel
theorem dX5_add_21 : decode cX5_add 21 = .ok (.iastore, 1) := by decide +kernel
theorem dX5_add_22 : decode cX5_add 22 = .ok (.aload_n 0, 1) := by decide +kernel
theorem dX5_add_23 : decode cX5_add 23 = .ok (.dup, 1) := by decide +kernel
theorem dX5_add_24 : decode cX5_add 24 = .ok (.getfield 15, 3) := by decide +kernel
theorem dX5_add_27 : decode cX5_add 27 = .ok (.iconst 1, 1) := by decide +kernel
theorem dX5_add_28 : decode cX5_add 28 = .ok (.iadd, 1) := by decide +kernel
theorem dX5_add_29 : decode cX5_add 29 = .ok (.putfield 15, 3) := by decide +kernel
theorem dX5_add_32 : decode cX5_add 32 = .ok (.aload_n 0, 1) := by decide +kernel
theorem dX5_add_33 : decode cX5_add 33 = .ok (.getfield 15, 3) := by decide +kernel
theorem dX5_add_36 : decode cX5_add 36 = .ok (.ireturn, 1) := by decide +kernel
theorem dX5_clear_0 : decode cX5_clear 0 = .ok (.aload_n 0, 1) := by decide +kernel
theorem dX5_clear_1 : decode cX5_clear 1 = .ok (.getfield 15, 3) := by decide +kernel
theorem dX5_clear_4 : decode cX5_clear 4 = .ok (.istore_n 1, 1) := by decide +kernel
theorem dX5_clear_5 : decode cX5_clear 5 = .ok (.aload_n 0, 1) := by decide +kernel
theorem dX5_clear_6 : decode cX5_clear 6 = .ok (.iconst 0, 1) := by decide +kernel
theorem dX5_clear_7 : decode cX5_clear 7 = .ok (.putfield 15, 3) := by decide +kernel
theorem dX5_clear_10 : decode cX5_clear 10 = .ok (.iload_n 1, 1) := by decide +kernel
theorem dX5_clear_11 : decode cX5_clear 11 = .ok (.ireturn, 1) := by decide +kernel
theorem dX5_firstFault_0 : decode cX5_firstFault 0 = .ok (.iconst 0, 1) := by decide +kernel
theorem dX5_firstFault_1 : decode cX5_firstFault 1 = .ok (.istore_n 1, 1) := by decide +kernel
theorem dX5_firstFault_2 : decode cX5_firstFault 2 = .ok (.iconst 0, 1) := by decide +kernel
theorem dX5_firstFault_3 : decode cX5_firstFault 3 = .ok (.istore_n 2, 1) := by decide +kernel
theorem dX5_firstFault_4 : decode cX5_firstFault 4 = .ok (.iconst 0, 1) := by decide +kernel
theorem dX5_firstFault_5 : decode cX5_firstFault 5 = .ok (.istore_n 3, 1) := by decide +kernel
theorem dX5_firstFault_6 : decode cX5_firstFault 6 = .ok (.iload_n 3, 1) := by decide +kernel
theorem dX5_firstFault_7 : decode cX5_firstFault 7 = .ok (.aload_n 0, 1) := by decide +kernel
theorem dX5_firstFault_8 : decode cX5_firstFault 8 = .ok (.getfield 15, 3) := by decide +kernel
theorem dX5_firstFault_11 : decode cX5_firstFault 11 = .ok (.if_icmp .ge 36, 3) := by decide +kernel
theorem dX5_firstFault_14 : decode cX5_firstFault 14 = .ok (.iload_n 1, 1) := by decide +kernel
theorem dX5_firstFault_15 : decode cX5_firstFault 15 = .ok (.aload_n 0, 1) := by decide +kernel
theorem dX5_firstFault_16 : decode cX5_firstFault 16 = .ok (.getfield 9, 3) := by decide +kernel
theorem dX5_firstFault_19 : decode cX5_firstFault 19 = .ok (.iload_n 3, 1) := by decide +kernel
theorem dX5_firstFault_20 : decode cX5_firstFault 20 = .ok (.iaload, 1) := by decide +kernel
theorem dX5_firstFault_21 : decode cX5_firstFault 21 = .ok (.iload_n 2, 1) := by decide +kernel
theorem dX5_firstFault_22 : decode cX5_firstFault 22 = .ok (.invokestatic 19, 3) := by decide +kernel
theorem dX5_firstFault_25 : decode cX5_firstFault 25 = .ok (.istore_n 1, 1) := by decide +kernel
theorem dX5_firstFault_26 : decode cX5_firstFault 26 = .ok (.iload_n 1, 1) := by decide +kernel
theorem dX5_firstFault_27 : decode cX5_firstFault 27 = .ok (.iconst (-1), 1) := by decide +kernel
theorem dX5_firstFault_28 : decode cX5_firstFault 28 = .ok (.if_icmp .ne 5, 3) := by decide +kernel
theorem dX5_firstFault_31 : decode cX5_firstFault 31 = .ok (.iload_n 3, 1) := by decide +kernel
theorem dX5_firstFault_32 : decode cX5_firstFault 32 = .ok (.ireturn, 1) := by decide +kernel
theorem dX5_firstFault_33 : decode cX5_firstFault 33 = .ok (.iload_n 1, 1) := by decide +kernel
theorem dX5_firstFault_34 : decode cX5_firstFault 34 = .ok (.iconst 1, 1) := by decide +kernel
theorem dX5_firstFault_35 : decode cX5_firstFault 35 = .ok (.if_icmp .ne 6, 3) := by decide +kernel
theorem dX5_firstFault_38 : decode cX5_firstFault 38 = .ok (.iinc 2 1, 3) := by decide +kernel
theorem dX5_firstFault_41 : decode cX5_firstFault 41 = .ok (.iinc 3 1, 3) := by decide +kernel
theorem dX5_firstFault_44 : decode cX5_firstFault 44 = .ok (.goto (-38), 3) := by decide +kernel
theorem dX5_firstFault_47 : decode cX5_firstFault 47 = .ok (.iload_n 1, 1) := by decide +kernel
theorem dX5_firstFault_48 : decode cX5_firstFault 48 = .ok (.iconst 3, 1) := by decide +kernel
theorem dX5_firstFault_49 : decode cX5_firstFault 49 = .ok (.if_icmp .eq 8, 3) := by decide +kernel
theorem dX5_firstFault_52 : decode cX5_firstFault 52 = .ok (.iload_n 1, 1) := by decide +kernel
theorem dX5_firstFault_53 : decode cX5_firstFault 53 = .ok (.iconst 4, 1) := by decide +kernel
theorem dX5_firstFault_54 : decode cX5_firstFault 54 = .ok (.if_icmp .le 8, 3) := by decide +kernel
theorem dX5_firstFault_57 : decode cX5_firstFault 57 = .ok (.bipush (-9), 2) := by decide +kernel
theorem dX5_firstFault_59 : decode cX5_firstFault 59 = .ok (.goto 7, 3) := by decide +kernel
theorem dX5_firstFault_62 : decode cX5_firstFault 62 = .ok (.aload_n 0, 1) := by decide +kernel
theorem dX5_firstFault_63 : decode cX5_firstFault 63 = .ok (.getfield 15, 3) := by decide +kernel
theorem dX5_firstFault_66 : decode cX5_firstFault 66 = .ok (.ireturn, 1) := by decide +kernel
theorem dX5_stateAfter_0 : decode cX5_stateAfter 0 = .ok (.iload_n 0, 1) := by decide +kernel
theorem dX5_stateAfter_1 : decode cX5_stateAfter 1 = .ok (.ifCond .ne 15, 3) := by decide +kernel
theorem dX5_stateAfter_4 : decode cX5_stateAfter 4 = .ok (.iload_n 1, 1) := by decide +kernel
theorem dX5_stateAfter_5 : decode cX5_stateAfter 5 = .ok (.bipush 84, 2) := by decide +kernel
theorem dX5_stateAfter_7 : decode cX5_stateAfter 7 = .ok (.if_icmp .ne 7, 3) := by decide +kernel
theorem dX5_stateAfter_10 : decode cX5_stateAfter 10 = .ok (.iconst 3, 1) := by decide +kernel
theorem dX5_stateAfter_11 : decode cX5_stateAfter 11 = .ok (.goto 4, 3) := by decide +kernel
theorem dX5_stateAfter_14 : decode cX5_stateAfter 14 = .ok (.iconst (-1), 1) := by decide +kernel
theorem dX5_stateAfter_15 : decode cX5_stateAfter 15 = .ok (.ireturn, 1) := by decide +kernel
theorem dX5_stateAfter_16 : decode cX5_stateAfter 16 = .ok (.iload_n 0, 1) := by decide +kernel
theorem dX5_stateAfter_17 : decode cX5_stateAfter 17 = .ok (.iconst 1, 1) := by decide +kernel
theorem dX5_stateAfter_18 : decode cX5_stateAfter 18 = .ok (.if_icmp .ne 17, 3) := by decide +kernel
theorem dX5_stateAfter_21 : decode cX5_stateAfter 21 = .ok (.iload_n 1, 1) := by decide +kernel
theorem dX5_stateAfter_22 : decode cX5_stateAfter 22 = .ok (.iconst 4, 1) := by decide +kernel
theorem dX5_stateAfter_23 : decode cX5_stateAfter 23 = .ok (.invokestatic 23, 3) := by decide +kernel
theorem dX5_stateAfter_26 : decode cX5_stateAfter 26 = .ok (.ifCond .eq 7, 3) := by decide +kernel
theorem dX5_stateAfter_29 : decode cX5_stateAfter 29 = .ok (.iconst 2, 1) := by decide +kernel
theorem dX5_stateAfter_30 : decode cX5_stateAfter 30 = .ok (.goto 4, 3) := by decide +kernel
theorem dX5_stateAfter_33 : decode cX5_stateAfter 33 = .ok (.iconst (-1), 1) := by decide +kernel
theorem dX5_stateAfter_34 : decode cX5_stateAfter 34 = .ok (.ireturn, 1) := by decide +kernel
theorem dX5_stateAfter_35 : decode cX5_stateAfter 35 = .ok (.iload_n 0, 1) := by decide +kernel
theorem dX5_stateAfter_36 : decode cX5_stateAfter 36 = .ok (.iconst 2, 1) := by decide +kernel
theorem dX5_stateAfter_37 : decode cX5_stateAfter 37 = .ok (.if_icmp .ne 17, 3) := by decide +kernel
theorem dX5_stateAfter_40 : decode cX5_stateAfter 40 = .ok (.iload_n 1, 1) := by decide +kernel
theorem dX5_stateAfter_41 : decode cX5_stateAfter 41 = .ok (.iconst 4, 1) := by decide +kernel
theorem dX5_stateAfter_42 : decode cX5_stateAfter 42 = .ok (.invokestatic 23, 3) := by decide +kernel
theorem dX5_stateAfter_45 : decode cX5_stateAfter 45 = .ok (.ifCond .eq 7, 3) := by decide +kernel
theorem dX5_stateAfter_48 : decode cX5_stateAfter 48 = .ok (.iconst 4, 1) := by decide +kernel
theorem dX5_stateAfter_49 : decode cX5_stateAfter 49 = .ok (.goto 4, 3) := by decide +kernel
theorem dX5_stateAfter_52 : decode cX5_stateAfter 52 = .ok (.iconst (-1), 1) := by decide +kernel
theorem dX5_stateAfter_53 : decode cX5_stateAfter 53 = .ok (.ireturn, 1) := by decide +kernel
theorem dX5_stateAfter_54 : decode cX5_stateAfter 54 = .ok (.iload_n 0, 1) := by decide +kernel
theorem dX5_stateAfter_55 : decode cX5_stateAfter 55 = .ok (.iconst 4, 1) := by decide +kernel
theorem dX5_stateAfter_56 : decode cX5_stateAfter 56 = .ok (.if_icmp .lt 20, 3) := by decide +kernel
theorem dX5_stateAfter_59 : decode cX5_stateAfter 59 = .ok (.iload_n 0, 1) := by decide +kernel
theorem dX5_stateAfter_60 : decode cX5_stateAfter 60 = .ok (.bipush 10, 2) := by decide +kernel
theorem dX5_stateAfter_62 : decode cX5_stateAfter 62 = .ok (.if_icmp .ge 14, 3) := by decide +kernel
theorem dX5_stateAfter_65 : decode cX5_stateAfter 65 = .ok (.iload_n 1, 1) := by decide +kernel
theorem dX5_stateAfter_66 : decode cX5_stateAfter 66 = .ok (.invokestatic 27, 3) := by decide +kernel
theorem dX5_stateAfter_69 : decode cX5_stateAfter 69 = .ok (.ifCond .eq 7, 3) := by decide +kernel
theorem dX5_stateAfter_72 : decode cX5_stateAfter 72 = .ok (.iload_n 0, 1) := by decide +kernel
theorem dX5_stateAfter_73 : decode cX5_stateAfter 73 = .ok (.iconst 1, 1) := by decide +kernel
theorem dX5_stateAfter_74 : decode cX5_stateAfter 74 = .ok (.iadd, 1) := by decide +kernel
theorem dX5_stateAfter_75 : decode cX5_stateAfter 75 = .ok (.ireturn, 1) := by decide +kernel
theorem dX5_stateAfter_76 : decode cX5_stateAfter 76 = .ok (.iload_n 1, 1) := by decide +kernel
theorem dX5_stateAfter_77 : decode cX5_stateAfter 77 = .ok (.bipush 83, 2) := by decide +kernel
theorem dX5_stateAfter_79 : decode cX5_stateAfter 79 = .ok (.if_icmp .ne 17, 3) := by decide +kernel
theorem dX5_stateAfter_82 : decode cX5_stateAfter 82 = .ok (.iload_n 0, 1) := by decide +kernel
theorem dX5_stateAfter_83 : decode cX5_stateAfter 83 = .ok (.iconst 4, 1) := by decide +kernel
theorem dX5_stateAfter_84 : decode cX5_stateAfter 84 = .ok (.if_icmp .eq 12, 3) := by decide +kernel
theorem dX5_stateAfter_87 : decode cX5_stateAfter 87 = .ok (.iload_n 2, 1) := by decide +kernel
theorem dX5_stateAfter_88 : decode cX5_stateAfter 88 = .ok (.iconst 4, 1) := by decide +kernel
theorem dX5_stateAfter_89 : decode cX5_stateAfter 89 = .ok (.if_icmp .ge 7, 3) := by decide +kernel
theorem dX5_stateAfter_92 : decode cX5_stateAfter 92 = .ok (.iconst 1, 1) := by decide +kernel
theorem dX5_stateAfter_93 : decode cX5_stateAfter 93 = .ok (.goto 4, 3) := by decide +kernel
theorem dX5_stateAfter_96 : decode cX5_stateAfter 96 = .ok (.iconst (-1), 1) := by decide +kernel
theorem dX5_stateAfter_97 : decode cX5_stateAfter 97 = .ok (.ireturn, 1) := by decide +kernel
theorem dX5_isFigure_0 : decode cX5_isFigure 0 = .ok (.iload_n 0, 1) := by decide +kernel
theorem dX5_isFigure_1 : decode cX5_isFigure 1 = .ok (.bipush 48, 2) := by decide +kernel
theorem dX5_isFigure_3 : decode cX5_isFigure 3 = .ok (.if_icmp .lt 15, 3) := by decide +kernel
theorem dX5_isFigure_6 : decode cX5_isFigure 6 = .ok (.iload_n 0, 1) := by decide +kernel
theorem dX5_isFigure_7 : decode cX5_isFigure 7 = .ok (.bipush 48, 2) := by decide +kernel
theorem dX5_isFigure_9 : decode cX5_isFigure 9 = .ok (.iload_n 1, 1) := by decide +kernel
theorem dX5_isFigure_10 : decode cX5_isFigure 10 = .ok (.iadd, 1) := by decide +kernel
theorem dX5_isFigure_11 : decode cX5_isFigure 11 = .ok (.if_icmp .ge 7, 3) := by decide +kernel
theorem dX5_isFigure_14 : decode cX5_isFigure 14 = .ok (.iconst 1, 1) := by decide +kernel
theorem dX5_isFigure_15 : decode cX5_isFigure 15 = .ok (.goto 4, 3) := by decide +kernel
theorem dX5_isFigure_18 : decode cX5_isFigure 18 = .ok (.iconst 0, 1) := by decide +kernel
theorem dX5_isFigure_19 : decode cX5_isFigure 19 = .ok (.ireturn, 1) := by decide +kernel
theorem dX5_isBend_0 : decode cX5_isBend 0 = .ok (.iload_n 0, 1) := by decide +kernel
theorem dX5_isBend_1 : decode cX5_isBend 1 = .ok (.bipush 97, 2) := by decide +kernel
theorem dX5_isBend_3 : decode cX5_isBend 3 = .ok (.if_icmp .lt 13, 3) := by decide +kernel
theorem dX5_isBend_6 : decode cX5_isBend 6 = .ok (.iload_n 0, 1) := by decide +kernel
theorem dX5_isBend_7 : decode cX5_isBend 7 = .ok (.bipush 101, 2) := by decide +kernel
theorem dX5_isBend_9 : decode cX5_isBend 9 = .ok (.if_icmp .ge 7, 3) := by decide +kernel
theorem dX5_isBend_12 : decode cX5_isBend 12 = .ok (.iconst 1, 1) := by decide +kernel
theorem dX5_isBend_13 : decode cX5_isBend 13 = .ok (.goto 4, 3) := by decide +kernel
theorem dX5_isBend_16 : decode cX5_isBend 16 = .ok (.iconst 0, 1) := by decide +kernel
theorem dX5_isBend_17 : decode cX5_isBend 17 = .ok (.ireturn, 1) := by decide +kernel
theorem dX5_tellTo_0 : decode cX5_tellTo 0 = .ok (.aload_n 1, 1) := by decide +kernel
theorem dX5_tellTo_1 : decode cX5_tellTo 1 = .ok (.invokevirtual 31, 3) := by decide +kernel
theorem dX5_tellTo_4 : decode cX5_tellTo 4 = .ok (.iconst 1, 1) := by decide +kernel
theorem dX5_tellTo_5 : decode cX5_tellTo 5 = .ok (.istore_n 2, 1) := by decide +kernel
theorem dX5_tellTo_6 : decode cX5_tellTo 6 = .ok (.iload_n 2, 1) := by decide +kernel
theorem dX5_tellTo_7 : decode cX5_tellTo 7 = .ok (.aload_n 0, 1) := by decide +kernel
theorem dX5_tellTo_8 : decode cX5_tellTo 8 = .ok (.getfield 15, 3) := by decide +kernel
theorem dX5_tellTo_11 : decode cX5_tellTo 11 = .ok (.if_icmp .ge 86, 3) := by decide +kernel
theorem dX5_tellTo_14 : decode cX5_tellTo 14 = .ok (.aload_n 0, 1) := by decide +kernel
theorem dX5_tellTo_15 : decode cX5_tellTo 15 = .ok (.getfield 9, 3) := by decide +kernel
theorem dX5_tellTo_18 : decode cX5_tellTo 18 = .ok (.iload_n 2, 1) := by decide +kernel
theorem dX5_tellTo_19 : decode cX5_tellTo 19 = .ok (.iaload, 1) := by decide +kernel
theorem dX5_tellTo_20 : decode cX5_tellTo 20 = .ok (.invokestatic 27, 3) := by decide +kernel
theorem dX5_tellTo_23 : decode cX5_tellTo 23 = .ok (.ifCond .eq 21, 3) := by decide +kernel
theorem dX5_tellTo_26 : decode cX5_tellTo 26 = .ok (.aload_n 1, 1) := by decide +kernel
theorem dX5_tellTo_27 : decode cX5_tellTo 27 = .ok (.aload_n 0, 1) := by decide +kernel
theorem dX5_tellTo_28 : decode cX5_tellTo 28 = .ok (.getfield 9, 3) := by decide +kernel
theorem dX5_tellTo_31 : decode cX5_tellTo 31 = .ok (.iload_n 2, 1) := by decide +kernel
theorem dX5_tellTo_32 : decode cX5_tellTo 32 = .ok (.iaload, 1) := by decide +kernel
theorem dX5_tellTo_33 : decode cX5_tellTo 33 = .ok (.bipush 97, 2) := by decide +kernel
theorem dX5_tellTo_35 : decode cX5_tellTo 35 = .ok (.isub, 1) := by decide +kernel
theorem dX5_tellTo_36 : decode cX5_tellTo 36 = .ok (.iconst 1, 1) := by decide +kernel
theorem dX5_tellTo_37 : decode cX5_tellTo 37 = .ok (.iadd, 1) := by decide +kernel
theorem dX5_tellTo_38 : decode cX5_tellTo 38 = .ok (.invokevirtual 36, 3) := by decide +kernel
theorem dX5_tellTo_41 : decode cX5_tellTo 41 = .ok (.goto 50, 3) := by decide +kernel
theorem dX5_tellTo_44 : decode cX5_tellTo 44 = .ok (.aload_n 0, 1) := by decide +kernel
theorem dX5_tellTo_45 : decode cX5_tellTo 45 = .ok (.getfield 9, 3) := by decide +kernel
theorem dX5_tellTo_48 : decode cX5_tellTo 48 = .ok (.iload_n 2, 1) := by decide +kernel
theorem dX5_tellTo_49 : decode cX5_tellTo 49 = .ok (.iaload, 1) := by decide +kernel
theorem dX5_tellTo_50 : decode cX5_tellTo 50 = .ok (.bipush 83, 2) := by decide +kernel
theorem dX5_tellTo_52 : decode cX5_tellTo 52 = .ok (.if_icmp .ne 39, 3) := by decide +kernel
theorem dX5_tellTo_55 : decode cX5_tellTo 55 = .ok (.iload_n 2, 1) := by decide +kernel
theorem dX5_tellTo_56 : decode cX5_tellTo 56 = .ok (.iconst 2, 1) := by decide +kernel
theorem dX5_tellTo_57 : decode cX5_tellTo 57 = .ok (.iadd, 1) := by decide +kernel
theorem dX5_tellTo_58 : decode cX5_tellTo 58 = .ok (.aload_n 0, 1) := by decide +kernel
theorem dX5_tellTo_59 : decode cX5_tellTo 59 = .ok (.getfield 15, 3) := by decide +kernel
theorem dX5_tellTo_62 : decode cX5_tellTo 62 = .ok (.if_icmp .ge 29, 3) := by decide +kernel
theorem dX5_tellTo_65 : decode cX5_tellTo 65 = .ok (.aload_n 1, 1) := by decide +kernel
theorem dX5_tellTo_66 : decode cX5_tellTo 66 = .ok (.aload_n 0, 1) := by decide +kernel
theorem dX5_tellTo_67 : decode cX5_tellTo 67 = .ok (.getfield 9, 3) := by decide +kernel
theorem dX5_tellTo_70 : decode cX5_tellTo 70 = .ok (.iload_n 2, 1) := by decide +kernel
theorem dX5_tellTo_71 : decode cX5_tellTo 71 = .ok (.iconst 1, 1) := by decide +kernel
theorem dX5_tellTo_72 : decode cX5_tellTo 72 = .ok (.iadd, 1) := by decide +kernel
theorem dX5_tellTo_73 : decode cX5_tellTo 73 = .ok (.iaload, 1) := by decide +kernel
theorem dX5_tellTo_74 : decode cX5_tellTo 74 = .ok (.bipush 48, 2) := by decide +kernel
theorem dX5_tellTo_76 : decode cX5_tellTo 76 = .ok (.isub, 1) := by decide +kernel
theorem dX5_tellTo_77 : decode cX5_tellTo 77 = .ok (.aload_n 0, 1) := by decide +kernel
theorem dX5_tellTo_78 : decode cX5_tellTo 78 = .ok (.getfield 9, 3) := by decide +kernel
theorem dX5_tellTo_81 : decode cX5_tellTo 81 = .ok (.iload_n 2, 1) := by decide +kernel
theorem dX5_tellTo_82 : decode cX5_tellTo 82 = .ok (.iconst 2, 1) := by decide +kernel
theorem dX5_tellTo_83 : decode cX5_tellTo 83 = .ok (.iadd, 1) := by decide +kernel
theorem dX5_tellTo_84 : decode cX5_tellTo 84 = .ok (.iaload, 1) := by decide +kernel
theorem dX5_tellTo_85 : decode cX5_tellTo 85 = .ok (.bipush 48, 2) := by decide +kernel
theorem dX5_tellTo_87 : decode cX5_tellTo 87 = .ok (.isub, 1) := by decide +kernel
theorem dX5_tellTo_88 : decode cX5_tellTo 88 = .ok (.invokevirtual 40, 3) := by decide +kernel
theorem dX5_tellTo_91 : decode cX5_tellTo 91 = .ok (.iinc 2 1, 3) := by decide +kernel
theorem dX5_tellTo_94 : decode cX5_tellTo 94 = .ok (.goto (-88), 3) := by decide +kernel
theorem dX5_tellTo_97 : decode cX5_tellTo 97 = .ok (.return_, 1) := by decide +kernel
theorem dX6_init_0 : decode cX6_init 0 = .ok (.aload_n 0, 1) := by decide +kernel
theorem dX6_init_1 : decode cX6_init 1 = .ok (.invokespecial 3, 3) := by decide +kernel
theorem dX6_init_4 : decode cX6_init 4 = .ok (.aload_n 0, 1) := by decide +kernel
theorem dX6_init_5 : decode cX6_init 5 = .ok (.iconst 4, 1) := by decide +kernel
theorem dX6_init_6 : decode cX6_init 6 = .ok (.anewarray 9, 3) := by decide +kernel
theorem dX6_init_9 : decode cX6_init 9 = .ok (.putfield 11, 3) := by decide +kernel
theorem dX6_init_12 : decode cX6_init 12 = .ok (.iconst 0, 1) := by decide +kernel
theorem dX6_init_13 : decode cX6_init 13 = .ok (.istore_n 1, 1) := by decide +kernel
theorem dX6_init_14 : decode cX6_init 14 = .ok (.iload_n 1, 1) := by decide +kernel
theorem dX6_init_15 : decode cX6_init 15 = .ok (.iconst 4, 1) := by decide +kernel
theorem dX6_init_16 : decode cX6_init 16 = .ok (.if_icmp .ge 22, 3) := by decide +kernel
theorem dX6_init_19 : decode cX6_init 19 = .ok (.aload_n 0, 1) := by decide +kernel
theorem dX6_init_20 : decode cX6_init 20 = .ok (.getfield 11, 3) := by decide +kernel
theorem dX6_init_23 : decode cX6_init 23 = .ok (.iload_n 1, 1) := by decide +kernel
theorem dX6_init_24 : decode cX6_init 24 = .ok (.new 9, 3) := by decide +kernel
theorem dX6_init_27 : decode cX6_init 27 = .ok (.dup, 1) := by decide +kernel
theorem dX6_init_28 : decode cX6_init 28 = .ok (.invokespecial 17, 3) := by decide +kernel
theorem dX6_init_31 : decode cX6_init 31 = .ok (.aastore, 1) := by decide +kernel
theorem dX6_init_32 : decode cX6_init 32 = .ok (.iinc 1 1, 3) := by decide +kernel
theorem dX6_init_35 : decode cX6_init 35 = .ok (.goto (-21), 3) := by decide +kernel
theorem dX6_init_38 : decode cX6_init 38 = .ok (.return_, 1) := by decide +kernel
theorem dX6_clear_0 : decode cX6_clear 0 = .ok (.aload_n 0, 1) := by decide +kernel
theorem dX6_clear_1 : decode cX6_clear 1 = .ok (.iconst 0, 1) := by decide +kernel
theorem dX6_clear_2 : decode cX6_clear 2 = .ok (.putfield 18, 3) := by decide +kernel
theorem dX6_clear_5 : decode cX6_clear 5 = .ok (.aload_n 0, 1) := by decide +kernel
theorem dX6_clear_6 : decode cX6_clear 6 = .ok (.iconst 0, 1) := by decide +kernel
theorem dX6_clear_7 : decode cX6_clear 7 = .ok (.putfield 22, 3) := by decide +kernel
theorem dX6_clear_10 : decode cX6_clear 10 = .ok (.return_, 1) := by decide +kernel
theorem dX6_setTo_0 : decode cX6_setTo 0 = .ok (.aload_n 0, 1) := by decide +kernel
theorem dX6_setTo_1 : decode cX6_setTo 1 = .ok (.aload_n 1, 1) := by decide +kernel
theorem dX6_setTo_2 : decode cX6_setTo 2 = .ok (.getfield 18, 3) := by decide +kernel
theorem dX6_setTo_5 : decode cX6_setTo 5 = .ok (.putfield 18, 3) := by decide +kernel
theorem dX6_setTo_8 : decode cX6_setTo 8 = .ok (.aload_n 0, 1) := by decide +kernel
theorem dX6_setTo_9 : decode cX6_setTo 9 = .ok (.aload_n 1, 1) := by decide +kernel
theorem dX6_setTo_10 : decode cX6_setTo 10 = .ok (.getfield 22, 3) := by decide +kernel
theorem dX6_setTo_13 : decode cX6_setTo 13 = .ok (.putfield 22, 3) := by decide +kernel
theorem dX6_setTo_16 : decode cX6_setTo 16 = .ok (.iconst 0, 1) := by decide +kernel
theorem dX6_setTo_17 : decode cX6_setTo 17 = .ok (.istore_n 2, 1) := by decide +kernel
theorem dX6_setTo_18 : decode cX6_setTo 18 = .ok (.iload_n 2, 1) := by decide +kernel
theorem dX6_setTo_19 : decode cX6_setTo 19 = .ok (.aload_n 0, 1) := by decide +kernel
theorem dX6_setTo_20 : decode cX6_setTo 20 = .ok (.getfield 18, 3) := by decide +kernel
theorem dX6_setTo_23 : decode cX6_setTo 23 = .ok (.if_icmp .ge 24, 3) := by decide +kernel
theorem dX6_setTo_26 : decode cX6_setTo 26 = .ok (.aload_n 0, 1) := by decide +kernel
theorem dX6_setTo_27 : decode cX6_setTo 27 = .ok (.getfield 11, 3) := by decide +kernel
theorem dX6_setTo_30 : decode cX6_setTo 30 = .ok (.iload_n 2, 1) := by decide +kernel
theorem dX6_setTo_31 : decode cX6_setTo 31 = .ok (.aaload, 1) := by decide +kernel
theorem dX6_setTo_32 : decode cX6_setTo 32 = .ok (.aload_n 1, 1) := by decide +kernel
theorem dX6_setTo_33 : decode cX6_setTo 33 = .ok (.getfield 11, 3) := by decide +kernel
theorem dX6_setTo_36 : decode cX6_setTo 36 = .ok (.iload_n 2, 1) := by decide +kernel
theorem dX6_setTo_37 : decode cX6_setTo 37 = .ok (.aaload, 1) := by decide +kernel
theorem dX6_setTo_38 : decode cX6_setTo 38 = .ok (.invokevirtual 25, 3) := by decide +kernel
theorem dX6_setTo_41 : decode cX6_setTo 41 = .ok (.iinc 2 1, 3) := by decide +kernel
theorem dX6_setTo_44 : decode cX6_setTo 44 = .ok (.goto (-26), 3) := by decide +kernel
theorem dX6_setTo_47 : decode cX6_setTo 47 = .ok (.return_, 1) := by decide +kernel
theorem dX6_begin_0 : decode cX6_begin 0 = .ok (.aload_n 0, 1) := by decide +kernel
theorem dX6_begin_1 : decode cX6_begin 1 = .ok (.getfield 18, 3) := by decide +kernel
theorem dX6_begin_4 : decode cX6_begin 4 = .ok (.iconst 4, 1) := by decide +kernel
theorem dX6_begin_5 : decode cX6_begin 5 = .ok (.if_icmp .ge 54, 3) := by decide +kernel
theorem dX6_begin_8 : decode cX6_begin 8 = .ok (.aload_n 0, 1) := by decide +kernel
theorem dX6_begin_9 : decode cX6_begin 9 = .ok (.getfield 11, 3) := by decide +kernel
theorem dX6_begin_12 : decode cX6_begin 12 = .ok (.aload_n 0, 1) := by decide +kernel
theorem dX6_begin_13 : decode cX6_begin 13 = .ok (.getfield 18, 3) := by decide +kernel
theorem dX6_begin_16 : decode cX6_begin 16 = .ok (.aaload, 1) := by decide +kernel
theorem dX6_begin_17 : decode cX6_begin 17 = .ok (.iload_n 1, 1) := by decide +kernel
theorem dX6_begin_18 : decode cX6_begin 18 = .ok (.putfield 29, 3) := by decide +kernel
theorem dX6_begin_21 : decode cX6_begin 21 = .ok (.aload_n 0, 1) := by decide +kernel
theorem dX6_begin_22 : decode cX6_begin 22 = .ok (.getfield 11, 3) := by decide +kernel
theorem dX6_begin_25 : decode cX6_begin 25 = .ok (.aload_n 0, 1) := by decide +kernel
theorem dX6_begin_26 : decode cX6_begin 26 = .ok (.getfield 18, 3) := by decide +kernel
theorem dX6_begin_29 : decode cX6_begin 29 = .ok (.aaload, 1) := by decide +kernel
theorem dX6_begin_30 : decode cX6_begin 30 = .ok (.iload_n 2, 1) := by decide +kernel
theorem dX6_begin_31 : decode cX6_begin 31 = .ok (.putfield 32, 3) := by decide +kernel
theorem dX6_begin_34 : decode cX6_begin 34 = .ok (.aload_n 0, 1) := by decide +kernel
theorem dX6_begin_35 : decode cX6_begin 35 = .ok (.getfield 11, 3) := by decide +kernel
theorem dX6_begin_38 : decode cX6_begin 38 = .ok (.aload_n 0, 1) := by decide +kernel
theorem dX6_begin_39 : decode cX6_begin 39 = .ok (.getfield 18, 3) := by decide +kernel
theorem dX6_begin_42 : decode cX6_begin 42 = .ok (.aaload, 1) := by decide +kernel
theorem dX6_begin_43 : decode cX6_begin 43 = .ok (.getfield 35, 3) := by decide +kernel
theorem dX6_begin_46 : decode cX6_begin 46 = .ok (.invokevirtual 39, 3) := by decide +kernel
theorem dX6_begin_49 : decode cX6_begin 49 = .ok (.aload_n 0, 1) := by decide +kernel
theorem dX6_begin_50 : decode cX6_begin 50 = .ok (.dup, 1) := by decide +kernel
theorem dX6_begin_51 : decode cX6_begin 51 = .ok (.getfield 18, 3) := by decide +kernel
theorem dX6_begin_54 : decode cX6_begin 54 = .ok (.iconst 1, 1) := by decide +kernel
theorem dX6_begin_55 : decode cX6_begin 55 = .ok (.iadd, 1) := by decide +kernel
theorem dX6_begin_56 : decode cX6_begin 56 = .ok (.putfield 18, 3) := by decide +kernel
theorem dX6_begin_59 : decode cX6_begin 59 = .ok (.return_, 1) := by decide +kernel
theorem dX6_bendLast_0 : decode cX6_bendLast 0 = .ok (.aload_n 0, 1) := by decide +kernel
theorem dX6_bendLast_1 : decode cX6_bendLast 1 = .ok (.getfield 18, 3) := by decide +kernel
theorem dX6_bendLast_4 : decode cX6_bendLast 4 = .ok (.ifCond .le 21, 3) := by decide +kernel
theorem dX6_bendLast_7 : decode cX6_bendLast 7 = .ok (.aload_n 0, 1) := by decide +kernel
theorem dX6_bendLast_8 : decode cX6_bendLast 8 = .ok (.getfield 11, 3) := by decide +kernel
theorem dX6_bendLast_11 : decode cX6_bendLast 11 = .ok (.aload_n 0, 1) := by decide +kernel
theorem dX6_bendLast_12 : decode cX6_bendLast 12 = .ok (.getfield 18, 3) := by decide +kernel
theorem dX6_bendLast_15 : decode cX6_bendLast 15 = .ok (.iconst 1, 1) := by decide +kernel
theorem dX6_bendLast_16 : decode cX6_bendLast 16 = .ok (.isub, 1) := by decide +kernel
theorem dX6_bendLast_17 : decode cX6_bendLast 17 = .ok (.aaload, 1) := by decide +kernel
theorem dX6_bendLast_18 : decode cX6_bendLast 18 = .ok (.getfield 35, 3) := by decide +kernel
theorem dX6_bendLast_21 : decode cX6_bendLast 21 = .ok (.iload_n 1, 1) := by decide +kernel
theorem dX6_bendLast_22 : decode cX6_bendLast 22 = .ok (.invokevirtual 44, 3) := by decide +kernel
theorem dX6_bendLast_25 : decode cX6_bendLast 25 = .ok (.return_, 1) := by decide +kernel
theorem dX6_has_0 : decode cX6_has 0 = .ok (.iload_n 1, 1) := by decide +kernel
theorem dX6_has_1 : decode cX6_has 1 = .ok (.ifCond .lt 30, 3) := by decide +kernel
theorem dX6_has_4 : decode cX6_has 4 = .ok (.iload_n 1, 1) := by decide +kernel
theorem dX6_has_5 : decode cX6_has 5 = .ok (.aload_n 0, 1) := by decide +kernel
theorem dX6_has_6 : decode cX6_has 6 = .ok (.getfield 18, 3) := by decide +kernel
theorem dX6_has_9 : decode cX6_has 9 = .ok (.if_icmp .ge 22, 3) := by decide +kernel
theorem dX6_has_12 : decode cX6_has 12 = .ok (.aload_n 0, 1) := by decide +kernel
theorem dX6_has_13 : decode cX6_has 13 = .ok (.getfield 11, 3) := by decide +kernel
theorem dX6_has_16 : decode cX6_has 16 = .ok (.iload_n 1, 1) := by decide +kernel
theorem dX6_has_17 : decode cX6_has 17 = .ok (.aaload, 1) := by decide +kernel
theorem dX6_has_18 : decode cX6_has 18 = .ok (.getfield 35, 3) := by decide +kernel
theorem dX6_has_21 : decode cX6_has 21 = .ok (.getfield 48, 3) := by decide +kernel
theorem dX6_has_24 : decode cX6_has 24 = .ok (.ifCond .le 7, 3) := by decide +kernel
theorem dX6_has_27 : decode cX6_has 27 = .ok (.iconst 1, 1) := by decide +kernel
theorem dX6_has_28 : decode cX6_has 28 = .ok (.goto 4, 3) := by decide +kernel
theorem dX6_has_31 : decode cX6_has 31 = .ok (.iconst 0, 1) := by decide +kernel
theorem dX6_has_32 : decode cX6_has 32 = .ok (.ireturn, 1) := by decide +kernel
theorem dX6_whoIsThere_0 : decode cX6_whoIsThere 0 = .ok (.iconst 0, 1) := by decide +kernel
theorem dX6_whoIsThere_1 : decode cX6_whoIsThere 1 = .ok (.istore_n 1, 1) := by decide +kernel
theorem dX6_whoIsThere_2 : decode cX6_whoIsThere 2 = .ok (.iconst 0, 1) := by decide +kernel
theorem dX6_whoIsThere_3 : decode cX6_whoIsThere 3 = .ok (.istore_n 2, 1) := by decide +kernel
theorem dX6_whoIsThere_4 : decode cX6_whoIsThere 4 = .ok (.iload_n 2, 1) := by decide +kernel
theorem dX6_whoIsThere_5 : decode cX6_whoIsThere 5 = .ok (.aload_n 0, 1) := by decide +kernel
theorem dX6_whoIsThere_6 : decode cX6_whoIsThere 6 = .ok (.getfield 18, 3) := by decide +kernel
theorem dX6_whoIsThere_9 : decode cX6_whoIsThere 9 = .ok (.if_icmp .ge 27, 3) := by decide +kernel
theorem dX6_whoIsThere_12 : decode cX6_whoIsThere 12 = .ok (.iload_n 1, 1) := by decide +kernel
theorem dX6_whoIsThere_13 : decode cX6_whoIsThere 13 = .ok (.aload_n 0, 1) := by decide +kernel
theorem dX6_whoIsThere_14 : decode cX6_whoIsThere 14 = .ok (.iload_n 2, 1) := by decide +kernel
theorem dX6_whoIsThere_15 : decode cX6_whoIsThere 15 = .ok (.invokevirtual 51, 3) := by decide +kernel
theorem dX6_whoIsThere_18 : decode cX6_whoIsThere 18 = .ok (.ifCond .eq 9, 3) := by decide +kernel
theorem dX6_whoIsThere_21 : decode cX6_whoIsThere 21 = .ok (.iconst 1, 1) := by decide +kernel
theorem dX6_whoIsThere_22 : decode cX6_whoIsThere 22 = .ok (.iload_n 2, 1) := by decide +kernel
theorem dX6_whoIsThere_23 : decode cX6_whoIsThere 23 = .ok (.ishl, 1) := by decide +kernel
theorem dX6_whoIsThere_24 : decode cX6_whoIsThere 24 = .ok (.goto 4, 3) := by decide +kernel
theorem dX6_whoIsThere_27 : decode cX6_whoIsThere 27 = .ok (.iconst 0, 1) := by decide +kernel
theorem dX6_whoIsThere_28 : decode cX6_whoIsThere 28 = .ok (.ior, 1) := by decide +kernel
theorem dX6_whoIsThere_29 : decode cX6_whoIsThere 29 = .ok (.istore_n 1, 1) := by decide +kernel
theorem dX6_whoIsThere_30 : decode cX6_whoIsThere 30 = .ok (.iinc 2 1, 3) := by decide +kernel
theorem dX6_whoIsThere_33 : decode cX6_whoIsThere 33 = .ok (.goto (-29), 3) := by decide +kernel
theorem dX6_whoIsThere_36 : decode cX6_whoIsThere 36 = .ok (.iload_n 1, 1) := by decide +kernel
theorem dX6_whoIsThere_37 : decode cX6_whoIsThere 37 = .ok (.ireturn, 1) := by decide +kernel
theorem dX6_bendsFrom_0 : decode cX6_bendsFrom 0 = .ok (.iconst 0, 1) := by decide +kernel
theorem dX6_bendsFrom_1 : decode cX6_bendsFrom 1 = .ok (.istore_n 2, 1) := by decide +kernel
theorem dX6_bendsFrom_2 : decode cX6_bendsFrom 2 = .ok (.iload_n 1, 1) := by decide +kernel
theorem dX6_bendsFrom_3 : decode cX6_bendsFrom 3 = .ok (.iconst 0, 1) := by decide +kernel
theorem dX6_bendsFrom_4 : decode cX6_bendsFrom 4 = .ok (.invokestatic 55, 3) := by decide +kernel
theorem dX6_bendsFrom_7 : decode cX6_bendsFrom 7 = .ok (.istore_n 3, 1) := by decide +kernel
theorem dX6_bendsFrom_8 : decode cX6_bendsFrom 8 = .ok (.iload_n 3, 1) := by decide +kernel
theorem dX6_bendsFrom_9 : decode cX6_bendsFrom 9 = .ok (.aload_n 0, 1) := by decide +kernel
theorem dX6_bendsFrom_10 : decode cX6_bendsFrom 10 = .ok (.getfield 18, 3) := by decide +kernel
theorem dX6_bendsFrom_13 : decode cX6_bendsFrom 13 = .ok (.if_icmp .ge 24, 3) := by decide +kernel
theorem dX6_bendsFrom_16 : decode cX6_bendsFrom 16 = .ok (.iload_n 2, 1) := by decide +kernel
theorem dX6_bendsFrom_17 : decode cX6_bendsFrom 17 = .ok (.aload_n 0, 1) := by decide +kernel
theorem dX6_bendsFrom_18 : decode cX6_bendsFrom 18 = .ok (.getfield 11, 3) := by decide +kernel
theorem dX6_bendsFrom_21 : decode cX6_bendsFrom 21 = .ok (.iload_n 3, 1) := by decide +kernel
theorem dX6_bendsFrom_22 : decode cX6_bendsFrom 22 = .ok (.aaload, 1) := by decide +kernel
theorem dX6_bendsFrom_23 : decode cX6_bendsFrom 23 = .ok (.getfield 35, 3) := by decide +kernel
theorem dX6_bendsFrom_26 : decode cX6_bendsFrom 26 = .ok (.getfield 48, 3) := by decide +kernel
theorem dX6_bendsFrom_29 : decode cX6_bendsFrom 29 = .ok (.iadd, 1) := by decide +kernel
theorem dX6_bendsFrom_30 : decode cX6_bendsFrom 30 = .ok (.istore_n 2, 1) := by decide +kernel
theorem dX6_bendsFrom_31 : decode cX6_bendsFrom 31 = .ok (.iinc 3 1, 3) := by decide +kernel
theorem dX6_bendsFrom_34 : decode cX6_bendsFrom 34 = .ok (.goto (-26), 3) := by decide +kernel
theorem dX6_bendsFrom_37 : decode cX6_bendsFrom 37 = .ok (.iload_n 2, 1) := by decide +kernel
theorem dX6_bendsFrom_38 : decode cX6_bendsFrom 38 = .ok (.ireturn, 1) := by decide +kernel
theorem dX6_housesInUse_0 : decode cX6_housesInUse 0 = .ok (.iconst 0, 1) := by decide +kernel
theorem dX6_housesInUse_1 : decode cX6_housesInUse 1 = .ok (.istore_n 1, 1) := by decide +kernel
theorem dX6_housesInUse_2 : decode cX6_housesInUse 2 = .ok (.iconst 0, 1) := by decide +kernel
theorem dX6_housesInUse_3 : decode cX6_housesInUse 3 = .ok (.istore_n 2, 1) := by decide +kernel
theorem dX6_housesInUse_4 : decode cX6_housesInUse 4 = .ok (.iload_n 2, 1) := by decide +kernel
theorem dX6_housesInUse_5 : decode cX6_housesInUse 5 = .ok (.aload_n 0, 1) := by decide +kernel
theorem dX6_housesInUse_6 : decode cX6_housesInUse 6 = .ok (.getfield 18, 3) := by decide +kernel
theorem dX6_housesInUse_9 : decode cX6_housesInUse 9 = .ok (.if_icmp .ge 35, 3) := by decide +kernel
theorem dX6_housesInUse_12 : decode cX6_housesInUse 12 = .ok (.iload_n 1, 1) := by decide +kernel
theorem dX6_housesInUse_13 : decode cX6_housesInUse 13 = .ok (.aload_n 0, 1) := by decide +kernel
theorem dX6_housesInUse_14 : decode cX6_housesInUse 14 = .ok (.iload_n 2, 1) := by decide +kernel
theorem dX6_housesInUse_15 : decode cX6_housesInUse 15 = .ok (.invokevirtual 51, 3) := by decide +kernel
theorem dX6_housesInUse_18 : decode cX6_housesInUse 18 = .ok (.ifCond .eq 17, 3) := by decide +kernel
theorem dX6_housesInUse_21 : decode cX6_housesInUse 21 = .ok (.iconst 1, 1) := by decide +kernel
theorem dX6_housesInUse_22 : decode cX6_housesInUse 22 = .ok (.aload_n 0, 1) := by decide +kernel
theorem dX6_housesInUse_23 : decode cX6_housesInUse 23 = .ok (.getfield 11, 3) := by decide +kernel
theorem dX6_housesInUse_26 : decode cX6_housesInUse 26 = .ok (.iload_n 2, 1) := by decide +kernel
theorem dX6_housesInUse_27 : decode cX6_housesInUse 27 = .ok (.aaload, 1) := by decide +kernel
theorem dX6_housesInUse_28 : decode cX6_housesInUse 28 = .ok (.getfield 29, 3) := by decide +kernel
theorem dX6_housesInUse_31 : decode cX6_housesInUse 31 = .ok (.ishl, 1) := by decide +kernel
theorem dX6_housesInUse_32 : decode cX6_housesInUse 32 = .ok (.goto 4, 3) := by decide +kernel
theorem dX6_housesInUse_35 : decode cX6_housesInUse 35 = .ok (.iconst 0, 1) := by decide +kernel
theorem dX6_housesInUse_36 : decode cX6_housesInUse 36 = .ok (.ior, 1) := by decide +kernel
theorem dX6_housesInUse_37 : decode cX6_housesInUse 37 = .ok (.istore_n 1, 1) := by decide +kernel
theorem dX6_housesInUse_38 : decode cX6_housesInUse 38 = .ok (.iinc 2 1, 3) := by decide +kernel
theorem dX6_housesInUse_41 : decode cX6_housesInUse 41 = .ok (.goto (-37), 3) := by decide +kernel
theorem dX6_housesInUse_44 : decode cX6_housesInUse 44 = .ok (.iload_n 1, 1) := by decide +kernel
theorem dX6_housesInUse_45 : decode cX6_housesInUse 45 = .ok (.ireturn, 1) := by decide +kernel
theorem dX6_countIn_0 : decode cX6_countIn 0 = .ok (.iconst 0, 1) := by decide +kernel
theorem dX6_countIn_1 : decode cX6_countIn 1 = .ok (.istore_n 2, 1) := by decide +kernel
theorem dX6_countIn_2 : decode cX6_countIn 2 = .ok (.iconst 0, 1) := by decide +kernel
theorem dX6_countIn_3 : decode cX6_countIn 3 = .ok (.istore_n 3, 1) := by decide +kernel
theorem dX6_countIn_4 : decode cX6_countIn 4 = .ok (.iload_n 3, 1) := by decide +kernel
theorem dX6_countIn_5 : decode cX6_countIn 5 = .ok (.aload_n 0, 1) := by decide +kernel
theorem dX6_countIn_6 : decode cX6_countIn 6 = .ok (.getfield 18, 3) := by decide +kernel
theorem dX6_countIn_9 : decode cX6_countIn 9 = .ok (.if_icmp .ge 33, 3) := by decide +kernel
theorem dX6_countIn_12 : decode cX6_countIn 12 = .ok (.aload_n 0, 1) := by decide +kernel
theorem dX6_countIn_13 : decode cX6_countIn 13 = .ok (.iload_n 3, 1) := by decide +kernel
theorem dX6_countIn_14 : decode cX6_countIn 14 = .ok (.invokevirtual 51, 3) := by decide +kernel
theorem dX6_countIn_17 : decode cX6_countIn 17 = .ok (.ifCond .eq 19, 3) := by decide +kernel
theorem dX6_countIn_20 : decode cX6_countIn 20 = .ok (.aload_n 0, 1) := by decide +kernel
theorem dX6_countIn_21 : decode cX6_countIn 21 = .ok (.getfield 11, 3) := by decide +kernel
theorem dX6_countIn_24 : decode cX6_countIn 24 = .ok (.iload_n 3, 1) := by decide +kernel
theorem dX6_countIn_25 : decode cX6_countIn 25 = .ok (.aaload, 1) := by decide +kernel
theorem dX6_countIn_26 : decode cX6_countIn 26 = .ok (.getfield 29, 3) := by decide +kernel
theorem dX6_countIn_29 : decode cX6_countIn 29 = .ok (.iload_n 1, 1) := by decide +kernel
theorem dX6_countIn_30 : decode cX6_countIn 30 = .ok (.if_icmp .ne 6, 3) := by decide +kernel
theorem dX6_countIn_33 : decode cX6_countIn 33 = .ok (.iinc 2 1, 3) := by decide +kernel
theorem dX6_countIn_36 : decode cX6_countIn 36 = .ok (.iinc 3 1, 3) := by decide +kernel
theorem dX6_countIn_39 : decode cX6_countIn 39 = .ok (.goto (-35), 3) := by decide +kernel
theorem dX6_countIn_42 : decode cX6_countIn 42 = .ok (.iload_n 2, 1) := by decide +kernel
theorem dX6_countIn_43 : decode cX6_countIn 43 = .ok (.ireturn, 1) := by decide +kernel
theorem dX6_passWinter_0 : decode cX6_passWinter 0 = .ok (.aload_n 0, 1) := by decide +kernel
theorem dX6_passWinter_1 : decode cX6_passWinter 1 = .ok (.invokevirtual 61, 3) := by decide +kernel
theorem dX6_passWinter_4 : decode cX6_passWinter 4 = .ok (.invokestatic 65, 3) := by decide +kernel
theorem dX6_passWinter_7 : decode cX6_passWinter 7 = .ok (.istore_n 1, 1) := by decide +kernel
theorem dX6_passWinter_8 : decode cX6_passWinter 8 = .ok (.iconst 0, 1) := by decide +kernel
theorem dX6_passWinter_9 : decode cX6_passWinter 9 = .ok (.istore_n 2, 1) := by decide +kernel
theorem dX6_passWinter_10 : decode cX6_passWinter 10 = .ok (.iload_n 2, 1) := by decide +kernel
theorem dX6_passWinter_11 : decode cX6_passWinter 11 = .ok (.aload_n 0, 1) := by decide +kernel
theorem dX6_passWinter_12 : decode cX6_passWinter 12 = .ok (.getfield 18, 3) := by decide +kernel
theorem dX6_passWinter_15 : decode cX6_passWinter 15 = .ok (.if_icmp .ge 22, 3) := by decide +kernel
theorem dX6_passWinter_18 : decode cX6_passWinter 18 = .ok (.aload_n 0, 1) := by decide +kernel
theorem dX6_passWinter_19 : decode cX6_passWinter 19 = .ok (.iload_n 2, 1) := by decide +kernel
theorem dX6_passWinter_20 : decode cX6_passWinter 20 = .ok (.invokevirtual 51, 3) := by decide +kernel
theorem dX6_passWinter_23 : decode cX6_passWinter 23 = .ok (.ifCond .eq 8, 3) := by decide +kernel
theorem dX6_passWinter_26 : decode cX6_passWinter 26 = .ok (.aload_n 0, 1) := by decide +kernel
theorem dX6_passWinter_27 : decode cX6_passWinter 27 = .ok (.iload_n 2, 1) := by decide +kernel
theorem dX6_passWinter_28 : decode cX6_passWinter 28 = .ok (.invokevirtual 71, 3) := by decide +kernel
theorem dX6_passWinter_31 : decode cX6_passWinter 31 = .ok (.iinc 2 1, 3) := by decide +kernel
theorem dX6_passWinter_34 : decode cX6_passWinter 34 = .ok (.goto (-24), 3) := by decide +kernel
theorem dX6_passWinter_37 : decode cX6_passWinter 37 = .ok (.aload_n 0, 1) := by decide +kernel
theorem dX6_passWinter_38 : decode cX6_passWinter 38 = .ok (.dup, 1) := by decide +kernel
theorem dX6_passWinter_39 : decode cX6_passWinter 39 = .ok (.getfield 22, 3) := by decide +kernel
theorem dX6_passWinter_42 : decode cX6_passWinter 42 = .ok (.iconst 1, 1) := by decide +kernel
theorem dX6_passWinter_43 : decode cX6_passWinter 43 = .ok (.iadd, 1) := by decide +kernel
theorem dX6_passWinter_44 : decode cX6_passWinter 44 = .ok (.putfield 22, 3) := by decide +kernel
theorem dX6_passWinter_47 : decode cX6_passWinter 47 = .ok (.iload_n 1, 1) := by decide +kernel
theorem dX6_passWinter_48 : decode cX6_passWinter 48 = .ok (.aload_n 0, 1) := by decide +kernel
theorem dX6_passWinter_49 : decode cX6_passWinter 49 = .ok (.invokevirtual 61, 3) := by decide +kernel
theorem dX6_passWinter_52 : decode cX6_passWinter 52 = .ok (.invokestatic 65, 3) := by decide +kernel
theorem dX6_passWinter_55 : decode cX6_passWinter 55 = .ok (.isub, 1) := by decide +kernel
theorem dX6_passWinter_56 : decode cX6_passWinter 56 = .ok (.ireturn, 1) := by decide +kernel
theorem dX6_winterOf_0 : decode cX6_winterOf 0 = .ok (.aload_n 0, 1) := by decide +kernel
theorem dX6_winterOf_1 : decode cX6_winterOf 1 = .ok (.getfield 11, 3) := by decide +kernel
theorem dX6_winterOf_4 : decode cX6_winterOf 4 = .ok (.iload_n 1, 1) := by decide +kernel
theorem dX6_winterOf_5 : decode cX6_winterOf 5 = .ok (.aaload, 1) := by decide +kernel
theorem dX6_winterOf_6 : decode cX6_winterOf 6 = .ok (.astore_n 2, 1) := by decide +kernel
theorem dX6_winterOf_7 : decode cX6_winterOf 7 = .ok (.aload_n 2, 1) := by decide +kernel
theorem dX6_winterOf_8 : decode cX6_winterOf 8 = .ok (.getfield 32, 3) := by decide +kernel
theorem dX6_winterOf_11 : decode cX6_winterOf 11 = .ok (.iconst 3, 1) := by decide +kernel
theorem dX6_winterOf_12 : decode cX6_winterOf 12 = .ok (.if_icmp .ne 11, 3) := by decide +kernel
theorem dX6_winterOf_15 : decode cX6_winterOf 15 = .ok (.aload_n 0, 1) := by decide +kernel
theorem dX6_winterOf_16 : decode cX6_winterOf 16 = .ok (.iload_n 1, 1) := by decide +kernel
theorem dX6_winterOf_17 : decode cX6_winterOf 17 = .ok (.invokevirtual 74, 3) := by decide +kernel
theorem dX6_winterOf_20 : decode cX6_winterOf 20 = .ok (.goto 52, 3) := by decide +kernel
theorem dX6_winterOf_23 : decode cX6_winterOf 23 = .ok (.aload_n 2, 1) := by decide +kernel
theorem dX6_winterOf_24 : decode cX6_winterOf 24 = .ok (.getfield 32, 3) := by decide +kernel
theorem dX6_winterOf_27 : decode cX6_winterOf 27 = .ok (.ifCond .eq 11, 3) := by decide +kernel
theorem dX6_winterOf_30 : decode cX6_winterOf 30 = .ok (.aload_n 2, 1) := by decide +kernel
theorem dX6_winterOf_31 : decode cX6_winterOf 31 = .ok (.getfield 32, 3) := by decide +kernel
theorem dX6_winterOf_34 : decode cX6_winterOf 34 = .ok (.iconst 1, 1) := by decide +kernel
theorem dX6_winterOf_35 : decode cX6_winterOf 35 = .ok (.if_icmp .ne 37, 3) := by decide +kernel
theorem dX6_winterOf_38 : decode cX6_winterOf 38 = .ok (.aload_n 0, 1) := by decide +kernel
theorem dX6_winterOf_39 : decode cX6_winterOf 39 = .ok (.aload_n 2, 1) := by decide +kernel
theorem dX6_winterOf_40 : decode cX6_winterOf 40 = .ok (.getfield 29, 3) := by decide +kernel
theorem dX6_winterOf_43 : decode cX6_winterOf 43 = .ok (.invokevirtual 77, 3) := by decide +kernel
theorem dX6_winterOf_46 : decode cX6_winterOf 46 = .ok (.iconst 3, 1) := by decide +kernel
theorem dX6_winterOf_47 : decode cX6_winterOf 47 = .ok (.if_icmp .lt 25, 3) := by decide +kernel
theorem dX6_winterOf_50 : decode cX6_winterOf 50 = .ok (.aload_n 2, 1) := by decide +kernel
theorem dX6_winterOf_51 : decode cX6_winterOf 51 = .ok (.getfield 35, 3) := by decide +kernel
theorem dX6_winterOf_54 : decode cX6_winterOf 54 = .ok (.invokevirtual 80, 3) := by decide +kernel
theorem dX6_winterOf_57 : decode cX6_winterOf 57 = .ok (.aload_n 2, 1) := by decide +kernel
theorem dX6_winterOf_58 : decode cX6_winterOf 58 = .ok (.getfield 32, 3) := by decide +kernel
theorem dX6_winterOf_61 : decode cX6_winterOf 61 = .ok (.iconst 1, 1) := by decide +kernel
theorem dX6_winterOf_62 : decode cX6_winterOf 62 = .ok (.if_icmp .ne 10, 3) := by decide +kernel
theorem dX6_winterOf_65 : decode cX6_winterOf 65 = .ok (.aload_n 2, 1) := by decide +kernel
theorem dX6_winterOf_66 : decode cX6_winterOf 66 = .ok (.getfield 35, 3) := by decide +kernel
theorem dX6_winterOf_69 : decode cX6_winterOf 69 = .ok (.invokevirtual 83, 3) := by decide +kernel
theorem dX6_winterOf_72 : decode cX6_winterOf 72 = .ok (.return_, 1) := by decide +kernel
theorem dX6_floodFrom_0 : decode cX6_floodFrom 0 = .ok (.iconst 0, 1) := by decide +kernel
theorem dX6_floodFrom_1 : decode cX6_floodFrom 1 = .ok (.istore_n 2, 1) := by decide +kernel
theorem dX6_floodFrom_2 : decode cX6_floodFrom 2 = .ok (.iload_n 2, 1) := by decide +kernel
theorem dX6_floodFrom_3 : decode cX6_floodFrom 3 = .ok (.aload_n 0, 1) := by decide +kernel
theorem dX6_floodFrom_4 : decode cX6_floodFrom 4 = .ok (.getfield 18, 3) := by decide +kernel
theorem dX6_floodFrom_7 : decode cX6_floodFrom 7 = .ok (.if_icmp .ge 47, 3) := by decide +kernel
theorem dX6_floodFrom_10 : decode cX6_floodFrom 10 = .ok (.iload_n 2, 1) := by decide +kernel
theorem dX6_floodFrom_11 : decode cX6_floodFrom 11 = .ok (.iload_n 1, 1) := by decide +kernel
theorem dX6_floodFrom_12 : decode cX6_floodFrom 12 = .ok (.if_icmp .eq 36, 3) := by decide +kernel
