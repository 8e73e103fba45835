theorem dX7_share_0 : decode cX7_share 0 = .ok (.aload_n 0, 1) := by decide +kernel
theorem dX7_share_1 : decode cX7_share 1 = .ok (.getfield 19, 3) := by decide +kernel
theorem dX7_share_4 : decode cX7_share 4 = .ok (.iload_n 1, 1) := by decide +kernel
theorem dX7_share_5 : decode cX7_share 5 = .ok (.invokevirtual 109, 3) := by decide +kernel
theorem dX7_share_8 : decode cX7_share 8 = .ok (.ifCond .ne 5, 3) := by decide +kernel
theorem dX7_share_11 : decode cX7_share 11 = .ok (.iconst (-1), 1) := by decide +kernel
theorem dX7_share_12 : decode cX7_share 12 = .ok (.ireturn, 1) := by decide +kernel
theorem dX7_share_13 : decode cX7_share 13 = .ok (.aload_n 0, 1) := by decide +kernel
theorem dX7_share_14 : decode cX7_share 14 = .ok (.invokevirtual 198, 3) := by decide +kernel
theorem dX7_share_17 : decode cX7_share 17 = .ok (.iconst 0, 1) := by decide +kernel
theorem dX7_share_18 : decode cX7_share 18 = .ok (.istore_n 3, 1) := by decide +kernel
theorem dX7_share_19 : decode cX7_share 19 = .ok (.iconst 0, 1) := by decide +kernel
theorem dX7_share_20 : decode cX7_share 20 = .ok (.istore 4, 2) := by decide +kernel
theorem dX7_share_22 : decode cX7_share 22 = .ok (.iload 4, 2) := by decide +kernel
theorem dX7_share_24 : decode cX7_share 24 = .ok (.aload_n 0, 1) := by decide +kernel
theorem dX7_share_25 : decode cX7_share 25 = .ok (.getfield 52, 3) := by decide +kernel
theorem dX7_share_28 : decode cX7_share 28 = .ok (.getfield 102, 3) := by decide +kernel
theorem dX7_share_31 : decode cX7_share 31 = .ok (.if_icmp .ge 40, 3) := by decide +kernel
theorem dX7_share_34 : decode cX7_share 34 = .ok (.aload_n 0, 1) := by decide +kernel
theorem dX7_share_35 : decode cX7_share 35 = .ok (.getfield 62, 3) := by decide +kernel
theorem dX7_share_38 : decode cX7_share 38 = .ok (.iload_n 1, 1) := by decide +kernel
theorem dX7_share_39 : decode cX7_share 39 = .ok (.iaload, 1) := by decide +kernel
theorem dX7_share_40 : decode cX7_share 40 = .ok (.iload 4, 2) := by decide +kernel
theorem dX7_share_42 : decode cX7_share 42 = .ok (.ishr, 1) := by decide +kernel
theorem dX7_share_43 : decode cX7_share 43 = .ok (.iconst 1, 1) := by decide +kernel
theorem dX7_share_44 : decode cX7_share 44 = .ok (.iand, 1) := by decide +kernel
theorem dX7_share_45 : decode cX7_share 45 = .ok (.iconst 1, 1) := by decide +kernel
theorem dX7_share_46 : decode cX7_share 46 = .ok (.if_icmp .ne 19, 3) := by decide +kernel
theorem dX7_share_49 : decode cX7_share 49 = .ok (.iload_n 3, 1) := by decide +kernel
theorem dX7_share_50 : decode cX7_share 50 = .ok (.bipush 12, 2) := by decide +kernel
theorem dX7_share_52 : decode cX7_share 52 = .ok (.aload_n 0, 1) := by decide +kernel
theorem dX7_share_53 : decode cX7_share 53 = .ok (.iload 4, 2) := by decide +kernel
theorem dX7_share_55 : decode cX7_share 55 = .ok (.invokevirtual 243, 3) := by decide +kernel
theorem dX7_share_58 : decode cX7_share 58 = .ok (.iconst 1, 1) := by decide +kernel
theorem dX7_share_59 : decode cX7_share 59 = .ok (.invokestatic 246, 3) := by decide +kernel
theorem dX7_share_62 : decode cX7_share 62 = .ok (.idiv, 1) := by decide +kernel
theorem dX7_share_63 : decode cX7_share 63 = .ok (.iadd, 1) := by decide +kernel
theorem dX7_share_64 : decode cX7_share 64 = .ok (.istore_n 3, 1) := by decide +kernel
theorem dX7_share_65 : decode cX7_share 65 = .ok (.iinc 4 1, 3) := by decide +kernel
theorem dX7_share_68 : decode cX7_share 68 = .ok (.goto (-46), 3) := by decide +kernel
theorem dX7_share_71 : decode cX7_share 71 = .ok (.iload_n 3, 1) := by decide +kernel
theorem dX7_share_72 : decode cX7_share 72 = .ok (.bipush 12, 2) := by decide +kernel
theorem dX7_share_74 : decode cX7_share 74 = .ok (.iload_n 2, 1) := by decide +kernel
theorem dX7_share_75 : decode cX7_share 75 = .ok (.invokestatic 248, 3) := by decide +kernel
theorem dX7_share_78 : decode cX7_share 78 = .ok (.ireturn, 1) := by decide +kernel
theorem dX7_coversOn_0 : decode cX7_coversOn 0 = .ok (.iconst 0, 1) := by decide +kernel
theorem dX7_coversOn_1 : decode cX7_coversOn 1 = .ok (.istore_n 2, 1) := by decide +kernel
theorem dX7_coversOn_2 : decode cX7_coversOn 2 = .ok (.iconst 0, 1) := by decide +kernel
theorem dX7_coversOn_3 : decode cX7_coversOn 3 = .ok (.istore_n 3, 1) := by decide +kernel
theorem dX7_coversOn_4 : decode cX7_coversOn 4 = .ok (.iload_n 3, 1) := by decide +kernel
theorem dX7_coversOn_5 : decode cX7_coversOn 5 = .ok (.iconst 4, 1) := by decide +kernel
theorem dX7_coversOn_6 : decode cX7_coversOn 6 = .ok (.if_icmp .ge 22, 3) := by decide +kernel
theorem dX7_coversOn_9 : decode cX7_coversOn 9 = .ok (.iload_n 2, 1) := by decide +kernel
theorem dX7_coversOn_10 : decode cX7_coversOn 10 = .ok (.aload_n 0, 1) := by decide +kernel
theorem dX7_coversOn_11 : decode cX7_coversOn 11 = .ok (.getfield 62, 3) := by decide +kernel
theorem dX7_coversOn_14 : decode cX7_coversOn 14 = .ok (.iload_n 3, 1) := by decide +kernel
theorem dX7_coversOn_15 : decode cX7_coversOn 15 = .ok (.iaload, 1) := by decide +kernel
theorem dX7_coversOn_16 : decode cX7_coversOn 16 = .ok (.iload_n 1, 1) := by decide +kernel
theorem dX7_coversOn_17 : decode cX7_coversOn 17 = .ok (.ishr, 1) := by decide +kernel
theorem dX7_coversOn_18 : decode cX7_coversOn 18 = .ok (.iconst 1, 1) := by decide +kernel
theorem dX7_coversOn_19 : decode cX7_coversOn 19 = .ok (.iand, 1) := by decide +kernel
theorem dX7_coversOn_20 : decode cX7_coversOn 20 = .ok (.iadd, 1) := by decide +kernel
theorem dX7_coversOn_21 : decode cX7_coversOn 21 = .ok (.istore_n 2, 1) := by decide +kernel
theorem dX7_coversOn_22 : decode cX7_coversOn 22 = .ok (.iinc 3 1, 3) := by decide +kernel
theorem dX7_coversOn_25 : decode cX7_coversOn 25 = .ok (.goto (-21), 3) := by decide +kernel
theorem dX7_coversOn_28 : decode cX7_coversOn 28 = .ok (.iload_n 2, 1) := by decide +kernel
theorem dX7_coversOn_29 : decode cX7_coversOn 29 = .ok (.ireturn, 1) := by decide +kernel
theorem dX7_rests_0 : decode cX7_rests 0 = .ok (.aload_n 0, 1) := by decide +kernel
theorem dX7_rests_1 : decode cX7_rests 1 = .ok (.getfield 19, 3) := by decide +kernel
theorem dX7_rests_4 : decode cX7_rests 4 = .ok (.iload_n 1, 1) := by decide +kernel
theorem dX7_rests_5 : decode cX7_rests 5 = .ok (.invokevirtual 109, 3) := by decide +kernel
theorem dX7_rests_8 : decode cX7_rests 8 = .ok (.ifCond .eq 14, 3) := by decide +kernel
theorem dX7_rests_11 : decode cX7_rests 11 = .ok (.aload_n 0, 1) := by decide +kernel
theorem dX7_rests_12 : decode cX7_rests 12 = .ok (.getfield 19, 3) := by decide +kernel
theorem dX7_rests_15 : decode cX7_rests 15 = .ok (.iload_n 2, 1) := by decide +kernel
theorem dX7_rests_16 : decode cX7_rests 16 = .ok (.invokevirtual 109, 3) := by decide +kernel
theorem dX7_rests_19 : decode cX7_rests 19 = .ok (.ifCond .ne 5, 3) := by decide +kernel
theorem dX7_rests_22 : decode cX7_rests 22 = .ok (.iconst (-1), 1) := by decide +kernel
theorem dX7_rests_23 : decode cX7_rests 23 = .ok (.ireturn, 1) := by decide +kernel
theorem dX7_rests_24 : decode cX7_rests 24 = .ok (.iload_n 1, 1) := by decide +kernel
theorem dX7_rests_25 : decode cX7_rests 25 = .ok (.iload_n 2, 1) := by decide +kernel
theorem dX7_rests_26 : decode cX7_rests 26 = .ok (.if_icmp .eq 12, 3) := by decide +kernel
theorem dX7_rests_29 : decode cX7_rests 29 = .ok (.iload_n 3, 1) := by decide +kernel
theorem dX7_rests_30 : decode cX7_rests 30 = .ok (.ifCond .lt 8, 3) := by decide +kernel
theorem dX7_rests_33 : decode cX7_rests 33 = .ok (.iload_n 3, 1) := by decide +kernel
theorem dX7_rests_34 : decode cX7_rests 34 = .ok (.iconst 1, 1) := by decide +kernel
theorem dX7_rests_35 : decode cX7_rests 35 = .ok (.if_icmp .le 6, 3) := by decide +kernel
theorem dX7_rests_38 : decode cX7_rests 38 = .ok (.bipush (-2), 2) := by decide +kernel
theorem dX7_rests_40 : decode cX7_rests 40 = .ok (.ireturn, 1) := by decide +kernel
theorem dX7_rests_41 : decode cX7_rests 41 = .ok (.aload_n 0, 1) := by decide +kernel
theorem dX7_rests_42 : decode cX7_rests 42 = .ok (.iload_n 1, 1) := by decide +kernel
theorem dX7_rests_43 : decode cX7_rests 43 = .ok (.iload_n 2, 1) := by decide +kernel
theorem dX7_rests_44 : decode cX7_rests 44 = .ok (.invokevirtual 252, 3) := by decide +kernel
theorem dX7_rests_47 : decode cX7_rests 47 = .ok (.iconst 0, 1) := by decide +kernel
theorem dX7_rests_48 : decode cX7_rests 48 = .ok (.istore 4, 2) := by decide +kernel
theorem dX7_rests_50 : decode cX7_rests 50 = .ok (.iconst 0, 1) := by decide +kernel
theorem dX7_rests_51 : decode cX7_rests 51 = .ok (.istore 5, 2) := by decide +kernel
theorem dX7_rests_53 : decode cX7_rests 53 = .ok (.iload 5, 2) := by decide +kernel
theorem dX7_rests_55 : decode cX7_rests 55 = .ok (.bipush 16, 2) := by decide +kernel
theorem dX7_rests_57 : decode cX7_rests 57 = .ok (.if_icmp .ge 42, 3) := by decide +kernel
theorem dX7_rests_60 : decode cX7_rests 60 = .ok (.aload_n 0, 1) := by decide +kernel
theorem dX7_rests_61 : decode cX7_rests 61 = .ok (.iload 5, 2) := by decide +kernel
theorem dX7_rests_63 : decode cX7_rests 63 = .ok (.invokevirtual 255, 3) := by decide +kernel
theorem dX7_rests_66 : decode cX7_rests 66 = .ok (.ifCond .ne 6, 3) := by decide +kernel
theorem dX7_rests_69 : decode cX7_rests 69 = .ok (.goto 24, 3) := by decide +kernel
theorem dX7_rests_72 : decode cX7_rests 72 = .ok (.iload_n 3, 1) := by decide +kernel
theorem dX7_rests_73 : decode cX7_rests 73 = .ok (.iconst 1, 1) := by decide +kernel
theorem dX7_rests_74 : decode cX7_rests 74 = .ok (.if_icmp .ne 16, 3) := by decide +kernel
theorem dX7_rests_77 : decode cX7_rests 77 = .ok (.bipush 10, 2) := by decide +kernel
theorem dX7_rests_79 : decode cX7_rests 79 = .ok (.iload 5, 2) := by decide +kernel
theorem dX7_rests_81 : decode cX7_rests 81 = .ok (.iconst 4, 1) := by decide +kernel
theorem dX7_rests_82 : decode cX7_rests 82 = .ok (.idiv, 1) := by decide +kernel
theorem dX7_rests_83 : decode cX7_rests 83 = .ok (.imul, 1) := by decide +kernel
theorem dX7_rests_84 : decode cX7_rests 84 = .ok (.iload 5, 2) := by decide +kernel
theorem dX7_rests_86 : decode cX7_rests 86 = .ok (.iconst 4, 1) := by decide +kernel
theorem dX7_rests_87 : decode cX7_rests 87 = .ok (.irem, 1) := by decide +kernel
theorem dX7_rests_88 : decode cX7_rests 88 = .ok (.iadd, 1) := by decide +kernel
theorem dX7_rests_89 : decode cX7_rests 89 = .ok (.ireturn, 1) := by decide +kernel
theorem dX7_rests_90 : decode cX7_rests 90 = .ok (.iinc 4 1, 3) := by decide +kernel
theorem dX7_rests_93 : decode cX7_rests 93 = .ok (.iinc 5 1, 3) := by decide +kernel
theorem dX7_rests_96 : decode cX7_rests 96 = .ok (.goto (-43), 3) := by decide +kernel
theorem dX7_rests_99 : decode cX7_rests 99 = .ok (.iload_n 3, 1) := by decide +kernel
theorem dX7_rests_100 : decode cX7_rests 100 = .ok (.ifCond .ne 8, 3) := by decide +kernel
theorem dX7_rests_103 : decode cX7_rests 103 = .ok (.iload 4, 2) := by decide +kernel
theorem dX7_rests_105 : decode cX7_rests 105 = .ok (.goto 5, 3) := by decide +kernel
theorem dX7_rests_108 : decode cX7_rests 108 = .ok (.bipush (-9), 2) := by decide +kernel
theorem dX7_rests_110 : decode cX7_rests 110 = .ok (.ireturn, 1) := by decide +kernel
theorem dX7_findGains_0 : decode cX7_findGains 0 = .ok (.iconst 0, 1) := by decide +kernel
theorem dX7_findGains_1 : decode cX7_findGains 1 = .ok (.istore_n 3, 1) := by decide +kernel
theorem dX7_findGains_2 : decode cX7_findGains 2 = .ok (.iload_n 3, 1) := by decide +kernel
theorem dX7_findGains_3 : decode cX7_findGains 3 = .ok (.bipush 16, 2) := by decide +kernel
theorem dX7_findGains_5 : decode cX7_findGains 5 = .ok (.if_icmp .ge 80, 3) := by decide +kernel
theorem dX7_findGains_8 : decode cX7_findGains 8 = .ok (.aload_n 0, 1) := by decide +kernel
theorem dX7_findGains_9 : decode cX7_findGains 9 = .ok (.getfield 23, 3) := by decide +kernel
theorem dX7_findGains_12 : decode cX7_findGains 12 = .ok (.aload_n 0, 1) := by decide +kernel
theorem dX7_findGains_13 : decode cX7_findGains 13 = .ok (.getfield 19, 3) := by decide +kernel
theorem dX7_findGains_16 : decode cX7_findGains 16 = .ok (.invokevirtual 142, 3) := by decide +kernel
theorem dX7_findGains_19 : decode cX7_findGains 19 = .ok (.aload_n 0, 1) := by decide +kernel
theorem dX7_findGains_20 : decode cX7_findGains 20 = .ok (.getfield 23, 3) := by decide +kernel
theorem dX7_findGains_23 : decode cX7_findGains 23 = .ok (.getfield 113, 3) := by decide +kernel
theorem dX7_findGains_26 : decode cX7_findGains 26 = .ok (.iload_n 1, 1) := by decide +kernel
theorem dX7_findGains_27 : decode cX7_findGains 27 = .ok (.aaload, 1) := by decide +kernel
theorem dX7_findGains_28 : decode cX7_findGains 28 = .ok (.iload_n 3, 1) := by decide +kernel
theorem dX7_findGains_29 : decode cX7_findGains 29 = .ok (.iconst 4, 1) := by decide +kernel
theorem dX7_findGains_30 : decode cX7_findGains 30 = .ok (.idiv, 1) := by decide +kernel
theorem dX7_findGains_31 : decode cX7_findGains 31 = .ok (.putfield 117, 3) := by decide +kernel
theorem dX7_findGains_34 : decode cX7_findGains 34 = .ok (.aload_n 0, 1) := by decide +kernel
theorem dX7_findGains_35 : decode cX7_findGains 35 = .ok (.getfield 23, 3) := by decide +kernel
theorem dX7_findGains_38 : decode cX7_findGains 38 = .ok (.getfield 113, 3) := by decide +kernel
theorem dX7_findGains_41 : decode cX7_findGains 41 = .ok (.iload_n 2, 1) := by decide +kernel
theorem dX7_findGains_42 : decode cX7_findGains 42 = .ok (.aaload, 1) := by decide +kernel
theorem dX7_findGains_43 : decode cX7_findGains 43 = .ok (.iload_n 3, 1) := by decide +kernel
theorem dX7_findGains_44 : decode cX7_findGains 44 = .ok (.iconst 4, 1) := by decide +kernel
theorem dX7_findGains_45 : decode cX7_findGains 45 = .ok (.irem, 1) := by decide +kernel
theorem dX7_findGains_46 : decode cX7_findGains 46 = .ok (.putfield 117, 3) := by decide +kernel
theorem dX7_findGains_49 : decode cX7_findGains 49 = .ok (.aload_n 0, 1) := by decide +kernel
theorem dX7_findGains_50 : decode cX7_findGains 50 = .ok (.getfield 23, 3) := by decide +kernel
theorem dX7_findGains_53 : decode cX7_findGains 53 = .ok (.invokevirtual 145, 3) := by decide +kernel
theorem dX7_findGains_56 : decode cX7_findGains 56 = .ok (.pop, 1) := by decide +kernel
theorem dX7_findGains_57 : decode cX7_findGains 57 = .ok (.aload_n 0, 1) := by decide +kernel
theorem dX7_findGains_58 : decode cX7_findGains 58 = .ok (.getfield 66, 3) := by decide +kernel
theorem dX7_findGains_61 : decode cX7_findGains 61 = .ok (.iload_n 3, 1) := by decide +kernel
theorem dX7_findGains_62 : decode cX7_findGains 62 = .ok (.aload_n 0, 1) := by decide +kernel
theorem dX7_findGains_63 : decode cX7_findGains 63 = .ok (.iload_n 1, 1) := by decide +kernel
theorem dX7_findGains_64 : decode cX7_findGains 64 = .ok (.invokevirtual 258, 3) := by decide +kernel
theorem dX7_findGains_67 : decode cX7_findGains 67 = .ok (.iastore, 1) := by decide +kernel
theorem dX7_findGains_68 : decode cX7_findGains 68 = .ok (.aload_n 0, 1) := by decide +kernel
theorem dX7_findGains_69 : decode cX7_findGains 69 = .ok (.getfield 69, 3) := by decide +kernel
theorem dX7_findGains_72 : decode cX7_findGains 72 = .ok (.iload_n 3, 1) := by decide +kernel
theorem dX7_findGains_73 : decode cX7_findGains 73 = .ok (.aload_n 0, 1) := by decide +kernel
theorem dX7_findGains_74 : decode cX7_findGains 74 = .ok (.iload_n 2, 1) := by decide +kernel
theorem dX7_findGains_75 : decode cX7_findGains 75 = .ok (.invokevirtual 258, 3) := by decide +kernel
theorem dX7_findGains_78 : decode cX7_findGains 78 = .ok (.iastore, 1) := by decide +kernel
theorem dX7_findGains_79 : decode cX7_findGains 79 = .ok (.iinc 3 1, 3) := by decide +kernel
theorem dX7_findGains_82 : decode cX7_findGains 82 = .ok (.goto (-80), 3) := by decide +kernel
theorem dX7_findGains_85 : decode cX7_findGains 85 = .ok (.return_, 1) := by decide +kernel
theorem dX7_gainOf_0 : decode cX7_gainOf 0 = .ok (.aload_n 0, 1) := by decide +kernel
theorem dX7_gainOf_1 : decode cX7_gainOf 1 = .ok (.getfield 23, 3) := by decide +kernel
theorem dX7_gainOf_4 : decode cX7_gainOf 4 = .ok (.getfield 113, 3) := by decide +kernel
theorem dX7_gainOf_7 : decode cX7_gainOf 7 = .ok (.iload_n 1, 1) := by decide +kernel
theorem dX7_gainOf_8 : decode cX7_gainOf 8 = .ok (.aaload, 1) := by decide +kernel
theorem dX7_gainOf_9 : decode cX7_gainOf 9 = .ok (.getfield 117, 3) := by decide +kernel
theorem dX7_gainOf_12 : decode cX7_gainOf 12 = .ok (.aload_n 0, 1) := by decide +kernel
theorem dX7_gainOf_13 : decode cX7_gainOf 13 = .ok (.getfield 19, 3) := by decide +kernel
theorem dX7_gainOf_16 : decode cX7_gainOf 16 = .ok (.getfield 113, 3) := by decide +kernel
theorem dX7_gainOf_19 : decode cX7_gainOf 19 = .ok (.iload_n 1, 1) := by decide +kernel
theorem dX7_gainOf_20 : decode cX7_gainOf 20 = .ok (.aaload, 1) := by decide +kernel
theorem dX7_gainOf_21 : decode cX7_gainOf 21 = .ok (.getfield 117, 3) := by decide +kernel
theorem dX7_gainOf_24 : decode cX7_gainOf 24 = .ok (.if_icmp .ne 7, 3) := by decide +kernel
theorem dX7_gainOf_27 : decode cX7_gainOf 27 = .ok (.iconst 1, 1) := by decide +kernel
theorem dX7_gainOf_28 : decode cX7_gainOf 28 = .ok (.goto 4, 3) := by decide +kernel
theorem dX7_gainOf_31 : decode cX7_gainOf 31 = .ok (.iconst 0, 1) := by decide +kernel
theorem dX7_gainOf_32 : decode cX7_gainOf 32 = .ok (.istore_n 2, 1) := by decide +kernel
theorem dX7_gainOf_33 : decode cX7_gainOf 33 = .ok (.iconst 2, 1) := by decide +kernel
theorem dX7_gainOf_34 : decode cX7_gainOf 34 = .ok (.aload_n 0, 1) := by decide +kernel
theorem dX7_gainOf_35 : decode cX7_gainOf 35 = .ok (.getfield 23, 3) := by decide +kernel
theorem dX7_gainOf_38 : decode cX7_gainOf 38 = .ok (.getfield 113, 3) := by decide +kernel
theorem dX7_gainOf_41 : decode cX7_gainOf 41 = .ok (.iload_n 1, 1) := by decide +kernel
theorem dX7_gainOf_42 : decode cX7_gainOf 42 = .ok (.aaload, 1) := by decide +kernel
theorem dX7_gainOf_43 : decode cX7_gainOf 43 = .ok (.getfield 125, 3) := by decide +kernel
theorem dX7_gainOf_46 : decode cX7_gainOf 46 = .ok (.getfield 102, 3) := by decide +kernel
theorem dX7_gainOf_49 : decode cX7_gainOf 49 = .ok (.imul, 1) := by decide +kernel
theorem dX7_gainOf_50 : decode cX7_gainOf 50 = .ok (.iload_n 2, 1) := by decide +kernel
theorem dX7_gainOf_51 : decode cX7_gainOf 51 = .ok (.iadd, 1) := by decide +kernel
theorem dX7_gainOf_52 : decode cX7_gainOf 52 = .ok (.ireturn, 1) := by decide +kernel
theorem dX7_isRest_0 : decode cX7_isRest 0 = .ok (.iload_n 1, 1) := by decide +kernel
theorem dX7_isRest_1 : decode cX7_isRest 1 = .ok (.iconst 4, 1) := by decide +kernel
theorem dX7_isRest_2 : decode cX7_isRest 2 = .ok (.idiv, 1) := by decide +kernel
theorem dX7_isRest_3 : decode cX7_isRest 3 = .ok (.istore_n 2, 1) := by decide +kernel
theorem dX7_isRest_4 : decode cX7_isRest 4 = .ok (.iload_n 1, 1) := by decide +kernel
theorem dX7_isRest_5 : decode cX7_isRest 5 = .ok (.iconst 4, 1) := by decide +kernel
theorem dX7_isRest_6 : decode cX7_isRest 6 = .ok (.irem, 1) := by decide +kernel
theorem dX7_isRest_7 : decode cX7_isRest 7 = .ok (.istore_n 3, 1) := by decide +kernel
theorem dX7_isRest_8 : decode cX7_isRest 8 = .ok (.iconst 0, 1) := by decide +kernel
theorem dX7_isRest_9 : decode cX7_isRest 9 = .ok (.istore 4, 2) := by decide +kernel
theorem dX7_isRest_11 : decode cX7_isRest 11 = .ok (.iload 4, 2) := by decide +kernel
theorem dX7_isRest_13 : decode cX7_isRest 13 = .ok (.iconst 4, 1) := by decide +kernel
theorem dX7_isRest_14 : decode cX7_isRest 14 = .ok (.if_icmp .ge 51, 3) := by decide +kernel
theorem dX7_isRest_17 : decode cX7_isRest 17 = .ok (.aload_n 0, 1) := by decide +kernel
theorem dX7_isRest_18 : decode cX7_isRest 18 = .ok (.getfield 66, 3) := by decide +kernel
theorem dX7_isRest_21 : decode cX7_isRest 21 = .ok (.iconst 4, 1) := by decide +kernel
theorem dX7_isRest_22 : decode cX7_isRest 22 = .ok (.iload 4, 2) := by decide +kernel
theorem dX7_isRest_24 : decode cX7_isRest 24 = .ok (.imul, 1) := by decide +kernel
theorem dX7_isRest_25 : decode cX7_isRest 25 = .ok (.iload_n 3, 1) := by decide +kernel
theorem dX7_isRest_26 : decode cX7_isRest 26 = .ok (.iadd, 1) := by decide +kernel
theorem dX7_isRest_27 : decode cX7_isRest 27 = .ok (.iaload, 1) := by decide +kernel
theorem dX7_isRest_28 : decode cX7_isRest 28 = .ok (.aload_n 0, 1) := by decide +kernel
theorem dX7_isRest_29 : decode cX7_isRest 29 = .ok (.getfield 66, 3) := by decide +kernel
theorem dX7_isRest_32 : decode cX7_isRest 32 = .ok (.iload_n 1, 1) := by decide +kernel
theorem dX7_isRest_33 : decode cX7_isRest 33 = .ok (.iaload, 1) := by decide +kernel
theorem dX7_isRest_34 : decode cX7_isRest 34 = .ok (.if_icmp .gt 23, 3) := by decide +kernel
theorem dX7_isRest_37 : decode cX7_isRest 37 = .ok (.aload_n 0, 1) := by decide +kernel
theorem dX7_isRest_38 : decode cX7_isRest 38 = .ok (.getfield 69, 3) := by decide +kernel
theorem dX7_isRest_41 : decode cX7_isRest 41 = .ok (.iconst 4, 1) := by decide +kernel
theorem dX7_isRest_42 : decode cX7_isRest 42 = .ok (.iload_n 2, 1) := by decide +kernel
theorem dX7_isRest_43 : decode cX7_isRest 43 = .ok (.imul, 1) := by decide +kernel
theorem dX7_isRest_44 : decode cX7_isRest 44 = .ok (.iload 4, 2) := by decide +kernel
theorem dX7_isRest_46 : decode cX7_isRest 46 = .ok (.iadd, 1) := by decide +kernel
theorem dX7_isRest_47 : decode cX7_isRest 47 = .ok (.iaload, 1) := by decide +kernel
theorem dX7_isRest_48 : decode cX7_isRest 48 = .ok (.aload_n 0, 1) := by decide +kernel
theorem dX7_isRest_49 : decode cX7_isRest 49 = .ok (.getfield 69, 3) := by decide +kernel
theorem dX7_isRest_52 : decode cX7_isRest 52 = .ok (.iload_n 1, 1) := by decide +kernel
theorem dX7_isRest_53 : decode cX7_isRest 53 = .ok (.iaload, 1) := by decide +kernel
theorem dX7_isRest_54 : decode cX7_isRest 54 = .ok (.if_icmp .le 5, 3) := by decide +kernel
theorem dX7_isRest_57 : decode cX7_isRest 57 = .ok (.iconst 0, 1) := by decide +kernel
theorem dX7_isRest_58 : decode cX7_isRest 58 = .ok (.ireturn, 1) := by decide +kernel
theorem dX7_isRest_59 : decode cX7_isRest 59 = .ok (.iinc 4 1, 3) := by decide +kernel
theorem dX7_isRest_62 : decode cX7_isRest 62 = .ok (.goto (-51), 3) := by decide +kernel
theorem dX7_isRest_65 : decode cX7_isRest 65 = .ok (.iconst 1, 1) := by decide +kernel
theorem dX7_isRest_66 : decode cX7_isRest 66 = .ok (.ireturn, 1) := by decide +kernel
theorem dX7_lost_0 : decode cX7_lost 0 = .ok (.iload_n 1, 1) := by decide +kernel
theorem dX7_lost_1 : decode cX7_lost 1 = .ok (.ifCond .lt 9, 3) := by decide +kernel
theorem dX7_lost_4 : decode cX7_lost 4 = .ok (.iload_n 1, 1) := by decide +kernel
theorem dX7_lost_5 : decode cX7_lost 5 = .ok (.bipush 10, 2) := by decide +kernel
theorem dX7_lost_7 : decode cX7_lost 7 = .ok (.if_icmp .le 6, 3) := by decide +kernel
theorem dX7_lost_10 : decode cX7_lost 10 = .ok (.bipush (-2), 2) := by decide +kernel
theorem dX7_lost_12 : decode cX7_lost 12 = .ok (.ireturn, 1) := by decide +kernel
theorem dX7_lost_13 : decode cX7_lost 13 = .ok (.aload_n 0, 1) := by decide +kernel
theorem dX7_lost_14 : decode cX7_lost 14 = .ok (.invokevirtual 198, 3) := by decide +kernel
theorem dX7_lost_17 : decode cX7_lost 17 = .ok (.aload_n 0, 1) := by decide +kernel
theorem dX7_lost_18 : decode cX7_lost 18 = .ok (.getfield 19, 3) := by decide +kernel
theorem dX7_lost_21 : decode cX7_lost 21 = .ok (.invokevirtual 174, 3) := by decide +kernel
theorem dX7_lost_24 : decode cX7_lost 24 = .ok (.istore_n 3, 1) := by decide +kernel
theorem dX7_lost_25 : decode cX7_lost 25 = .ok (.iconst 0, 1) := by decide +kernel
theorem dX7_lost_26 : decode cX7_lost 26 = .ok (.istore 4, 2) := by decide +kernel
theorem dX7_lost_28 : decode cX7_lost 28 = .ok (.iconst 1, 1) := by decide +kernel
theorem dX7_lost_29 : decode cX7_lost 29 = .ok (.istore 5, 2) := by decide +kernel
theorem dX7_lost_31 : decode cX7_lost 31 = .ok (.iconst 0, 1) := by decide +kernel
theorem dX7_lost_32 : decode cX7_lost 32 = .ok (.istore 6, 2) := by decide +kernel
theorem dX7_lost_34 : decode cX7_lost 34 = .ok (.iload 6, 2) := by decide +kernel
theorem dX7_lost_36 : decode cX7_lost 36 = .ok (.bipush 16, 2) := by decide +kernel
theorem dX7_lost_38 : decode cX7_lost 38 = .ok (.if_icmp .ge 43, 3) := by decide +kernel
theorem dX7_lost_41 : decode cX7_lost 41 = .ok (.iload 6, 2) := by decide +kernel
theorem dX7_lost_43 : decode cX7_lost 43 = .ok (.iload_n 3, 1) := by decide +kernel
theorem dX7_lost_44 : decode cX7_lost 44 = .ok (.iconst (-1), 1) := by decide +kernel
theorem dX7_lost_45 : decode cX7_lost 45 = .ok (.ixor, 1) := by decide +kernel
theorem dX7_lost_46 : decode cX7_lost 46 = .ok (.iand, 1) := by decide +kernel
theorem dX7_lost_47 : decode cX7_lost 47 = .ok (.ifCond .ne 28, 3) := by decide +kernel
theorem dX7_lost_50 : decode cX7_lost 50 = .ok (.aload_n 0, 1) := by decide +kernel
theorem dX7_lost_51 : decode cX7_lost 51 = .ok (.iload 6, 2) := by decide +kernel
theorem dX7_lost_53 : decode cX7_lost 53 = .ok (.invokevirtual 261, 3) := by decide +kernel
theorem dX7_lost_56 : decode cX7_lost 56 = .ok (.aload_n 0, 1) := by decide +kernel
theorem dX7_lost_57 : decode cX7_lost 57 = .ok (.invokevirtual 264, 3) := by decide +kernel
theorem dX7_lost_60 : decode cX7_lost 60 = .ok (.if_icmp .ne 15, 3) := by decide +kernel
theorem dX7_lost_63 : decode cX7_lost 63 = .ok (.iload 4, 2) := by decide +kernel
theorem dX7_lost_65 : decode cX7_lost 65 = .ok (.iload 6, 2) := by decide +kernel
theorem dX7_lost_67 : decode cX7_lost 67 = .ok (.iload_n 3, 1) := by decide +kernel
theorem dX7_lost_68 : decode cX7_lost 68 = .ok (.iload_n 1, 1) := by decide +kernel
theorem dX7_lost_69 : decode cX7_lost 69 = .ok (.invokestatic 267, 3) := by decide +kernel
theorem dX7_lost_72 : decode cX7_lost 72 = .ok (.iadd, 1) := by decide +kernel
theorem dX7_lost_73 : decode cX7_lost 73 = .ok (.istore 4, 2) := by decide +kernel
theorem dX7_lost_75 : decode cX7_lost 75 = .ok (.iinc 6 1, 3) := by decide +kernel
theorem dX7_lost_78 : decode cX7_lost 78 = .ok (.goto (-44), 3) := by decide +kernel
theorem dX7_lost_81 : decode cX7_lost 81 = .ok (.iload_n 3, 1) := by decide +kernel
theorem dX7_lost_82 : decode cX7_lost 82 = .ok (.invokestatic 177, 3) := by decide +kernel
theorem dX7_lost_85 : decode cX7_lost 85 = .ok (.istore 6, 2) := by decide +kernel
theorem dX7_lost_87 : decode cX7_lost 87 = .ok (.iload 6, 2) := by decide +kernel
theorem dX7_lost_89 : decode cX7_lost 89 = .ok (.ifCond .le 16, 3) := by decide +kernel
theorem dX7_lost_92 : decode cX7_lost 92 = .ok (.iload 5, 2) := by decide +kernel
theorem dX7_lost_94 : decode cX7_lost 94 = .ok (.bipush 10, 2) := by decide +kernel
theorem dX7_lost_96 : decode cX7_lost 96 = .ok (.imul, 1) := by decide +kernel
theorem dX7_lost_97 : decode cX7_lost 97 = .ok (.istore 5, 2) := by decide +kernel
theorem dX7_lost_99 : decode cX7_lost 99 = .ok (.iinc 6 (-1), 3) := by decide +kernel
theorem dX7_lost_102 : decode cX7_lost 102 = .ok (.goto (-15), 3) := by decide +kernel
theorem dX7_lost_105 : decode cX7_lost 105 = .ok (.iload 4, 2) := by decide +kernel
theorem dX7_lost_107 : decode cX7_lost 107 = .ok (.iload 5, 2) := by decide +kernel
theorem dX7_lost_109 : decode cX7_lost 109 = .ok (.iload_n 2, 1) := by decide +kernel
theorem dX7_lost_110 : decode cX7_lost 110 = .ok (.invokestatic 248, 3) := by decide +kernel
theorem dX7_lost_113 : decode cX7_lost 113 = .ok (.ireturn, 1) := by decide +kernel
theorem dX7_coveredBy_0 : decode cX7_coveredBy 0 = .ok (.iconst 0, 1) := by decide +kernel
theorem dX7_coveredBy_1 : decode cX7_coveredBy 1 = .ok (.istore_n 2, 1) := by decide +kernel
theorem dX7_coveredBy_2 : decode cX7_coveredBy 2 = .ok (.iconst 0, 1) := by decide +kernel
theorem dX7_coveredBy_3 : decode cX7_coveredBy 3 = .ok (.istore_n 3, 1) := by decide +kernel
theorem dX7_coveredBy_4 : decode cX7_coveredBy 4 = .ok (.iload_n 3, 1) := by decide +kernel
theorem dX7_coveredBy_5 : decode cX7_coveredBy 5 = .ok (.iconst 4, 1) := by decide +kernel
theorem dX7_coveredBy_6 : decode cX7_coveredBy 6 = .ok (.if_icmp .ge 31, 3) := by decide +kernel
theorem dX7_coveredBy_9 : decode cX7_coveredBy 9 = .ok (.iload_n 2, 1) := by decide +kernel
theorem dX7_coveredBy_10 : decode cX7_coveredBy 10 = .ok (.iload_n 1, 1) := by decide +kernel
theorem dX7_coveredBy_11 : decode cX7_coveredBy 11 = .ok (.iload_n 3, 1) := by decide +kernel
theorem dX7_coveredBy_12 : decode cX7_coveredBy 12 = .ok (.ishr, 1) := by decide +kernel
theorem dX7_coveredBy_13 : decode cX7_coveredBy 13 = .ok (.iconst 1, 1) := by decide +kernel
theorem dX7_coveredBy_14 : decode cX7_coveredBy 14 = .ok (.iand, 1) := by decide +kernel
theorem dX7_coveredBy_15 : decode cX7_coveredBy 15 = .ok (.iconst 1, 1) := by decide +kernel
theorem dX7_coveredBy_16 : decode cX7_coveredBy 16 = .ok (.if_icmp .ne 12, 3) := by decide +kernel
theorem dX7_coveredBy_19 : decode cX7_coveredBy 19 = .ok (.aload_n 0, 1) := by decide +kernel
theorem dX7_coveredBy_20 : decode cX7_coveredBy 20 = .ok (.getfield 62, 3) := by decide +kernel
theorem dX7_coveredBy_23 : decode cX7_coveredBy 23 = .ok (.iload_n 3, 1) := by decide +kernel
theorem dX7_coveredBy_24 : decode cX7_coveredBy 24 = .ok (.iaload, 1) := by decide +kernel
theorem dX7_coveredBy_25 : decode cX7_coveredBy 25 = .ok (.goto 4, 3) := by decide +kernel
theorem dX7_coveredBy_28 : decode cX7_coveredBy 28 = .ok (.iconst 0, 1) := by decide +kernel
theorem dX7_coveredBy_29 : decode cX7_coveredBy 29 = .ok (.ior, 1) := by decide +kernel
theorem dX7_coveredBy_30 : decode cX7_coveredBy 30 = .ok (.istore_n 2, 1) := by decide +kernel
theorem dX7_coveredBy_31 : decode cX7_coveredBy 31 = .ok (.iinc 3 1, 3) := by decide +kernel
theorem dX7_coveredBy_34 : decode cX7_coveredBy 34 = .ok (.goto (-30), 3) := by decide +kernel
theorem dX7_coveredBy_37 : decode cX7_coveredBy 37 = .ok (.iload_n 2, 1) := by decide +kernel
theorem dX7_coveredBy_38 : decode cX7_coveredBy 38 = .ok (.ireturn, 1) := by decide +kernel
theorem dX7_chanceOf_0 : decode cX7_chanceOf 0 = .ok (.iconst 1, 1) := by decide +kernel
theorem dX7_chanceOf_1 : decode cX7_chanceOf 1 = .ok (.istore_n 3, 1) := by decide +kernel
theorem dX7_chanceOf_2 : decode cX7_chanceOf 2 = .ok (.iconst 0, 1) := by decide +kernel
theorem dX7_chanceOf_3 : decode cX7_chanceOf 3 = .ok (.istore 4, 2) := by decide +kernel
theorem dX7_chanceOf_5 : decode cX7_chanceOf 5 = .ok (.iload 4, 2) := by decide +kernel
theorem dX7_chanceOf_7 : decode cX7_chanceOf 7 = .ok (.iconst 4, 1) := by decide +kernel
theorem dX7_chanceOf_8 : decode cX7_chanceOf 8 = .ok (.if_icmp .ge 40, 3) := by decide +kernel
theorem dX7_chanceOf_11 : decode cX7_chanceOf 11 = .ok (.iload_n 1, 1) := by decide +kernel
theorem dX7_chanceOf_12 : decode cX7_chanceOf 12 = .ok (.iload 4, 2) := by decide +kernel
theorem dX7_chanceOf_14 : decode cX7_chanceOf 14 = .ok (.ishr, 1) := by decide +kernel
theorem dX7_chanceOf_15 : decode cX7_chanceOf 15 = .ok (.iconst 1, 1) := by decide +kernel
theorem dX7_chanceOf_16 : decode cX7_chanceOf 16 = .ok (.iand, 1) := by decide +kernel
theorem dX7_chanceOf_17 : decode cX7_chanceOf 17 = .ok (.iconst 1, 1) := by decide +kernel
theorem dX7_chanceOf_18 : decode cX7_chanceOf 18 = .ok (.if_icmp .ne 24, 3) := by decide +kernel
theorem dX7_chanceOf_21 : decode cX7_chanceOf 21 = .ok (.iload_n 3, 1) := by decide +kernel
theorem dX7_chanceOf_22 : decode cX7_chanceOf 22 = .ok (.iload_n 0, 1) := by decide +kernel
theorem dX7_chanceOf_23 : decode cX7_chanceOf 23 = .ok (.iload 4, 2) := by decide +kernel
theorem dX7_chanceOf_25 : decode cX7_chanceOf 25 = .ok (.ishr, 1) := by decide +kernel
theorem dX7_chanceOf_26 : decode cX7_chanceOf 26 = .ok (.iconst 1, 1) := by decide +kernel
theorem dX7_chanceOf_27 : decode cX7_chanceOf 27 = .ok (.iand, 1) := by decide +kernel
theorem dX7_chanceOf_28 : decode cX7_chanceOf 28 = .ok (.iconst 1, 1) := by decide +kernel
theorem dX7_chanceOf_29 : decode cX7_chanceOf 29 = .ok (.if_icmp .ne 10, 3) := by decide +kernel
theorem dX7_chanceOf_32 : decode cX7_chanceOf 32 = .ok (.bipush 10, 2) := by decide +kernel
theorem dX7_chanceOf_34 : decode cX7_chanceOf 34 = .ok (.iload_n 2, 1) := by decide +kernel
theorem dX7_chanceOf_35 : decode cX7_chanceOf 35 = .ok (.isub, 1) := by decide +kernel
theorem dX7_chanceOf_36 : decode cX7_chanceOf 36 = .ok (.goto 4, 3) := by decide +kernel
theorem dX7_chanceOf_39 : decode cX7_chanceOf 39 = .ok (.iload_n 2, 1) := by decide +kernel
theorem dX7_chanceOf_40 : decode cX7_chanceOf 40 = .ok (.imul, 1) := by decide +kernel
theorem dX7_chanceOf_41 : decode cX7_chanceOf 41 = .ok (.istore_n 3, 1) := by decide +kernel
theorem dX7_chanceOf_42 : decode cX7_chanceOf 42 = .ok (.iinc 4 1, 3) := by decide +kernel
theorem dX7_chanceOf_45 : decode cX7_chanceOf 45 = .ok (.goto (-40), 3) := by decide +kernel
theorem dX7_chanceOf_48 : decode cX7_chanceOf 48 = .ok (.iload_n 3, 1) := by decide +kernel
theorem dX7_chanceOf_49 : decode cX7_chanceOf 49 = .ok (.ireturn, 1) := by decide +kernel
theorem dX7_partOfFraction_0 : decode cX7_partOfFraction 0 = .ok (.iload_n 0, 1) := by decide +kernel
theorem dX7_partOfFraction_1 : decode cX7_partOfFraction 1 = .ok (.iload_n 1, 1) := by decide +kernel
theorem dX7_partOfFraction_2 : decode cX7_partOfFraction 2 = .ok (.invokestatic 270, 3) := by decide +kernel
theorem dX7_partOfFraction_5 : decode cX7_partOfFraction 5 = .ok (.iconst 1, 1) := by decide +kernel
theorem dX7_partOfFraction_6 : decode cX7_partOfFraction 6 = .ok (.invokestatic 246, 3) := by decide +kernel
theorem dX7_partOfFraction_9 : decode cX7_partOfFraction 9 = .ok (.istore_n 3, 1) := by decide +kernel
theorem dX7_partOfFraction_10 : decode cX7_partOfFraction 10 = .ok (.iload_n 2, 1) := by decide +kernel
theorem dX7_partOfFraction_11 : decode cX7_partOfFraction 11 = .ok (.ifCond .eq 7, 3) := by decide +kernel
theorem dX7_partOfFraction_14 : decode cX7_partOfFraction 14 = .ok (.iload_n 0, 1) := by decide +kernel
theorem dX7_partOfFraction_15 : decode cX7_partOfFraction 15 = .ok (.goto 4, 3) := by decide +kernel
theorem dX7_partOfFraction_18 : decode cX7_partOfFraction 18 = .ok (.iload_n 1, 1) := by decide +kernel
theorem dX7_partOfFraction_19 : decode cX7_partOfFraction 19 = .ok (.iload_n 3, 1) := by decide +kernel
theorem dX7_partOfFraction_20 : decode cX7_partOfFraction 20 = .ok (.idiv, 1) := by decide +kernel
theorem dX7_partOfFraction_21 : decode cX7_partOfFraction 21 = .ok (.ireturn, 1) := by decide +kernel
theorem dX7_commonDivisor_0 : decode cX7_commonDivisor 0 = .ok (.iload_n 0, 1) := by decide +kernel
theorem dX7_commonDivisor_1 : decode cX7_commonDivisor 1 = .ok (.istore_n 2, 1) := by decide +kernel
theorem dX7_commonDivisor_2 : decode cX7_commonDivisor 2 = .ok (.iload_n 1, 1) := by decide +kernel
theorem dX7_commonDivisor_3 : decode cX7_commonDivisor 3 = .ok (.istore_n 3, 1) := by decide +kernel
theorem dX7_commonDivisor_4 : decode cX7_commonDivisor 4 = .ok (.iconst 0, 1) := by decide +kernel
theorem dX7_commonDivisor_5 : decode cX7_commonDivisor 5 = .ok (.istore 4, 2) := by decide +kernel
theorem dX7_commonDivisor_7 : decode cX7_commonDivisor 7 = .ok (.iload 4, 2) := by decide +kernel
theorem dX7_commonDivisor_9 : decode cX7_commonDivisor 9 = .ok (.bipush 64, 2) := by decide +kernel
theorem dX7_commonDivisor_11 : decode cX7_commonDivisor 11 = .ok (.if_icmp .ge 23, 3) := by decide +kernel
theorem dX7_commonDivisor_14 : decode cX7_commonDivisor 14 = .ok (.iload_n 3, 1) := by decide +kernel
theorem dX7_commonDivisor_15 : decode cX7_commonDivisor 15 = .ok (.ifCond .eq 19, 3) := by decide +kernel
theorem dX7_commonDivisor_18 : decode cX7_commonDivisor 18 = .ok (.iload_n 2, 1) := by decide +kernel
theorem dX7_commonDivisor_19 : decode cX7_commonDivisor 19 = .ok (.iload_n 3, 1) := by decide +kernel
theorem dX7_commonDivisor_20 : decode cX7_commonDivisor 20 = .ok (.irem, 1) := by decide +kernel
theorem dX7_commonDivisor_21 : decode cX7_commonDivisor 21 = .ok (.istore 5, 2) := by decide +kernel
theorem dX7_commonDivisor_23 : decode cX7_commonDivisor 23 = .ok (.iload_n 3, 1) := by decide +kernel
theorem dX7_commonDivisor_24 : decode cX7_commonDivisor 24 = .ok (.istore_n 2, 1) := by decide +kernel
theorem dX7_commonDivisor_25 : decode cX7_commonDivisor 25 = .ok (.iload 5, 2) := by decide +kernel
theorem dX7_commonDivisor_27 : decode cX7_commonDivisor 27 = .ok (.istore_n 3, 1) := by decide +kernel
theorem dX7_commonDivisor_28 : decode cX7_commonDivisor 28 = .ok (.iinc 4 1, 3) := by decide +kernel
theorem dX7_commonDivisor_31 : decode cX7_commonDivisor 31 = .ok (.goto (-24), 3) := by decide +kernel
theorem dX7_commonDivisor_34 : decode cX7_commonDivisor 34 = .ok (.iload_n 2, 1) := by decide +kernel
theorem dX7_commonDivisor_35 : decode cX7_commonDivisor 35 = .ok (.ireturn, 1) := by decide +kernel
theorem dX7_seed_0 : decode cX7_seed 0 = .ok (.aload_n 0, 1) := by decide +kernel
theorem dX7_seed_1 : decode cX7_seed 1 = .ok (.getfield 72, 3) := by decide +kernel
theorem dX7_seed_4 : decode cX7_seed 4 = .ok (.lstore_n 3, 1) := by decide +kernel
theorem dX7_seed_5 : decode cX7_seed 5 = .ok (.aload_n 0, 1) := by decide +kernel
theorem dX7_seed_6 : decode cX7_seed 6 = .ok (.lload_n 1, 1) := by decide +kernel
theorem dX7_seed_7 : decode cX7_seed 7 = .ok (.putfield 72, 3) := by decide +kernel
theorem dX7_seed_10 : decode cX7_seed 10 = .ok (.lload_n 3, 1) := by decide +kernel
theorem dX7_seed_11 : decode cX7_seed 11 = .ok (.lreturn, 1) := by decide +kernel
theorem dX7_years_0 : decode cX7_years 0 = .ok (.iload_n 1, 1) := by decide +kernel
theorem dX7_years_1 : decode cX7_years 1 = .ok (.iconst 1, 1) := by decide +kernel
theorem dX7_years_2 : decode cX7_years 2 = .ok (.if_icmp .lt 9, 3) := by decide +kernel
theorem dX7_years_5 : decode cX7_years 5 = .ok (.iload_n 1, 1) := by decide +kernel
theorem dX7_years_6 : decode cX7_years 6 = .ok (.bipush 30, 2) := by decide +kernel
theorem dX7_years_8 : decode cX7_years 8 = .ok (.if_icmp .le 6, 3) := by decide +kernel
theorem dX7_years_11 : decode cX7_years 11 = .ok (.bipush (-2), 2) := by decide +kernel
theorem dX7_years_13 : decode cX7_years 13 = .ok (.ireturn, 1) := by decide +kernel
theorem dX7_years_14 : decode cX7_years 14 = .ok (.aload_n 0, 1) := by decide +kernel
theorem dX7_years_15 : decode cX7_years 15 = .ok (.getfield 23, 3) := by decide +kernel
theorem dX7_years_18 : decode cX7_years 18 = .ok (.aload_n 0, 1) := by decide +kernel
theorem dX7_years_19 : decode cX7_years 19 = .ok (.getfield 19, 3) := by decide +kernel
theorem dX7_years_22 : decode cX7_years 22 = .ok (.invokevirtual 142, 3) := by decide +kernel
theorem dX7_years_25 : decode cX7_years 25 = .ok (.iconst 0, 1) := by decide +kernel
theorem dX7_years_26 : decode cX7_years 26 = .ok (.istore_n 2, 1) := by decide +kernel
theorem dX7_years_27 : decode cX7_years 27 = .ok (.iconst 0, 1) := by decide +kernel
theorem dX7_years_28 : decode cX7_years 28 = .ok (.istore_n 3, 1) := by decide +kernel
theorem dX7_years_29 : decode cX7_years 29 = .ok (.iload_n 3, 1) := by decide +kernel
theorem dX7_years_30 : decode cX7_years 30 = .ok (.iload_n 1, 1) := by decide +kernel
theorem dX7_years_31 : decode cX7_years 31 = .ok (.if_icmp .ge 51, 3) := by decide +kernel
theorem dX7_years_34 : decode cX7_years 34 = .ok (.aload_n 0, 1) := by decide +kernel
theorem dX7_years_35 : decode cX7_years 35 = .ok (.aload_n 0, 1) := by decide +kernel
theorem dX7_years_36 : decode cX7_years 36 = .ok (.getfield 72, 3) := by decide +kernel
theorem dX7_years_39 : decode cX7_years 39 = .ok (.ldc2_w 273, 3) := by decide +kernel
theorem dX7_years_42 : decode cX7_years 42 = .ok (.lmul, 1) := by decide +kernel
theorem dX7_years_43 : decode cX7_years 43 = .ok (.ldc2_w 275, 3) := by decide +kernel
theorem dX7_years_46 : decode cX7_years 46 = .ok (.ladd, 1) := by decide +kernel
theorem dX7_years_47 : decode cX7_years 47 = .ok (.putfield 72, 3) := by decide +kernel
theorem dX7_years_50 : decode cX7_years 50 = .ok (.aload_n 0, 1) := by decide +kernel
theorem dX7_years_51 : decode cX7_years 51 = .ok (.aload_n 0, 1) := by decide +kernel
theorem dX7_years_52 : decode cX7_years 52 = .ok (.getfield 72, 3) := by decide +kernel
theorem dX7_years_55 : decode cX7_years 55 = .ok (.bipush 33, 2) := by decide +kernel
theorem dX7_years_57 : decode cX7_years 57 = .ok (.lushr, 1) := by decide +kernel
theorem dX7_years_58 : decode cX7_years 58 = .ok (.l2i, 1) := by decide +kernel
theorem dX7_years_59 : decode cX7_years 59 = .ok (.bipush 31, 2) := by decide +kernel
theorem dX7_years_61 : decode cX7_years 61 = .ok (.iand, 1) := by decide +kernel
theorem dX7_years_62 : decode cX7_years 62 = .ok (.invokevirtual 277, 3) := by decide +kernel
theorem dX7_years_65 : decode cX7_years 65 = .ok (.iload_n 2, 1) := by decide +kernel
theorem dX7_years_66 : decode cX7_years 66 = .ok (.aload_n 0, 1) := by decide +kernel
theorem dX7_years_67 : decode cX7_years 67 = .ok (.getfield 23, 3) := by decide +kernel
theorem dX7_years_70 : decode cX7_years 70 = .ok (.iconst 0, 1) := by decide +kernel
theorem dX7_years_71 : decode cX7_years 71 = .ok (.invokevirtual 208, 3) := by decide +kernel
theorem dX7_years_74 : decode cX7_years 74 = .ok (.iadd, 1) := by decide +kernel
theorem dX7_years_75 : decode cX7_years 75 = .ok (.istore_n 2, 1) := by decide +kernel
theorem dX7_years_76 : decode cX7_years 76 = .ok (.iinc 3 1, 3) := by decide +kernel
theorem dX7_years_79 : decode cX7_years 79 = .ok (.goto (-50), 3) := by decide +kernel
theorem dX7_years_82 : decode cX7_years 82 = .ok (.iload_n 2, 1) := by decide +kernel
theorem dX7_years_83 : decode cX7_years 83 = .ok (.ireturn, 1) := by decide +kernel
theorem dX7_doByChance_0 : decode cX7_doByChance 0 = .ok (.iload_n 1, 1) := by decide +kernel
theorem dX7_doByChance_1 : decode cX7_doByChance 1 = .ok (.bipush 16, 2) := by decide +kernel
theorem dX7_doByChance_3 : decode cX7_doByChance 3 = .ok (.if_icmp .ge 20, 3) := by decide +kernel
theorem dX7_doByChance_6 : decode cX7_doByChance 6 = .ok (.aload_n 0, 1) := by decide +kernel
theorem dX7_doByChance_7 : decode cX7_doByChance 7 = .ok (.getfield 23, 3) := by decide +kernel
theorem dX7_doByChance_10 : decode cX7_doByChance 10 = .ok (.iload_n 1, 1) := by decide +kernel
theorem dX7_doByChance_11 : decode cX7_doByChance 11 = .ok (.iconst 4, 1) := by decide +kernel
theorem dX7_doByChance_12 : decode cX7_doByChance 12 = .ok (.idiv, 1) := by decide +kernel
theorem dX7_doByChance_13 : decode cX7_doByChance 13 = .ok (.iload_n 1, 1) := by decide +kernel
theorem dX7_doByChance_14 : decode cX7_doByChance 14 = .ok (.iconst 4, 1) := by decide +kernel
theorem dX7_doByChance_15 : decode cX7_doByChance 15 = .ok (.irem, 1) := by decide +kernel
theorem dX7_doByChance_16 : decode cX7_doByChance 16 = .ok (.invokevirtual 151, 3) := by decide +kernel
theorem dX7_doByChance_19 : decode cX7_doByChance 19 = .ok (.pop, 1) := by decide +kernel
theorem dX7_doByChance_20 : decode cX7_doByChance 20 = .ok (.goto 57, 3) := by decide +kernel
theorem dX7_doByChance_23 : decode cX7_doByChance 23 = .ok (.iload_n 1, 1) := by decide +kernel
theorem dX7_doByChance_24 : decode cX7_doByChance 24 = .ok (.bipush 20, 2) := by decide +kernel
theorem dX7_doByChance_26 : decode cX7_doByChance 26 = .ok (.if_icmp .ge 18, 3) := by decide +kernel
theorem dX7_doByChance_29 : decode cX7_doByChance 29 = .ok (.aload_n 0, 1) := by decide +kernel
theorem dX7_doByChance_30 : decode cX7_doByChance 30 = .ok (.getfield 23, 3) := by decide +kernel
theorem dX7_doByChance_33 : decode cX7_doByChance 33 = .ok (.iload_n 1, 1) := by decide +kernel
theorem dX7_doByChance_34 : decode cX7_doByChance 34 = .ok (.bipush 16, 2) := by decide +kernel
theorem dX7_doByChance_36 : decode cX7_doByChance 36 = .ok (.isub, 1) := by decide +kernel
theorem dX7_doByChance_37 : decode cX7_doByChance 37 = .ok (.invokevirtual 155, 3) := by decide +kernel
theorem dX7_doByChance_40 : decode cX7_doByChance 40 = .ok (.pop, 1) := by decide +kernel
theorem dX7_doByChance_41 : decode cX7_doByChance 41 = .ok (.goto 36, 3) := by decide +kernel
theorem dX7_doByChance_44 : decode cX7_doByChance 44 = .ok (.iload_n 1, 1) := by decide +kernel
theorem dX7_doByChance_45 : decode cX7_doByChance 45 = .ok (.bipush 23, 2) := by decide +kernel
theorem dX7_doByChance_47 : decode cX7_doByChance 47 = .ok (.if_icmp .ge 22, 3) := by decide +kernel
theorem dX7_doByChance_50 : decode cX7_doByChance 50 = .ok (.aload_n 0, 1) := by decide +kernel
theorem dX7_doByChance_51 : decode cX7_doByChance 51 = .ok (.getfield 23, 3) := by decide +kernel
theorem dX7_doByChance_54 : decode cX7_doByChance 54 = .ok (.iload_n 1, 1) := by decide +kernel
theorem dX7_doByChance_55 : decode cX7_doByChance 55 = .ok (.bipush 20, 2) := by decide +kernel
theorem dX7_doByChance_57 : decode cX7_doByChance 57 = .ok (.isub, 1) := by decide +kernel
theorem dX7_doByChance_58 : decode cX7_doByChance 58 = .ok (.iload_n 1, 1) := by decide +kernel
theorem dX7_doByChance_59 : decode cX7_doByChance 59 = .ok (.bipush 19, 2) := by decide +kernel
theorem dX7_doByChance_61 : decode cX7_doByChance 61 = .ok (.isub, 1) := by decide +kernel
theorem dX7_doByChance_62 : decode cX7_doByChance 62 = .ok (.invokevirtual 161, 3) := by decide +kernel
theorem dX7_doByChance_65 : decode cX7_doByChance 65 = .ok (.pop, 1) := by decide +kernel
theorem dX7_doByChance_66 : decode cX7_doByChance 66 = .ok (.goto 11, 3) := by decide +kernel
theorem dX7_doByChance_69 : decode cX7_doByChance 69 = .ok (.aload_n 0, 1) := by decide +kernel
theorem dX7_doByChance_70 : decode cX7_doByChance 70 = .ok (.getfield 23, 3) := by decide +kernel
theorem dX7_doByChance_73 : decode cX7_doByChance 73 = .ok (.invokevirtual 145, 3) := by decide +kernel
theorem dX7_doByChance_76 : decode cX7_doByChance 76 = .ok (.pop, 1) := by decide +kernel
theorem dX7_doByChance_77 : decode cX7_doByChance 77 = .ok (.return_, 1) := by decide +kernel
theorem dX7_keep_0 : decode cX7_keep 0 = .ok (.aload_n 0, 1) := by decide +kernel
theorem dX7_keep_1 : decode cX7_keep 1 = .ok (.getfield 36, 3) := by decide +kernel
theorem dX7_keep_4 : decode cX7_keep 4 = .ok (.iload_n 1, 1) := by decide +kernel
theorem dX7_keep_5 : decode cX7_keep 5 = .ok (.aload_n 0, 1) := by decide +kernel
theorem dX7_keep_6 : decode cX7_keep 6 = .ok (.getfield 19, 3) := by decide +kernel
theorem dX7_keep_9 : decode cX7_keep 9 = .ok (.invokevirtual 280, 3) := by decide +kernel
theorem dX7_keep_12 : decode cX7_keep 12 = .ok (.ireturn, 1) := by decide +kernel
theorem dX7_again_0 : decode cX7_again 0 = .ok (.aload_n 0, 1) := by decide +kernel
theorem dX7_again_1 : decode cX7_again 1 = .ok (.getfield 36, 3) := by decide +kernel
theorem dX7_again_4 : decode cX7_again 4 = .ok (.iload_n 1, 1) := by decide +kernel
theorem dX7_again_5 : decode cX7_again 5 = .ok (.aload_n 0, 1) := by decide +kernel
theorem dX7_again_6 : decode cX7_again 6 = .ok (.getfield 19, 3) := by decide +kernel
theorem dX7_again_9 : decode cX7_again 9 = .ok (.invokevirtual 284, 3) := by decide +kernel
theorem dX7_again_12 : decode cX7_again 12 = .ok (.istore_n 2, 1) := by decide +kernel
theorem dX7_again_13 : decode cX7_again 13 = .ok (.iload_n 2, 1) := by decide +kernel
theorem dX7_again_14 : decode cX7_again 14 = .ok (.ifCond .lt 10, 3) := by decide +kernel
theorem dX7_again_17 : decode cX7_again 17 = .ok (.aload_n 0, 1) := by decide +kernel
theorem dX7_again_18 : decode cX7_again 18 = .ok (.getfield 29, 3) := by decide +kernel
theorem dX7_again_21 : decode cX7_again 21 = .ok (.invokevirtual 91, 3) := by decide +kernel
theorem dX7_again_24 : decode cX7_again 24 = .ok (.iload_n 2, 1) := by decide +kernel
theorem dX7_again_25 : decode cX7_again 25 = .ok (.ireturn, 1) := by decide +kernel
theorem dX7_count_0 : decode cX7_count 0 = .ok (.iload_n 1, 1) := by decide +kernel
theorem dX7_count_1 : decode cX7_count 1 = .ok (.tableswitch 124 0 8 #[51, 59, 67, 75, 84, 92, 100, 108, 116], 51) := by decide +kernel
theorem dX7_count_52 : decode cX7_count 52 = .ok (.aload_n 0, 1) := by decide +kernel
theorem dX7_count_53 : decode cX7_count 53 = .ok (.getfield 10, 3) := by decide +kernel
theorem dX7_count_56 : decode cX7_count 56 = .ok (.getfield 287, 3) := by decide +kernel
theorem dX7_count_59 : decode cX7_count 59 = .ok (.ireturn, 1) := by decide +kernel
theorem dX7_count_60 : decode cX7_count 60 = .ok (.aload_n 0, 1) := by decide +kernel
theorem dX7_count_61 : decode cX7_count 61 = .ok (.getfield 19, 3) := by decide +kernel
theorem dX7_count_64 : decode cX7_count 64 = .ok (.getfield 94, 3) := by decide +kernel
theorem dX7_count_67 : decode cX7_count 67 = .ok (.ireturn, 1) := by decide +kernel
theorem dX7_count_68 : decode cX7_count 68 = .ok (.aload_n 0, 1) := by decide +kernel
theorem dX7_count_69 : decode cX7_count 69 = .ok (.getfield 19, 3) := by decide +kernel
theorem dX7_count_72 : decode cX7_count 72 = .ok (.invokevirtual 174, 3) := by decide +kernel
theorem dX7_count_75 : decode cX7_count 75 = .ok (.ireturn, 1) := by decide +kernel
theorem dX7_count_76 : decode cX7_count 76 = .ok (.aload_n 0, 1) := by decide +kernel
theorem dX7_count_77 : decode cX7_count 77 = .ok (.getfield 19, 3) := by decide +kernel
theorem dX7_count_80 : decode cX7_count 80 = .ok (.iconst 0, 1) := by decide +kernel
theorem dX7_count_81 : decode cX7_count 81 = .ok (.invokevirtual 208, 3) := by decide +kernel
theorem dX7_count_84 : decode cX7_count 84 = .ok (.ireturn, 1) := by decide +kernel
theorem dX7_count_85 : decode cX7_count 85 = .ok (.aload_n 0, 1) := by decide +kernel
theorem dX7_count_86 : decode cX7_count 86 = .ok (.getfield 19, 3) := by decide +kernel
theorem dX7_count_89 : decode cX7_count 89 = .ok (.getfield 288, 3) := by decide +kernel
theorem dX7_count_92 : decode cX7_count 92 = .ok (.ireturn, 1) := by decide +kernel
theorem dX7_count_93 : decode cX7_count 93 = .ok (.aload_n 0, 1) := by decide +kernel
theorem dX7_count_94 : decode cX7_count 94 = .ok (.getfield 52, 3) := by decide +kernel
theorem dX7_count_97 : decode cX7_count 97 = .ok (.getfield 102, 3) := by decide +kernel
theorem dX7_count_100 : decode cX7_count 100 = .ok (.ireturn, 1) := by decide +kernel
theorem dX7_count_101 : decode cX7_count 101 = .ok (.aload_n 0, 1) := by decide +kernel
theorem dX7_count_102 : decode cX7_count 102 = .ok (.getfield 19, 3) := by decide +kernel
theorem dX7_count_105 : decode cX7_count 105 = .ok (.invokevirtual 291, 3) := by decide +kernel
theorem dX7_count_108 : decode cX7_count 108 = .ok (.ireturn, 1) := by decide +kernel
theorem dX7_count_109 : decode cX7_count 109 = .ok (.aload_n 0, 1) := by decide +kernel
theorem dX7_count_110 : decode cX7_count 110 = .ok (.getfield 29, 3) := by decide +kernel
theorem dX7_count_113 : decode cX7_count 113 = .ok (.getfield 294, 3) := by decide +kernel
theorem dX7_count_116 : decode cX7_count 116 = .ok (.ireturn, 1) := by decide +kernel
theorem dX7_count_117 : decode cX7_count 117 = .ok (.aload_n 0, 1) := by decide +kernel
theorem dX7_count_118 : decode cX7_count 118 = .ok (.getfield 43, 3) := by decide +kernel
theorem dX7_count_121 : decode cX7_count 121 = .ok (.getfield 295, 3) := by decide +kernel
theorem dX7_count_124 : decode cX7_count 124 = .ok (.ireturn, 1) := by decide +kernel
theorem dX7_count_125 : decode cX7_count 125 = .ok (.bipush (-2), 2) := by decide +kernel
theorem dX7_count_127 : decode cX7_count 127 = .ok (.ireturn, 1) := by decide +kernel
theorem dX8_init_0 : decode cX8_init 0 = .ok (.aload_n 0, 1) := by decide +kernel
theorem dX8_init_1 : decode cX8_init 1 = .ok (.invokespecial 1, 3) := by decide +kernel
theorem dX8_init_4 : decode cX8_init 4 = .ok (.aload_n 0, 1) := by decide +kernel
theorem dX8_init_5 : decode cX8_init 5 = .ok (.iconst 4, 1) := by decide +kernel
theorem dX8_init_6 : decode cX8_init 6 = .ok (.newarray .int, 2) := by decide +kernel
theorem dX8_init_8 : decode cX8_init 8 = .ok (.putfield 7, 3) := by decide +kernel
theorem dX8_init_11 : decode cX8_init 11 = .ok (.aload_n 0, 1) := by decide +kernel
theorem dX8_init_12 : decode cX8_init 12 = .ok (.bipush 114, 2) := by decide +kernel
theorem dX8_init_14 : decode cX8_init 14 = .ok (.newarray .int, 2) := by decide +kernel
theorem dX8_init_16 : decode cX8_init 16 = .ok (.putfield 13, 3) := by decide +kernel
theorem dX8_init_19 : decode cX8_init 19 = .ok (.aload_n 0, 1) := by decide +kernel
theorem dX8_init_20 : decode cX8_init 20 = .ok (.bipush 8, 2) := by decide +kernel
theorem dX8_init_22 : decode cX8_init 22 = .ok (.newarray .int, 2) := by decide +kernel
theorem dX8_init_24 : decode cX8_init 24 = .ok (.putfield 16, 3) := by decide +kernel
theorem dX8_init_27 : decode cX8_init 27 = .ok (.aload_n 0, 1) := by decide +kernel
theorem dX8_init_28 : decode cX8_init 28 = .ok (.iconst 4, 1) := by decide +kernel
theorem dX8_init_29 : decode cX8_init 29 = .ok (.newarray .int, 2) := by decide +kernel
theorem dX8_init_31 : decode cX8_init 31 = .ok (.putfield 19, 3) := by decide +kernel
theorem dX8_init_34 : decode cX8_init 34 = .ok (.aload_n 0, 1) := by decide +kernel
theorem dX8_init_35 : decode cX8_init 35 = .ok (.bipush 24, 2) := by decide +kernel
theorem dX8_init_37 : decode cX8_init 37 = .ok (.newarray .int, 2) := by decide +kernel
theorem dX8_init_39 : decode cX8_init 39 = .ok (.putfield 22, 3) := by decide +kernel
theorem dX8_init_42 : decode cX8_init 42 = .ok (.aload_n 0, 1) := by decide +kernel
theorem dX8_init_43 : decode cX8_init 43 = .ok (.bipush 48, 2) := by decide +kernel
theorem dX8_init_45 : decode cX8_init 45 = .ok (.newarray .int, 2) := by decide +kernel
theorem dX8_init_47 : decode cX8_init 47 = .ok (.putfield 25, 3) := by decide +kernel
theorem dX8_init_50 : decode cX8_init 50 = .ok (.aload_n 0, 1) := by decide +kernel
theorem dX8_init_51 : decode cX8_init 51 = .ok (.bipush 12, 2) := by decide +kernel
theorem dX8_init_53 : decode cX8_init 53 = .ok (.newarray .int, 2) := by decide +kernel
theorem dX8_init_55 : decode cX8_init 55 = .ok (.putfield 28, 3) := by decide +kernel
theorem dX8_init_58 : decode cX8_init 58 = .ok (.aload_n 0, 1) := by decide +kernel
theorem dX8_init_59 : decode cX8_init 59 = .ok (.sipush 798, 3) := by decide +kernel
theorem dX8_init_62 : decode cX8_init 62 = .ok (.newarray .int, 2) := by decide +kernel
theorem dX8_init_64 : decode cX8_init 64 = .ok (.putfield 31, 3) := by decide +kernel
theorem dX8_init_67 : decode cX8_init 67 = .ok (.aload_n 0, 1) := by decide +kernel
theorem dX8_init_68 : decode cX8_init 68 = .ok (.bipush 48, 2) := by decide +kernel
theorem dX8_init_70 : decode cX8_init 70 = .ok (.newarray .int, 2) := by decide +kernel
theorem dX8_init_72 : decode cX8_init 72 = .ok (.putfield 34, 3) := by decide +kernel
theorem dX8_init_75 : decode cX8_init 75 = .ok (.aload_n 0, 1) := by decide +kernel
theorem dX8_init_76 : decode cX8_init 76 = .ok (.bipush 6, 2) := by decide +kernel
theorem dX8_init_78 : decode cX8_init 78 = .ok (.newarray .int, 2) := by decide +kernel
theorem dX8_init_80 : decode cX8_init 80 = .ok (.putfield 37, 3) := by decide +kernel
theorem dX8_init_83 : decode cX8_init 83 = .ok (.aload_n 0, 1) := by decide +kernel
theorem dX8_init_84 : decode cX8_init 84 = .ok (.bipush 6, 2) := by decide +kernel
theorem dX8_init_86 : decode cX8_init 86 = .ok (.newarray .int, 2) := by decide +kernel
theorem dX8_init_88 : decode cX8_init 88 = .ok (.putfield 40, 3) := by decide +kernel
theorem dX8_init_91 : decode cX8_init 91 = .ok (.aload_n 0, 1) := by decide +kernel
theorem dX8_init_92 : decode cX8_init 92 = .ok (.iconst 2, 1) := by decide +kernel
theorem dX8_init_93 : decode cX8_init 93 = .ok (.newarray .boolean, 2) := by decide +kernel
theorem dX8_init_95 : decode cX8_init 95 = .ok (.putfield 43, 3) := by decide +kernel
theorem dX8_init_98 : decode cX8_init 98 = .ok (.aload_n 0, 1) := by decide +kernel
theorem dX8_init_99 : decode cX8_init 99 = .ok (.bipush 114, 2) := by decide +kernel
theorem dX8_init_101 : decode cX8_init 101 = .ok (.newarray .int, 2) := by decide +kernel
theorem dX8_init_103 : decode cX8_init 103 = .ok (.putfield 47, 3) := by decide +kernel
theorem dX8_init_106 : decode cX8_init 106 = .ok (.return_, 1) := by decide +kernel
theorem dX8_in_0 : decode cX8_in 0 = .ok (.lload_n 0, 1) := by decide +kernel
theorem dX8_in_1 : decode cX8_in 1 = .ok (.lload_n 2, 1) := by decide +kernel
theorem dX8_in_2 : decode cX8_in 2 = .ok (.lcmp, 1) := by decide +kernel
theorem dX8_in_3 : decode cX8_in 3 = .ok (.ifCond .lt 14, 3) := by decide +kernel
theorem dX8_in_6 : decode cX8_in 6 = .ok (.lload_n 0, 1) := by decide +kernel
theorem dX8_in_7 : decode cX8_in 7 = .ok (.lload 4, 2) := by decide +kernel
theorem dX8_in_9 : decode cX8_in 9 = .ok (.lcmp, 1) := by decide +kernel
theorem dX8_in_10 : decode cX8_in 10 = .ok (.ifCond .gt 7, 3) := by decide +kernel
theorem dX8_in_13 : decode cX8_in 13 = .ok (.iconst 1, 1) := by decide +kernel
theorem dX8_in_14 : decode cX8_in 14 = .ok (.goto 4, 3) := by decide +kernel
theorem dX8_in_17 : decode cX8_in 17 = .ok (.iconst 0, 1) := by decide +kernel
theorem dX8_in_18 : decode cX8_in 18 = .ok (.ireturn, 1) := by decide +kernel
theorem dX8_has_0 : decode cX8_has 0 = .ok (.iload_n 0, 1) := by decide +kernel
theorem dX8_has_1 : decode cX8_has 1 = .ok (.iload_n 1, 1) := by decide +kernel
theorem dX8_has_2 : decode cX8_has 2 = .ok (.ishr, 1) := by decide +kernel
theorem dX8_has_3 : decode cX8_has 3 = .ok (.iconst 1, 1) := by decide +kernel
theorem dX8_has_4 : decode cX8_has 4 = .ok (.iand, 1) := by decide +kernel
theorem dX8_has_5 : decode cX8_has 5 = .ok (.iconst 1, 1) := by decide +kernel
theorem dX8_has_6 : decode cX8_has 6 = .ok (.if_icmp .ne 7, 3) := by decide +kernel
theorem dX8_has_9 : decode cX8_has 9 = .ok (.iconst 1, 1) := by decide +kernel
theorem dX8_has_10 : decode cX8_has 10 = .ok (.goto 4, 3) := by decide +kernel
theorem dX8_has_13 : decode cX8_has 13 = .ok (.iconst 0, 1) := by decide +kernel
theorem dX8_has_14 : decode cX8_has 14 = .ok (.ireturn, 1) := by decide +kernel
theorem dX8_ones_0 : decode cX8_ones 0 = .ok (.iconst 0, 1) := by decide +kernel
theorem dX8_ones_1 : decode cX8_ones 1 = .ok (.istore_n 1, 1) := by decide +kernel
theorem dX8_ones_2 : decode cX8_ones 2 = .ok (.iconst 0, 1) := by decide +kernel
theorem dX8_ones_3 : decode cX8_ones 3 = .ok (.istore_n 2, 1) := by decide +kernel
theorem dX8_ones_4 : decode cX8_ones 4 = .ok (.iload_n 2, 1) := by decide +kernel
theorem dX8_ones_5 : decode cX8_ones 5 = .ok (.bipush 12, 2) := by decide +kernel
theorem dX8_ones_7 : decode cX8_ones 7 = .ok (.if_icmp .ge 17, 3) := by decide +kernel
theorem dX8_ones_10 : decode cX8_ones 10 = .ok (.iload_n 1, 1) := by decide +kernel
theorem dX8_ones_11 : decode cX8_ones 11 = .ok (.iload_n 0, 1) := by decide +kernel
theorem dX8_ones_12 : decode cX8_ones 12 = .ok (.iload_n 2, 1) := by decide +kernel
theorem dX8_ones_13 : decode cX8_ones 13 = .ok (.ishr, 1) := by decide +kernel
theorem dX8_ones_14 : decode cX8_ones 14 = .ok (.iconst 1, 1) := by decide +kernel
theorem dX8_ones_15 : decode cX8_ones 15 = .ok (.iand, 1) := by decide +kernel
theorem dX8_ones_16 : decode cX8_ones 16 = .ok (.iadd, 1) := by decide +kernel
theorem dX8_ones_17 : decode cX8_ones 17 = .ok (.istore_n 1, 1) := by decide +kernel
theorem dX8_ones_18 : decode cX8_ones 18 = .ok (.iinc 2 1, 3) := by decide +kernel
theorem dX8_ones_21 : decode cX8_ones 21 = .ok (.goto (-17), 3) := by decide +kernel
theorem dX8_ones_24 : decode cX8_ones 24 = .ok (.iload_n 1, 1) := by decide +kernel
theorem dX8_ones_25 : decode cX8_ones 25 = .ok (.ireturn, 1) := by decide +kernel
theorem dX8_write_0 : decode cX8_write 0 = .ok (.iload_n 1, 1) := by decide +kernel
theorem dX8_write_1 : decode cX8_write 1 = .ok (.i2l, 1) := by decide +kernel
theorem dX8_write_2 : decode cX8_write 2 = .ok (.lconst 0, 1) := by decide +kernel
theorem dX8_write_3 : decode cX8_write 3 = .ok (.ldc2_w 50, 3) := by decide +kernel
theorem dX8_write_6 : decode cX8_write 6 = .ok (.invokestatic 52, 3) := by decide +kernel
theorem dX8_write_9 : decode cX8_write 9 = .ok (.ifCond .ne 6, 3) := by decide +kernel
theorem dX8_write_12 : decode cX8_write 12 = .ok (.bipush (-2), 2) := by decide +kernel
theorem dX8_write_14 : decode cX8_write 14 = .ok (.ireturn, 1) := by decide +kernel
theorem dX8_write_15 : decode cX8_write 15 = .ok (.aload_n 0, 1) := by decide +kernel
theorem dX8_write_16 : decode cX8_write 16 = .ok (.getfield 56, 3) := by decide +kernel
theorem dX8_write_19 : decode cX8_write 19 = .ok (.bipush 48, 2) := by decide +kernel
theorem dX8_write_21 : decode cX8_write 21 = .ok (.if_icmp .ne 6, 3) := by decide +kernel
theorem dX8_write_24 : decode cX8_write 24 = .ok (.bipush (-4), 2) := by decide +kernel
theorem dX8_write_26 : decode cX8_write 26 = .ok (.ireturn, 1) := by decide +kernel
theorem dX8_write_27 : decode cX8_write 27 = .ok (.aload_n 0, 1) := by decide +kernel
theorem dX8_write_28 : decode cX8_write 28 = .ok (.getfield 25, 3) := by decide +kernel
theorem dX8_write_31 : decode cX8_write 31 = .ok (.aload_n 0, 1) := by decide +kernel
theorem dX8_write_32 : decode cX8_write 32 = .ok (.getfield 56, 3) := by decide +kernel
theorem dX8_write_35 : decode cX8_write 35 = .ok (.iload_n 1, 1) := by decide +kernel
theorem dX8_write_36 : decode cX8_write 36 = .ok (.iastore, 1) := by decide +kernel
theorem dX8_write_37 : decode cX8_write 37 = .ok (.aload_n 0, 1) := by decide +kernel
theorem dX8_write_38 : decode cX8_write 38 = .ok (.dup, 1) := by decide +kernel
theorem dX8_write_39 : decode cX8_write 39 = .ok (.getfield 56, 3) := by decide +kernel
theorem dX8_write_42 : decode cX8_write 42 = .ok (.iconst 1, 1) := by decide +kernel
theorem dX8_write_43 : decode cX8_write 43 = .ok (.iadd, 1) := by decide +kernel
theorem dX8_write_44 : decode cX8_write 44 = .ok (.putfield 56, 3) := by decide +kernel
theorem dX8_write_47 : decode cX8_write 47 = .ok (.aload_n 0, 1) := by decide +kernel
theorem dX8_write_48 : decode cX8_write 48 = .ok (.getfield 56, 3) := by decide +kernel
theorem dX8_write_51 : decode cX8_write 51 = .ok (.ireturn, 1) := by decide +kernel
theorem dX8_wipe_0 : decode cX8_wipe 0 = .ok (.aload_n 0, 1) := by decide +kernel
theorem dX8_wipe_1 : decode cX8_wipe 1 = .ok (.getfield 56, 3) := by decide +kernel
theorem dX8_wipe_4 : decode cX8_wipe 4 = .ok (.istore_n 1, 1) := by decide +kernel
theorem dX8_wipe_5 : decode cX8_wipe 5 = .ok (.aload_n 0, 1) := by decide +kernel
theorem dX8_wipe_6 : decode cX8_wipe 6 = .ok (.iconst 0, 1) := by decide +kernel
theorem dX8_wipe_7 : decode cX8_wipe 7 = .ok (.putfield 56, 3) := by decide +kernel
theorem dX8_wipe_10 : decode cX8_wipe 10 = .ok (.iload_n 1, 1) := by decide +kernel
theorem dX8_wipe_11 : decode cX8_wipe 11 = .ok (.ireturn, 1) := by decide +kernel
theorem dX8_nextOf_0 : decode cX8_nextOf 0 = .ok (.aload_n 0, 1) := by decide +kernel
theorem dX8_nextOf_1 : decode cX8_nextOf 1 = .ok (.getfield 60, 3) := by decide +kernel
theorem dX8_nextOf_4 : decode cX8_nextOf 4 = .ok (.bipush (-9), 2) := by decide +kernel
theorem dX8_nextOf_6 : decode cX8_nextOf 6 = .ok (.if_icmp .ne 18, 3) := by decide +kernel
theorem dX8_nextOf_9 : decode cX8_nextOf 9 = .ok (.aload_n 0, 1) := by decide +kernel
theorem dX8_nextOf_10 : decode cX8_nextOf 10 = .ok (.getfield 63, 3) := by decide +kernel
theorem dX8_nextOf_13 : decode cX8_nextOf 13 = .ok (.aload_n 0, 1) := by decide +kernel
theorem dX8_nextOf_14 : decode cX8_nextOf 14 = .ok (.getfield 56, 3) := by decide +kernel
theorem dX8_nextOf_17 : decode cX8_nextOf 17 = .ok (.if_icmp .ge 7, 3) := by decide +kernel
theorem dX8_nextOf_20 : decode cX8_nextOf 20 = .ok (.iconst 1, 1) := by decide +kernel
theorem dX8_nextOf_21 : decode cX8_nextOf 21 = .ok (.goto 4, 3) := by decide +kernel
theorem dX8_nextOf_24 : decode cX8_nextOf 24 = .ok (.iconst 0, 1) := by decide +kernel
theorem dX8_nextOf_25 : decode cX8_nextOf 25 = .ok (.istore_n 3, 1) := by decide +kernel
theorem dX8_nextOf_26 : decode cX8_nextOf 26 = .ok (.iload_n 3, 1) := by decide +kernel
theorem dX8_nextOf_27 : decode cX8_nextOf 27 = .ok (.ifCond .eq 17, 3) := by decide +kernel
theorem dX8_nextOf_30 : decode cX8_nextOf 30 = .ok (.aload_n 0, 1) := by decide +kernel
theorem dX8_nextOf_31 : decode cX8_nextOf 31 = .ok (.getfield 25, 3) := by decide +kernel
theorem dX8_nextOf_34 : decode cX8_nextOf 34 = .ok (.aload_n 0, 1) := by decide +kernel
theorem dX8_nextOf_35 : decode cX8_nextOf 35 = .ok (.getfield 63, 3) := by decide +kernel
theorem dX8_nextOf_38 : decode cX8_nextOf 38 = .ok (.iaload, 1) := by decide +kernel
theorem dX8_nextOf_39 : decode cX8_nextOf 39 = .ok (.iload_n 1, 1) := by decide +kernel
theorem dX8_nextOf_40 : decode cX8_nextOf 40 = .ok (.isub, 1) := by decide +kernel
theorem dX8_nextOf_41 : decode cX8_nextOf 41 = .ok (.goto 4, 3) := by decide +kernel
theorem dX8_nextOf_44 : decode cX8_nextOf 44 = .ok (.iconst 0, 1) := by decide +kernel
theorem dX8_nextOf_45 : decode cX8_nextOf 45 = .ok (.istore 4, 2) := by decide +kernel
theorem dX8_nextOf_47 : decode cX8_nextOf 47 = .ok (.iload_n 3, 1) := by decide +kernel
theorem dX8_nextOf_48 : decode cX8_nextOf 48 = .ok (.ifCond .eq 15, 3) := by decide +kernel
theorem dX8_nextOf_51 : decode cX8_nextOf 51 = .ok (.iload 4, 2) := by decide +kernel
theorem dX8_nextOf_53 : decode cX8_nextOf 53 = .ok (.i2l, 1) := by decide +kernel
theorem dX8_nextOf_54 : decode cX8_nextOf 54 = .ok (.lconst 0, 1) := by decide +kernel
theorem dX8_nextOf_55 : decode cX8_nextOf 55 = .ok (.iload_n 2, 1) := by decide +kernel
theorem dX8_nextOf_56 : decode cX8_nextOf 56 = .ok (.i2l, 1) := by decide +kernel
theorem dX8_nextOf_57 : decode cX8_nextOf 57 = .ok (.invokestatic 52, 3) := by decide +kernel
theorem dX8_nextOf_60 : decode cX8_nextOf 60 = .ok (.ifCond .ne 29, 3) := by decide +kernel
theorem dX8_nextOf_63 : decode cX8_nextOf 63 = .ok (.aload_n 0, 1) := by decide +kernel
theorem dX8_nextOf_64 : decode cX8_nextOf 64 = .ok (.aload_n 0, 1) := by decide +kernel
theorem dX8_nextOf_65 : decode cX8_nextOf 65 = .ok (.getfield 60, 3) := by decide +kernel
theorem dX8_nextOf_68 : decode cX8_nextOf 68 = .ok (.bipush (-9), 2) := by decide +kernel
theorem dX8_nextOf_70 : decode cX8_nextOf 70 = .ok (.if_icmp .ne 10, 3) := by decide +kernel
theorem dX8_nextOf_73 : decode cX8_nextOf 73 = .ok (.aload_n 0, 1) := by decide +kernel
theorem dX8_nextOf_74 : decode cX8_nextOf 74 = .ok (.getfield 63, 3) := by decide +kernel
theorem dX8_nextOf_77 : decode cX8_nextOf 77 = .ok (.goto 7, 3) := by decide +kernel
theorem dX8_nextOf_80 : decode cX8_nextOf 80 = .ok (.aload_n 0, 1) := by decide +kernel
theorem dX8_nextOf_81 : decode cX8_nextOf 81 = .ok (.getfield 60, 3) := by decide +kernel
theorem dX8_nextOf_84 : decode cX8_nextOf 84 = .ok (.putfield 60, 3) := by decide +kernel
theorem dX8_nextOf_87 : decode cX8_nextOf 87 = .ok (.iconst 0, 1) := by decide +kernel
theorem dX8_nextOf_88 : decode cX8_nextOf 88 = .ok (.ireturn, 1) := by decide +kernel
theorem dX8_nextOf_89 : decode cX8_nextOf 89 = .ok (.aload_n 0, 1) := by decide +kernel
theorem dX8_nextOf_90 : decode cX8_nextOf 90 = .ok (.dup, 1) := by decide +kernel
theorem dX8_nextOf_91 : decode cX8_nextOf 91 = .ok (.getfield 63, 3) := by decide +kernel
theorem dX8_nextOf_94 : decode cX8_nextOf 94 = .ok (.iconst 1, 1) := by decide +kernel
theorem dX8_nextOf_95 : decode cX8_nextOf 95 = .ok (.iadd, 1) := by decide +kernel
theorem dX8_nextOf_96 : decode cX8_nextOf 96 = .ok (.putfield 63, 3) := by decide +kernel
theorem dX8_nextOf_99 : decode cX8_nextOf 99 = .ok (.iload 4, 2) := by decide +kernel
theorem dX8_nextOf_101 : decode cX8_nextOf 101 = .ok (.ireturn, 1) := by decide +kernel
theorem dX8_isBend_0 : decode cX8_isBend 0 = .ok (.aload_n 0, 1) := by decide +kernel
theorem dX8_isBend_1 : decode cX8_isBend 1 = .ok (.getfield 60, 3) := by decide +kernel
theorem dX8_isBend_4 : decode cX8_isBend 4 = .ok (.bipush (-9), 2) := by decide +kernel
theorem dX8_isBend_6 : decode cX8_isBend 6 = .ok (.if_icmp .ne 40, 3) := by decide +kernel
theorem dX8_isBend_9 : decode cX8_isBend 9 = .ok (.aload_n 0, 1) := by decide +kernel
theorem dX8_isBend_10 : decode cX8_isBend 10 = .ok (.getfield 63, 3) := by decide +kernel
theorem dX8_isBend_13 : decode cX8_isBend 13 = .ok (.aload_n 0, 1) := by decide +kernel
theorem dX8_isBend_14 : decode cX8_isBend 14 = .ok (.getfield 56, 3) := by decide +kernel
theorem dX8_isBend_17 : decode cX8_isBend 17 = .ok (.if_icmp .ge 29, 3) := by decide +kernel
theorem dX8_isBend_20 : decode cX8_isBend 20 = .ok (.aload_n 0, 1) := by decide +kernel
theorem dX8_isBend_21 : decode cX8_isBend 21 = .ok (.getfield 25, 3) := by decide +kernel
theorem dX8_isBend_24 : decode cX8_isBend 24 = .ok (.aload_n 0, 1) := by decide +kernel
theorem dX8_isBend_25 : decode cX8_isBend 25 = .ok (.getfield 63, 3) := by decide +kernel
theorem dX8_isBend_28 : decode cX8_isBend 28 = .ok (.iaload, 1) := by decide +kernel
theorem dX8_isBend_29 : decode cX8_isBend 29 = .ok (.i2l, 1) := by decide +kernel
theorem dX8_isBend_30 : decode cX8_isBend 30 = .ok (.ldc2_w 66, 3) := by decide +kernel
theorem dX8_isBend_33 : decode cX8_isBend 33 = .ok (.ldc2_w 68, 3) := by decide +kernel
theorem dX8_isBend_36 : decode cX8_isBend 36 = .ok (.invokestatic 52, 3) := by decide +kernel
theorem dX8_isBend_39 : decode cX8_isBend 39 = .ok (.ifCond .eq 7, 3) := by decide +kernel
theorem dX8_isBend_42 : decode cX8_isBend 42 = .ok (.iconst 1, 1) := by decide +kernel
theorem dX8_isBend_43 : decode cX8_isBend 43 = .ok (.goto 4, 3) := by decide +kernel
theorem dX8_isBend_46 : decode cX8_isBend 46 = .ok (.iconst 0, 1) := by decide +kernel
theorem dX8_isBend_47 : decode cX8_isBend 47 = .ok (.ireturn, 1) := by decide +kernel
theorem dX8_readText_0 : decode cX8_readText 0 = .ok (.aload_n 0, 1) := by decide +kernel
theorem dX8_readText_1 : decode cX8_readText 1 = .ok (.iconst 0, 1) := by decide +kernel
theorem dX8_readText_2 : decode cX8_readText 2 = .ok (.putfield 63, 3) := by decide +kernel
theorem dX8_readText_5 : decode cX8_readText 5 = .ok (.aload_n 0, 1) := by decide +kernel
theorem dX8_readText_6 : decode cX8_readText 6 = .ok (.bipush (-9), 2) := by decide +kernel
theorem dX8_readText_8 : decode cX8_readText 8 = .ok (.putfield 60, 3) := by decide +kernel
theorem dX8_readText_11 : decode cX8_readText 11 = .ok (.aload_n 0, 1) := by decide +kernel
theorem dX8_readText_12 : decode cX8_readText 12 = .ok (.iconst 0, 1) := by decide +kernel
theorem dX8_readText_13 : decode cX8_readText 13 = .ok (.putfield 70, 3) := by decide +kernel
theorem dX8_readText_16 : decode cX8_readText 16 = .ok (.aload_n 0, 1) := by decide +kernel
theorem dX8_readText_17 : decode cX8_readText 17 = .ok (.getfield 56, 3) := by decide +kernel
theorem dX8_readText_20 : decode cX8_readText 20 = .ok (.ifCond .eq 14, 3) := by decide +kernel
theorem dX8_readText_23 : decode cX8_readText 23 = .ok (.aload_n 0, 1) := by decide +kernel
theorem dX8_readText_24 : decode cX8_readText 24 = .ok (.getfield 25, 3) := by decide +kernel
theorem dX8_readText_27 : decode cX8_readText 27 = .ok (.iconst 0, 1) := by decide +kernel
theorem dX8_readText_28 : decode cX8_readText 28 = .ok (.iaload, 1) := by decide +kernel
theorem dX8_readText_29 : decode cX8_readText 29 = .ok (.bipush 84, 2) := by decide +kernel
theorem dX8_readText_31 : decode cX8_readText 31 = .ok (.if_icmp .eq 5, 3) := by decide +kernel
theorem dX8_readText_34 : decode cX8_readText 34 = .ok (.iconst 0, 1) := by decide +kernel
theorem dX8_readText_35 : decode cX8_readText 35 = .ok (.ireturn, 1) := by decide +kernel
theorem dX8_readText_36 : decode cX8_readText 36 = .ok (.aload_n 0, 1) := by decide +kernel
theorem dX8_readText_37 : decode cX8_readText 37 = .ok (.iconst 1, 1) := by decide +kernel
theorem dX8_readText_38 : decode cX8_readText 38 = .ok (.putfield 63, 3) := by decide +kernel
theorem dX8_readText_41 : decode cX8_readText 41 = .ok (.aload_n 0, 1) := by decide +kernel
theorem dX8_readText_42 : decode cX8_readText 42 = .ok (.getfield 60, 3) := by decide +kernel
theorem dX8_readText_45 : decode cX8_readText 45 = .ok (.bipush (-9), 2) := by decide +kernel
theorem dX8_readText_47 : decode cX8_readText 47 = .ok (.if_icmp .ne 30, 3) := by decide +kernel
theorem dX8_readText_50 : decode cX8_readText 50 = .ok (.aload_n 0, 1) := by decide +kernel
theorem dX8_readText_51 : decode cX8_readText 51 = .ok (.getfield 63, 3) := by decide +kernel
theorem dX8_readText_54 : decode cX8_readText 54 = .ok (.aload_n 0, 1) := by decide +kernel
theorem dX8_readText_55 : decode cX8_readText 55 = .ok (.getfield 56, 3) := by decide +kernel
theorem dX8_readText_58 : decode cX8_readText 58 = .ok (.if_icmp .ge 19, 3) := by decide +kernel
theorem dX8_readText_61 : decode cX8_readText 61 = .ok (.aload_n 0, 1) := by decide +kernel
theorem dX8_readText_62 : decode cX8_readText 62 = .ok (.aload_n 0, 1) := by decide +kernel
theorem dX8_readText_63 : decode cX8_readText 63 = .ok (.getfield 25, 3) := by decide +kernel
theorem dX8_readText_66 : decode cX8_readText 66 = .ok (.aload_n 0, 1) := by decide +kernel
theorem dX8_readText_67 : decode cX8_readText 67 = .ok (.getfield 63, 3) := by decide +kernel
theorem dX8_readText_70 : decode cX8_readText 70 = .ok (.iaload, 1) := by decide +kernel
theorem dX8_readText_71 : decode cX8_readText 71 = .ok (.invokevirtual 73, 3) := by decide +kernel
theorem dX8_readText_74 : decode cX8_readText 74 = .ok (.goto (-33), 3) := by decide +kernel
theorem dX8_readText_77 : decode cX8_readText 77 = .ok (.aload_n 0, 1) := by decide +kernel
theorem dX8_readText_78 : decode cX8_readText 78 = .ok (.getfield 60, 3) := by decide +kernel
theorem dX8_readText_81 : decode cX8_readText 81 = .ok (.ireturn, 1) := by decide +kernel
theorem dX8_readPart_0 : decode cX8_readPart 0 = .ok (.iload_n 1, 1) := by decide +kernel
theorem dX8_readPart_1 : decode cX8_readPart 1 = .ok (.bipush 83, 2) := by decide +kernel
theorem dX8_readPart_3 : decode cX8_readPart 3 = .ok (.if_icmp .ne 11, 3) := by decide +kernel
theorem dX8_readPart_6 : decode cX8_readPart 6 = .ok (.aload_n 0, 1) := by decide +kernel
theorem dX8_readPart_7 : decode cX8_readPart 7 = .ok (.getfield 70, 3) := by decide +kernel
theorem dX8_readPart_10 : decode cX8_readPart 10 = .ok (.iconst 4, 1) := by decide +kernel
theorem dX8_readPart_11 : decode cX8_readPart 11 = .ok (.if_icmp .ne 12, 3) := by decide +kernel
theorem dX8_readPart_14 : decode cX8_readPart 14 = .ok (.aload_n 0, 1) := by decide +kernel
theorem dX8_readPart_15 : decode cX8_readPart 15 = .ok (.aload_n 0, 1) := by decide +kernel
theorem dX8_readPart_16 : decode cX8_readPart 16 = .ok (.getfield 63, 3) := by decide +kernel
theorem dX8_readPart_19 : decode cX8_readPart 19 = .ok (.putfield 60, 3) := by decide +kernel
theorem dX8_readPart_22 : decode cX8_readPart 22 = .ok (.return_, 1) := by decide +kernel
theorem dX8_readPart_23 : decode cX8_readPart 23 = .ok (.aload_n 0, 1) := by decide +kernel
theorem dX8_readPart_24 : decode cX8_readPart 24 = .ok (.dup, 1) := by decide +kernel
theorem dX8_readPart_25 : decode cX8_readPart 25 = .ok (.getfield 63, 3) := by decide +kernel
theorem dX8_readPart_28 : decode cX8_readPart 28 = .ok (.iconst 1, 1) := by decide +kernel
theorem dX8_readPart_29 : decode cX8_readPart 29 = .ok (.iadd, 1) := by decide +kernel
theorem dX8_readPart_30 : decode cX8_readPart 30 = .ok (.putfield 63, 3) := by decide +kernel
theorem dX8_readPart_33 : decode cX8_readPart 33 = .ok (.aload_n 0, 1) := by decide +kernel
theorem dX8_readPart_34 : decode cX8_readPart 34 = .ok (.getfield 16, 3) := by decide +kernel
theorem dX8_readPart_37 : decode cX8_readPart 37 = .ok (.iconst 2, 1) := by decide +kernel
theorem dX8_readPart_38 : decode cX8_readPart 38 = .ok (.aload_n 0, 1) := by decide +kernel
theorem dX8_readPart_39 : decode cX8_readPart 39 = .ok (.getfield 70, 3) := by decide +kernel
theorem dX8_readPart_42 : decode cX8_readPart 42 = .ok (.imul, 1) := by decide +kernel
theorem dX8_readPart_43 : decode cX8_readPart 43 = .ok (.aload_n 0, 1) := by decide +kernel
theorem dX8_readPart_44 : decode cX8_readPart 44 = .ok (.bipush 48, 2) := by decide +kernel
theorem dX8_readPart_46 : decode cX8_readPart 46 = .ok (.iconst 3, 1) := by decide +kernel
theorem dX8_readPart_47 : decode cX8_readPart 47 = .ok (.invokevirtual 77, 3) := by decide +kernel
theorem dX8_readPart_50 : decode cX8_readPart 50 = .ok (.iastore, 1) := by decide +kernel
theorem dX8_readPart_51 : decode cX8_readPart 51 = .ok (.aload_n 0, 1) := by decide +kernel
theorem dX8_readPart_52 : decode cX8_readPart 52 = .ok (.getfield 16, 3) := by decide +kernel
theorem dX8_readPart_55 : decode cX8_readPart 55 = .ok (.iconst 2, 1) := by decide +kernel
theorem dX8_readPart_56 : decode cX8_readPart 56 = .ok (.aload_n 0, 1) := by decide +kernel
theorem dX8_readPart_57 : decode cX8_readPart 57 = .ok (.getfield 70, 3) := by decide +kernel
theorem dX8_readPart_60 : decode cX8_readPart 60 = .ok (.imul, 1) := by decide +kernel
theorem dX8_readPart_61 : decode cX8_readPart 61 = .ok (.iconst 1, 1) := by decide +kernel
theorem dX8_readPart_62 : decode cX8_readPart 62 = .ok (.iadd, 1) := by decide +kernel
theorem dX8_readPart_63 : decode cX8_readPart 63 = .ok (.aload_n 0, 1) := by decide +kernel
theorem dX8_readPart_64 : decode cX8_readPart 64 = .ok (.bipush 48, 2) := by decide +kernel
theorem dX8_readPart_66 : decode cX8_readPart 66 = .ok (.iconst 3, 1) := by decide +kernel
theorem dX8_readPart_67 : decode cX8_readPart 67 = .ok (.invokevirtual 77, 3) := by decide +kernel
theorem dX8_readPart_70 : decode cX8_readPart 70 = .ok (.iastore, 1) := by decide +kernel
theorem dX8_readPart_71 : decode cX8_readPart 71 = .ok (.aload_n 0, 1) := by decide +kernel
theorem dX8_readPart_72 : decode cX8_readPart 72 = .ok (.getfield 22, 3) := by decide +kernel
theorem dX8_readPart_75 : decode cX8_readPart 75 = .ok (.bipush 6, 2) := by decide +kernel
theorem dX8_readPart_77 : decode cX8_readPart 77 = .ok (.aload_n 0, 1) := by decide +kernel
theorem dX8_readPart_78 : decode cX8_readPart 78 = .ok (.getfield 70, 3) := by decide +kernel
theorem dX8_readPart_81 : decode cX8_readPart 81 = .ok (.imul, 1) := by decide +kernel
theorem dX8_readPart_82 : decode cX8_readPart 82 = .ok (.aload_n 0, 1) := by decide +kernel
theorem dX8_readPart_83 : decode cX8_readPart 83 = .ok (.bipush 97, 2) := by decide +kernel
theorem dX8_readPart_85 : decode cX8_readPart 85 = .ok (.iconst 3, 1) := by decide +kernel
theorem dX8_readPart_86 : decode cX8_readPart 86 = .ok (.invokevirtual 77, 3) := by decide +kernel
theorem dX8_readPart_89 : decode cX8_readPart 89 = .ok (.iconst 1, 1) := by decide +kernel
theorem dX8_readPart_90 : decode cX8_readPart 90 = .ok (.iadd, 1) := by decide +kernel
theorem dX8_readPart_91 : decode cX8_readPart 91 = .ok (.iastore, 1) := by decide +kernel
theorem dX8_readPart_92 : decode cX8_readPart 92 = .ok (.iconst 1, 1) := by decide +kernel
theorem dX8_readPart_93 : decode cX8_readPart 93 = .ok (.istore_n 2, 1) := by decide +kernel
theorem dX8_readPart_94 : decode cX8_readPart 94 = .ok (.iload_n 2, 1) := by decide +kernel
theorem dX8_readPart_95 : decode cX8_readPart 95 = .ok (.bipush 6, 2) := by decide +kernel
theorem dX8_readPart_97 : decode cX8_readPart 97 = .ok (.if_icmp .ge 52, 3) := by decide +kernel
theorem dX8_readPart_100 : decode cX8_readPart 100 = .ok (.aload_n 0, 1) := by decide +kernel
theorem dX8_readPart_101 : decode cX8_readPart 101 = .ok (.invokevirtual 81, 3) := by decide +kernel
theorem dX8_readPart_104 : decode cX8_readPart 104 = .ok (.ifCond .eq 45, 3) := by decide +kernel
theorem dX8_readPart_107 : decode cX8_readPart 107 = .ok (.aload_n 0, 1) := by decide +kernel
theorem dX8_readPart_108 : decode cX8_readPart 108 = .ok (.getfield 22, 3) := by decide +kernel
theorem dX8_readPart_111 : decode cX8_readPart 111 = .ok (.bipush 6, 2) := by decide +kernel
theorem dX8_readPart_113 : decode cX8_readPart 113 = .ok (.aload_n 0, 1) := by decide +kernel
theorem dX8_readPart_114 : decode cX8_readPart 114 = .ok (.getfield 70, 3) := by decide +kernel
theorem dX8_readPart_117 : decode cX8_readPart 117 = .ok (.imul, 1) := by decide +kernel
theorem dX8_readPart_118 : decode cX8_readPart 118 = .ok (.iload_n 2, 1) := by decide +kernel
theorem dX8_readPart_119 : decode cX8_readPart 119 = .ok (.iadd, 1) := by decide +kernel
theorem dX8_readPart_120 : decode cX8_readPart 120 = .ok (.aload_n 0, 1) := by decide +kernel
theorem dX8_readPart_121 : decode cX8_readPart 121 = .ok (.getfield 25, 3) := by decide +kernel
theorem dX8_readPart_124 : decode cX8_readPart 124 = .ok (.aload_n 0, 1) := by decide +kernel
theorem dX8_readPart_125 : decode cX8_readPart 125 = .ok (.getfield 63, 3) := by decide +kernel
theorem dX8_readPart_128 : decode cX8_readPart 128 = .ok (.iaload, 1) := by decide +kernel
theorem dX8_readPart_129 : decode cX8_readPart 129 = .ok (.bipush 96, 2) := by decide +kernel
theorem dX8_readPart_131 : decode cX8_readPart 131 = .ok (.isub, 1) := by decide +kernel
theorem dX8_readPart_132 : decode cX8_readPart 132 = .ok (.iastore, 1) := by decide +kernel
theorem dX8_readPart_133 : decode cX8_readPart 133 = .ok (.aload_n 0, 1) := by decide +kernel
theorem dX8_readPart_134 : decode cX8_readPart 134 = .ok (.dup, 1) := by decide +kernel
theorem dX8_readPart_135 : decode cX8_readPart 135 = .ok (.getfield 63, 3) := by decide +kernel
theorem dX8_readPart_138 : decode cX8_readPart 138 = .ok (.iconst 1, 1) := by decide +kernel
theorem dX8_readPart_139 : decode cX8_readPart 139 = .ok (.iadd, 1) := by decide +kernel
theorem dX8_readPart_140 : decode cX8_readPart 140 = .ok (.putfield 63, 3) := by decide +kernel
theorem dX8_readPart_143 : decode cX8_readPart 143 = .ok (.iinc 2 1, 3) := by decide +kernel
theorem dX8_readPart_146 : decode cX8_readPart 146 = .ok (.goto (-52), 3) := by decide +kernel
theorem dX8_readPart_149 : decode cX8_readPart 149 = .ok (.aload_n 0, 1) := by decide +kernel
theorem dX8_readPart_150 : decode cX8_readPart 150 = .ok (.getfield 19, 3) := by decide +kernel
theorem dX8_readPart_153 : decode cX8_readPart 153 = .ok (.aload_n 0, 1) := by decide +kernel
theorem dX8_readPart_154 : decode cX8_readPart 154 = .ok (.getfield 70, 3) := by decide +kernel
theorem dX8_readPart_157 : decode cX8_readPart 157 = .ok (.iload_n 2, 1) := by decide +kernel
theorem dX8_readPart_158 : decode cX8_readPart 158 = .ok (.iastore, 1) := by decide +kernel
theorem dX8_readPart_159 : decode cX8_readPart 159 = .ok (.aload_n 0, 1) := by decide +kernel
theorem dX8_readPart_160 : decode cX8_readPart 160 = .ok (.dup, 1) := by decide +kernel
theorem dX8_readPart_161 : decode cX8_readPart 161 = .ok (.getfield 70, 3) := by decide +kernel
theorem dX8_readPart_164 : decode cX8_readPart 164 = .ok (.iconst 1, 1) := by decide +kernel
theorem dX8_readPart_165 : decode cX8_readPart 165 = .ok (.iadd, 1) := by decide +kernel
theorem dX8_readPart_166 : decode cX8_readPart 166 = .ok (.putfield 70, 3) := by decide +kernel
theorem dX8_readPart_169 : decode cX8_readPart 169 = .ok (.return_, 1) := by decide +kernel
theorem dX8_fault_0 : decode cX8_fault 0 = .ok (.aload_n 0, 1) := by decide +kernel
theorem dX8_fault_1 : decode cX8_fault 1 = .ok (.invokevirtual 85, 3) := by decide +kernel
theorem dX8_fault_4 : decode cX8_fault 4 = .ok (.ireturn, 1) := by decide +kernel
theorem dX8_valley_0 : decode cX8_valley 0 = .ok (.aload_n 0, 1) := by decide +kernel
theorem dX8_valley_1 : decode cX8_valley 1 = .ok (.invokevirtual 85, 3) := by decide +kernel
theorem dX8_valley_4 : decode cX8_valley 4 = .ok (.bipush (-9), 2) := by decide +kernel
theorem dX8_valley_6 : decode cX8_valley 6 = .ok (.if_icmp .eq 6, 3) := by decide +kernel
theorem dX8_valley_9 : decode cX8_valley 9 = .ok (.bipush (-3), 2) := by decide +kernel
theorem dX8_valley_11 : decode cX8_valley 11 = .ok (.ireturn, 1) := by decide +kernel
theorem dX8_valley_12 : decode cX8_valley 12 = .ok (.aload_n 0, 1) := by decide +kernel
theorem dX8_valley_13 : decode cX8_valley 13 = .ok (.aload_n 0, 1) := by decide +kernel
theorem dX8_valley_14 : decode cX8_valley 14 = .ok (.getfield 70, 3) := by decide +kernel
theorem dX8_valley_17 : decode cX8_valley 17 = .ok (.putfield 89, 3) := by decide +kernel
theorem dX8_valley_20 : decode cX8_valley 20 = .ok (.iconst 0, 1) := by decide +kernel
theorem dX8_valley_21 : decode cX8_valley 21 = .ok (.istore_n 1, 1) := by decide +kernel
theorem dX8_valley_22 : decode cX8_valley 22 = .ok (.iload_n 1, 1) := by decide +kernel
theorem dX8_valley_23 : decode cX8_valley 23 = .ok (.bipush 57, 2) := by decide +kernel
theorem dX8_valley_25 : decode cX8_valley 25 = .ok (.if_icmp .ge 16, 3) := by decide +kernel
theorem dX8_valley_28 : decode cX8_valley 28 = .ok (.aload_n 0, 1) := by decide +kernel
theorem dX8_valley_29 : decode cX8_valley 29 = .ok (.getfield 13, 3) := by decide +kernel
theorem dX8_valley_32 : decode cX8_valley 32 = .ok (.iload_n 1, 1) := by decide +kernel
theorem dX8_valley_33 : decode cX8_valley 33 = .ok (.iconst 0, 1) := by decide +kernel
theorem dX8_valley_34 : decode cX8_valley 34 = .ok (.iastore, 1) := by decide +kernel
theorem dX8_valley_35 : decode cX8_valley 35 = .ok (.iinc 1 1, 3) := by decide +kernel
theorem dX8_valley_38 : decode cX8_valley 38 = .ok (.goto (-16), 3) := by decide +kernel
theorem dX8_valley_41 : decode cX8_valley 41 = .ok (.iconst 0, 1) := by decide +kernel
theorem dX8_valley_42 : decode cX8_valley 42 = .ok (.istore_n 1, 1) := by decide +kernel
theorem dX8_valley_43 : decode cX8_valley 43 = .ok (.iload_n 1, 1) := by decide +kernel
theorem dX8_valley_44 : decode cX8_valley 44 = .ok (.aload_n 0, 1) := by decide +kernel
theorem dX8_valley_45 : decode cX8_valley 45 = .ok (.getfield 89, 3) := by decide +kernel
theorem dX8_valley_48 : decode cX8_valley 48 = .ok (.if_icmp .ge 96, 3) := by decide +kernel
theorem dX8_valley_51 : decode cX8_valley 51 = .ok (.aload_n 0, 1) := by decide +kernel
theorem dX8_valley_52 : decode cX8_valley 52 = .ok (.getfield 13, 3) := by decide +kernel
theorem dX8_valley_55 : decode cX8_valley 55 = .ok (.iload_n 1, 1) := by decide +kernel
theorem dX8_valley_56 : decode cX8_valley 56 = .ok (.aload_n 0, 1) := by decide +kernel
theorem dX8_valley_57 : decode cX8_valley 57 = .ok (.getfield 16, 3) := by decide +kernel
theorem dX8_valley_60 : decode cX8_valley 60 = .ok (.iconst 2, 1) := by decide +kernel
theorem dX8_valley_61 : decode cX8_valley 61 = .ok (.iload_n 1, 1) := by decide +kernel
theorem dX8_valley_62 : decode cX8_valley 62 = .ok (.imul, 1) := by decide +kernel
theorem dX8_valley_63 : decode cX8_valley 63 = .ok (.iaload, 1) := by decide +kernel
theorem dX8_valley_64 : decode cX8_valley 64 = .ok (.iastore, 1) := by decide +kernel
theorem dX8_valley_65 : decode cX8_valley 65 = .ok (.aload_n 0, 1) := by decide +kernel
theorem dX8_valley_66 : decode cX8_valley 66 = .ok (.getfield 7, 3) := by decide +kernel
theorem dX8_valley_69 : decode cX8_valley 69 = .ok (.iload_n 1, 1) := by decide +kernel
theorem dX8_valley_70 : decode cX8_valley 70 = .ok (.aload_n 0, 1) := by decide +kernel
theorem dX8_valley_71 : decode cX8_valley 71 = .ok (.getfield 16, 3) := by decide +kernel
theorem dX8_valley_74 : decode cX8_valley 74 = .ok (.iconst 2, 1) := by decide +kernel
theorem dX8_valley_75 : decode cX8_valley 75 = .ok (.iload_n 1, 1) := by decide +kernel
theorem dX8_valley_76 : decode cX8_valley 76 = .ok (.imul, 1) := by decide +kernel
theorem dX8_valley_77 : decode cX8_valley 77 = .ok (.iconst 1, 1) := by decide +kernel
theorem dX8_valley_78 : decode cX8_valley 78 = .ok (.iadd, 1) := by decide +kernel
theorem dX8_valley_79 : decode cX8_valley 79 = .ok (.iaload, 1) := by decide +kernel
theorem dX8_valley_80 : decode cX8_valley 80 = .ok (.iastore, 1) := by decide +kernel
theorem dX8_valley_81 : decode cX8_valley 81 = .ok (.aload_n 0, 1) := by decide +kernel
theorem dX8_valley_82 : decode cX8_valley 82 = .ok (.getfield 13, 3) := by decide +kernel
theorem dX8_valley_85 : decode cX8_valley 85 = .ok (.iconst 4, 1) := by decide +kernel
theorem dX8_valley_86 : decode cX8_valley 86 = .ok (.iload_n 1, 1) := by decide +kernel
theorem dX8_valley_87 : decode cX8_valley 87 = .ok (.iadd, 1) := by decide +kernel
theorem dX8_valley_88 : decode cX8_valley 88 = .ok (.aload_n 0, 1) := by decide +kernel
theorem dX8_valley_89 : decode cX8_valley 89 = .ok (.getfield 19, 3) := by decide +kernel
theorem dX8_valley_92 : decode cX8_valley 92 = .ok (.iload_n 1, 1) := by decide +kernel
theorem dX8_valley_93 : decode cX8_valley 93 = .ok (.iaload, 1) := by decide +kernel
theorem dX8_valley_94 : decode cX8_valley 94 = .ok (.iastore, 1) := by decide +kernel
theorem dX8_valley_95 : decode cX8_valley 95 = .ok (.iconst 0, 1) := by decide +kernel
theorem dX8_valley_96 : decode cX8_valley 96 = .ok (.istore_n 2, 1) := by decide +kernel
theorem dX8_valley_97 : decode cX8_valley 97 = .ok (.iload_n 2, 1) := by decide +kernel
theorem dX8_valley_98 : decode cX8_valley 98 = .ok (.aload_n 0, 1) := by decide +kernel
theorem dX8_valley_99 : decode cX8_valley 99 = .ok (.getfield 19, 3) := by decide +kernel
theorem dX8_valley_102 : decode cX8_valley 102 = .ok (.iload_n 1, 1) := by decide +kernel
theorem dX8_valley_103 : decode cX8_valley 103 = .ok (.iaload, 1) := by decide +kernel
theorem dX8_valley_104 : decode cX8_valley 104 = .ok (.if_icmp .ge 34, 3) := by decide +kernel
theorem dX8_valley_107 : decode cX8_valley 107 = .ok (.aload_n 0, 1) := by decide +kernel
theorem dX8_valley_108 : decode cX8_valley 108 = .ok (.getfield 13, 3) := by decide +kernel
theorem dX8_valley_111 : decode cX8_valley 111 = .ok (.bipush 8, 2) := by decide +kernel
theorem dX8_valley_113 : decode cX8_valley 113 = .ok (.bipush 12, 2) := by decide +kernel
theorem dX8_valley_115 : decode cX8_valley 115 = .ok (.iload_n 1, 1) := by decide +kernel
theorem dX8_valley_116 : decode cX8_valley 116 = .ok (.imul, 1) := by decide +kernel
theorem dX8_valley_117 : decode cX8_valley 117 = .ok (.iadd, 1) := by decide +kernel
theorem dX8_valley_118 : decode cX8_valley 118 = .ok (.iload_n 2, 1) := by decide +kernel
theorem dX8_valley_119 : decode cX8_valley 119 = .ok (.iadd, 1) := by decide +kernel
theorem dX8_valley_120 : decode cX8_valley 120 = .ok (.aload_n 0, 1) := by decide +kernel
theorem dX8_valley_121 : decode cX8_valley 121 = .ok (.getfield 22, 3) := by decide +kernel
theorem dX8_valley_124 : decode cX8_valley 124 = .ok (.bipush 6, 2) := by decide +kernel
theorem dX8_valley_126 : decode cX8_valley 126 = .ok (.iload_n 1, 1) := by decide +kernel
theorem dX8_valley_127 : decode cX8_valley 127 = .ok (.imul, 1) := by decide +kernel
theorem dX8_valley_128 : decode cX8_valley 128 = .ok (.iload_n 2, 1) := by decide +kernel
theorem dX8_valley_129 : decode cX8_valley 129 = .ok (.iadd, 1) := by decide +kernel
theorem dX8_valley_130 : decode cX8_valley 130 = .ok (.iaload, 1) := by decide +kernel
theorem dX8_valley_131 : decode cX8_valley 131 = .ok (.iastore, 1) := by decide +kernel
theorem dX8_valley_132 : decode cX8_valley 132 = .ok (.iinc 2 1, 3) := by decide +kernel
theorem dX8_valley_135 : decode cX8_valley 135 = .ok (.goto (-38), 3) := by decide +kernel
theorem dX8_valley_138 : decode cX8_valley 138 = .ok (.iinc 1 1, 3) := by decide +kernel
theorem dX8_valley_141 : decode cX8_valley 141 = .ok (.goto (-98), 3) := by decide +kernel
theorem dX8_valley_144 : decode cX8_valley 144 = .ok (.aload_n 0, 1) := by decide +kernel
theorem dX8_valley_145 : decode cX8_valley 145 = .ok (.iconst 0, 1) := by decide +kernel
theorem dX8_valley_146 : decode cX8_valley 146 = .ok (.putfield 92, 3) := by decide +kernel
theorem dX8_valley_149 : decode cX8_valley 149 = .ok (.aload_n 0, 1) := by decide +kernel
theorem dX8_valley_150 : decode cX8_valley 150 = .ok (.getfield 43, 3) := by decide +kernel
theorem dX8_valley_153 : decode cX8_valley 153 = .ok (.iconst 0, 1) := by decide +kernel
theorem dX8_valley_154 : decode cX8_valley 154 = .ok (.iconst 0, 1) := by decide +kernel
theorem dX8_valley_155 : decode cX8_valley 155 = .ok (.bastore, 1) := by decide +kernel
theorem dX8_valley_156 : decode cX8_valley 156 = .ok (.aload_n 0, 1) := by decide +kernel
theorem dX8_valley_157 : decode cX8_valley 157 = .ok (.getfield 43, 3) := by decide +kernel
theorem dX8_valley_160 : decode cX8_valley 160 = .ok (.iconst 1, 1) := by decide +kernel
theorem dX8_valley_161 : decode cX8_valley 161 = .ok (.iconst 0, 1) := by decide +kernel
theorem dX8_valley_162 : decode cX8_valley 162 = .ok (.bastore, 1) := by decide +kernel
theorem dX8_valley_163 : decode cX8_valley 163 = .ok (.aload_n 0, 1) := by decide +kernel
theorem dX8_valley_164 : decode cX8_valley 164 = .ok (.getfield 89, 3) := by decide +kernel
theorem dX8_valley_167 : decode cX8_valley 167 = .ok (.ireturn, 1) := by decide +kernel
theorem dX8_isThere_0 : decode cX8_isThere 0 = .ok (.iload_n 2, 1) := by decide +kernel
theorem dX8_isThere_1 : decode cX8_isThere 1 = .ok (.i2l, 1) := by decide +kernel
theorem dX8_isThere_2 : decode cX8_isThere 2 = .ok (.lconst 0, 1) := by decide +kernel
theorem dX8_isThere_3 : decode cX8_isThere 3 = .ok (.aload_n 0, 1) := by decide +kernel
theorem dX8_isThere_4 : decode cX8_isThere 4 = .ok (.getfield 89, 3) := by decide +kernel
theorem dX8_isThere_7 : decode cX8_isThere 7 = .ok (.iconst 1, 1) := by decide +kernel
theorem dX8_isThere_8 : decode cX8_isThere 8 = .ok (.isub, 1) := by decide +kernel
theorem dX8_isThere_9 : decode cX8_isThere 9 = .ok (.i2l, 1) := by decide +kernel
theorem dX8_isThere_10 : decode cX8_isThere 10 = .ok (.invokestatic 52, 3) := by decide +kernel
theorem dX8_isThere_13 : decode cX8_isThere 13 = .ok (.ifCond .eq 23, 3) := by decide +kernel
theorem dX8_isThere_16 : decode cX8_isThere 16 = .ok (.aload_n 0, 1) := by decide +kernel
theorem dX8_isThere_17 : decode cX8_isThere 17 = .ok (.getfield 13, 3) := by decide +kernel
theorem dX8_isThere_20 : decode cX8_isThere 20 = .ok (.bipush 57, 2) := by decide +kernel
theorem dX8_isThere_22 : decode cX8_isThere 22 = .ok (.iload_n 1, 1) := by decide +kernel
theorem dX8_isThere_23 : decode cX8_isThere 23 = .ok (.imul, 1) := by decide +kernel
theorem dX8_isThere_24 : decode cX8_isThere 24 = .ok (.iconst 4, 1) := by decide +kernel
theorem dX8_isThere_25 : decode cX8_isThere 25 = .ok (.iadd, 1) := by decide +kernel
theorem dX8_isThere_26 : decode cX8_isThere 26 = .ok (.iload_n 2, 1) := by decide +kernel
theorem dX8_isThere_27 : decode cX8_isThere 27 = .ok (.iadd, 1) := by decide +kernel
theorem dX8_isThere_28 : decode cX8_isThere 28 = .ok (.iaload, 1) := by decide +kernel
theorem dX8_isThere_29 : decode cX8_isThere 29 = .ok (.ifCond .le 7, 3) := by decide +kernel
theorem dX8_isThere_32 : decode cX8_isThere 32 = .ok (.iconst 1, 1) := by decide +kernel
theorem dX8_isThere_33 : decode cX8_isThere 33 = .ok (.goto 4, 3) := by decide +kernel
theorem dX8_isThere_36 : decode cX8_isThere 36 = .ok (.iconst 0, 1) := by decide +kernel
theorem dX8_isThere_37 : decode cX8_isThere 37 = .ok (.ireturn, 1) := by decide +kernel
theorem dX8_bendAt_0 : decode cX8_bendAt 0 = .ok (.aload_n 0, 1) := by decide +kernel
theorem dX8_bendAt_1 : decode cX8_bendAt 1 = .ok (.getfield 13, 3) := by decide +kernel
theorem dX8_bendAt_4 : decode cX8_bendAt 4 = .ok (.bipush 57, 2) := by decide +kernel
theorem dX8_bendAt_6 : decode cX8_bendAt 6 = .ok (.iload_n 1, 1) := by decide +kernel
theorem dX8_bendAt_7 : decode cX8_bendAt 7 = .ok (.imul, 1) := by decide +kernel
theorem dX8_bendAt_8 : decode cX8_bendAt 8 = .ok (.bipush 8, 2) := by decide +kernel
theorem dX8_bendAt_10 : decode cX8_bendAt 10 = .ok (.iadd, 1) := by decide +kernel
theorem dX8_bendAt_11 : decode cX8_bendAt 11 = .ok (.bipush 12, 2) := by decide +kernel
theorem dX8_bendAt_13 : decode cX8_bendAt 13 = .ok (.iload_n 2, 1) := by decide +kernel
theorem dX8_bendAt_14 : decode cX8_bendAt 14 = .ok (.imul, 1) := by decide +kernel
theorem dX8_bendAt_15 : decode cX8_bendAt 15 = .ok (.iadd, 1) := by decide +kernel
theorem dX8_bendAt_16 : decode cX8_bendAt 16 = .ok (.iload_n 3, 1) := by decide +kernel
theorem dX8_bendAt_17 : decode cX8_bendAt 17 = .ok (.iadd, 1) := by decide +kernel
theorem dX8_bendAt_18 : decode cX8_bendAt 18 = .ok (.iaload, 1) := by decide +kernel
theorem dX8_bendAt_19 : decode cX8_bendAt 19 = .ok (.ireturn, 1) := by decide +kernel
theorem dX8_loseLast_0 : decode cX8_loseLast 0 = .ok (.bipush 57, 2) := by decide +kernel
theorem dX8_loseLast_2 : decode cX8_loseLast 2 = .ok (.iload_n 1, 1) := by decide +kernel
theorem dX8_loseLast_3 : decode cX8_loseLast 3 = .ok (.imul, 1) := by decide +kernel
theorem dX8_loseLast_4 : decode cX8_loseLast 4 = .ok (.iconst 4, 1) := by decide +kernel
theorem dX8_loseLast_5 : decode cX8_loseLast 5 = .ok (.iadd, 1) := by decide +kernel
theorem dX8_loseLast_6 : decode cX8_loseLast 6 = .ok (.iload_n 2, 1) := by decide +kernel
theorem dX8_loseLast_7 : decode cX8_loseLast 7 = .ok (.iadd, 1) := by decide +kernel
theorem dX8_loseLast_8 : decode cX8_loseLast 8 = .ok (.istore_n 3, 1) := by decide +kernel
theorem dX8_loseLast_9 : decode cX8_loseLast 9 = .ok (.aload_n 0, 1) := by decide +kernel
theorem dX8_loseLast_10 : decode cX8_loseLast 10 = .ok (.getfield 13, 3) := by decide +kernel
theorem dX8_loseLast_13 : decode cX8_loseLast 13 = .ok (.iload_n 3, 1) := by decide +kernel
theorem dX8_loseLast_14 : decode cX8_loseLast 14 = .ok (.dup2, 1) := by decide +kernel
theorem dX8_loseLast_15 : decode cX8_loseLast 15 = .ok (.iaload, 1) := by decide +kernel
theorem dX8_loseLast_16 : decode cX8_loseLast 16 = .ok (.aload_n 0, 1) := by decide +kernel
theorem dX8_loseLast_17 : decode cX8_loseLast 17 = .ok (.getfield 13, 3) := by decide +kernel
theorem dX8_loseLast_20 : decode cX8_loseLast 20 = .ok (.iload_n 3, 1) := by decide +kernel
theorem dX8_loseLast_21 : decode cX8_loseLast 21 = .ok (.iaload, 1) := by decide +kernel
theorem dX8_loseLast_22 : decode cX8_loseLast 22 = .ok (.ifCond .le 7, 3) := by decide +kernel
theorem dX8_loseLast_25 : decode cX8_loseLast 25 = .ok (.iconst 1, 1) := by decide +kernel
theorem dX8_loseLast_26 : decode cX8_loseLast 26 = .ok (.goto 4, 3) := by decide +kernel
theorem dX8_loseLast_29 : decode cX8_loseLast 29 = .ok (.iconst 0, 1) := by decide +kernel
theorem dX8_loseLast_30 : decode cX8_loseLast 30 = .ok (.isub, 1) := by decide +kernel
theorem dX8_loseLast_31 : decode cX8_loseLast 31 = .ok (.iastore, 1) := by decide +kernel
theorem dX8_loseLast_32 : decode cX8_loseLast 32 = .ok (.return_, 1) := by decide +kernel
theorem dX8_loseFirst_0 : decode cX8_loseFirst 0 = .ok (.bipush 57, 2) := by decide +kernel
theorem dX8_loseFirst_2 : decode cX8_loseFirst 2 = .ok (.iload_n 1, 1) := by decide +kernel
theorem dX8_loseFirst_3 : decode cX8_loseFirst 3 = .ok (.imul, 1) := by decide +kernel
theorem dX8_loseFirst_4 : decode cX8_loseFirst 4 = .ok (.bipush 8, 2) := by decide +kernel
