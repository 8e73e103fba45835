theorem dX8_flowOn_21 : decode cX8_flowOn 21 = .ok (.goto 4, 3) := by decide +kernel
theorem dX8_flowOn_24 : decode cX8_flowOn 24 = .ok (.iload_n 2, 1) := by decide +kernel
theorem dX8_flowOn_25 : decode cX8_flowOn 25 = .ok (.istore_n 3, 1) := by decide +kernel
theorem dX8_flowOn_26 : decode cX8_flowOn 26 = .ok (.iload_n 3, 1) := by decide +kernel
theorem dX8_flowOn_27 : decode cX8_flowOn 27 = .ok (.ifCond .le 18, 3) := by decide +kernel
theorem dX8_flowOn_30 : decode cX8_flowOn 30 = .ok (.aload_n 0, 1) := by decide +kernel
theorem dX8_flowOn_31 : decode cX8_flowOn 31 = .ok (.iload_n 1, 1) := by decide +kernel
theorem dX8_flowOn_32 : decode cX8_flowOn 32 = .ok (.iload_n 3, 1) := by decide +kernel
theorem dX8_flowOn_33 : decode cX8_flowOn 33 = .ok (.invokevirtual 186, 3) := by decide +kernel
theorem dX8_flowOn_36 : decode cX8_flowOn 36 = .ok (.ifCond .ne 9, 3) := by decide +kernel
theorem dX8_flowOn_39 : decode cX8_flowOn 39 = .ok (.iinc 3 (-1), 3) := by decide +kernel
theorem dX8_flowOn_42 : decode cX8_flowOn 42 = .ok (.goto (-16), 3) := by decide +kernel
theorem dX8_flowOn_45 : decode cX8_flowOn 45 = .ok (.iload_n 3, 1) := by decide +kernel
theorem dX8_flowOn_46 : decode cX8_flowOn 46 = .ok (.istore 4, 2) := by decide +kernel
theorem dX8_flowOn_48 : decode cX8_flowOn 48 = .ok (.iload 4, 2) := by decide +kernel
theorem dX8_flowOn_50 : decode cX8_flowOn 50 = .ok (.iload_n 2, 1) := by decide +kernel
theorem dX8_flowOn_51 : decode cX8_flowOn 51 = .ok (.if_icmp .ge 31, 3) := by decide +kernel
theorem dX8_flowOn_54 : decode cX8_flowOn 54 = .ok (.aload_n 0, 1) := by decide +kernel
theorem dX8_flowOn_55 : decode cX8_flowOn 55 = .ok (.getfield 34, 3) := by decide +kernel
theorem dX8_flowOn_58 : decode cX8_flowOn 58 = .ok (.aload_n 0, 1) := by decide +kernel
theorem dX8_flowOn_59 : decode cX8_flowOn 59 = .ok (.getfield 183, 3) := by decide +kernel
theorem dX8_flowOn_62 : decode cX8_flowOn 62 = .ok (.iload 4, 2) := by decide +kernel
theorem dX8_flowOn_64 : decode cX8_flowOn 64 = .ok (.iadd, 1) := by decide +kernel
theorem dX8_flowOn_65 : decode cX8_flowOn 65 = .ok (.iload_n 3, 1) := by decide +kernel
theorem dX8_flowOn_66 : decode cX8_flowOn 66 = .ok (.isub, 1) := by decide +kernel
theorem dX8_flowOn_67 : decode cX8_flowOn 67 = .ok (.aload_n 0, 1) := by decide +kernel
theorem dX8_flowOn_68 : decode cX8_flowOn 68 = .ok (.iconst 0, 1) := by decide +kernel
theorem dX8_flowOn_69 : decode cX8_flowOn 69 = .ok (.iload_n 1, 1) := by decide +kernel
theorem dX8_flowOn_70 : decode cX8_flowOn 70 = .ok (.iload 4, 2) := by decide +kernel
theorem dX8_flowOn_72 : decode cX8_flowOn 72 = .ok (.invokevirtual 122, 3) := by decide +kernel
theorem dX8_flowOn_75 : decode cX8_flowOn 75 = .ok (.iastore, 1) := by decide +kernel
theorem dX8_flowOn_76 : decode cX8_flowOn 76 = .ok (.iinc 4 1, 3) := by decide +kernel
theorem dX8_flowOn_79 : decode cX8_flowOn 79 = .ok (.goto (-31), 3) := by decide +kernel
theorem dX8_flowOn_82 : decode cX8_flowOn 82 = .ok (.aload_n 0, 1) := by decide +kernel
theorem dX8_flowOn_83 : decode cX8_flowOn 83 = .ok (.dup, 1) := by decide +kernel
theorem dX8_flowOn_84 : decode cX8_flowOn 84 = .ok (.getfield 183, 3) := by decide +kernel
theorem dX8_flowOn_87 : decode cX8_flowOn 87 = .ok (.iload_n 2, 1) := by decide +kernel
theorem dX8_flowOn_88 : decode cX8_flowOn 88 = .ok (.iload_n 3, 1) := by decide +kernel
theorem dX8_flowOn_89 : decode cX8_flowOn 89 = .ok (.isub, 1) := by decide +kernel
theorem dX8_flowOn_90 : decode cX8_flowOn 90 = .ok (.iadd, 1) := by decide +kernel
theorem dX8_flowOn_91 : decode cX8_flowOn 91 = .ok (.putfield 183, 3) := by decide +kernel
theorem dX8_flowOn_94 : decode cX8_flowOn 94 = .ok (.return_, 1) := by decide +kernel
theorem dX8_goesOn_0 : decode cX8_goesOn 0 = .ok (.iconst 1, 1) := by decide +kernel
theorem dX8_goesOn_1 : decode cX8_goesOn 1 = .ok (.istore_n 3, 1) := by decide +kernel
theorem dX8_goesOn_2 : decode cX8_goesOn 2 = .ok (.iconst 0, 1) := by decide +kernel
theorem dX8_goesOn_3 : decode cX8_goesOn 3 = .ok (.istore 4, 2) := by decide +kernel
theorem dX8_goesOn_5 : decode cX8_goesOn 5 = .ok (.iload 4, 2) := by decide +kernel
theorem dX8_goesOn_7 : decode cX8_goesOn 7 = .ok (.iload_n 2, 1) := by decide +kernel
theorem dX8_goesOn_8 : decode cX8_goesOn 8 = .ok (.if_icmp .ge 44, 3) := by decide +kernel
theorem dX8_goesOn_11 : decode cX8_goesOn 11 = .ok (.iload_n 3, 1) := by decide +kernel
theorem dX8_goesOn_12 : decode cX8_goesOn 12 = .ok (.ifCond .eq 32, 3) := by decide +kernel
theorem dX8_goesOn_15 : decode cX8_goesOn 15 = .ok (.aload_n 0, 1) := by decide +kernel
theorem dX8_goesOn_16 : decode cX8_goesOn 16 = .ok (.getfield 34, 3) := by decide +kernel
theorem dX8_goesOn_19 : decode cX8_goesOn 19 = .ok (.aload_n 0, 1) := by decide +kernel
theorem dX8_goesOn_20 : decode cX8_goesOn 20 = .ok (.getfield 183, 3) := by decide +kernel
theorem dX8_goesOn_23 : decode cX8_goesOn 23 = .ok (.iload_n 2, 1) := by decide +kernel
theorem dX8_goesOn_24 : decode cX8_goesOn 24 = .ok (.isub, 1) := by decide +kernel
theorem dX8_goesOn_25 : decode cX8_goesOn 25 = .ok (.iload 4, 2) := by decide +kernel
theorem dX8_goesOn_27 : decode cX8_goesOn 27 = .ok (.iadd, 1) := by decide +kernel
theorem dX8_goesOn_28 : decode cX8_goesOn 28 = .ok (.iaload, 1) := by decide +kernel
theorem dX8_goesOn_29 : decode cX8_goesOn 29 = .ok (.aload_n 0, 1) := by decide +kernel
theorem dX8_goesOn_30 : decode cX8_goesOn 30 = .ok (.iconst 0, 1) := by decide +kernel
theorem dX8_goesOn_31 : decode cX8_goesOn 31 = .ok (.iload_n 1, 1) := by decide +kernel
theorem dX8_goesOn_32 : decode cX8_goesOn 32 = .ok (.iload 4, 2) := by decide +kernel
theorem dX8_goesOn_34 : decode cX8_goesOn 34 = .ok (.invokevirtual 122, 3) := by decide +kernel
theorem dX8_goesOn_37 : decode cX8_goesOn 37 = .ok (.if_icmp .ne 7, 3) := by decide +kernel
theorem dX8_goesOn_40 : decode cX8_goesOn 40 = .ok (.iconst 1, 1) := by decide +kernel
theorem dX8_goesOn_41 : decode cX8_goesOn 41 = .ok (.goto 4, 3) := by decide +kernel
theorem dX8_goesOn_44 : decode cX8_goesOn 44 = .ok (.iconst 0, 1) := by decide +kernel
theorem dX8_goesOn_45 : decode cX8_goesOn 45 = .ok (.istore_n 3, 1) := by decide +kernel
theorem dX8_goesOn_46 : decode cX8_goesOn 46 = .ok (.iinc 4 1, 3) := by decide +kernel
theorem dX8_goesOn_49 : decode cX8_goesOn 49 = .ok (.goto (-44), 3) := by decide +kernel
theorem dX8_goesOn_52 : decode cX8_goesOn 52 = .ok (.iload_n 3, 1) := by decide +kernel
theorem dX8_goesOn_53 : decode cX8_goesOn 53 = .ok (.ireturn, 1) := by decide +kernel
theorem dX8_riverBy_0 : decode cX8_riverBy 0 = .ok (.iconst 0, 1) := by decide +kernel
theorem dX8_riverBy_1 : decode cX8_riverBy 1 = .ok (.istore_n 3, 1) := by decide +kernel
theorem dX8_riverBy_2 : decode cX8_riverBy 2 = .ok (.iconst 1, 1) := by decide +kernel
theorem dX8_riverBy_3 : decode cX8_riverBy 3 = .ok (.istore 4, 2) := by decide +kernel
theorem dX8_riverBy_5 : decode cX8_riverBy 5 = .ok (.iconst 1, 1) := by decide +kernel
theorem dX8_riverBy_6 : decode cX8_riverBy 6 = .ok (.istore 5, 2) := by decide +kernel
theorem dX8_riverBy_8 : decode cX8_riverBy 8 = .ok (.iload 5, 2) := by decide +kernel
theorem dX8_riverBy_10 : decode cX8_riverBy 10 = .ok (.iload_n 2, 1) := by decide +kernel
theorem dX8_riverBy_11 : decode cX8_riverBy 11 = .ok (.if_icmp .ge 16, 3) := by decide +kernel
theorem dX8_riverBy_14 : decode cX8_riverBy 14 = .ok (.iload 4, 2) := by decide +kernel
theorem dX8_riverBy_16 : decode cX8_riverBy 16 = .ok (.bipush 10, 2) := by decide +kernel
theorem dX8_riverBy_18 : decode cX8_riverBy 18 = .ok (.imul, 1) := by decide +kernel
theorem dX8_riverBy_19 : decode cX8_riverBy 19 = .ok (.istore 4, 2) := by decide +kernel
theorem dX8_riverBy_21 : decode cX8_riverBy 21 = .ok (.iinc 5 1, 3) := by decide +kernel
theorem dX8_riverBy_24 : decode cX8_riverBy 24 = .ok (.goto (-16), 3) := by decide +kernel
theorem dX8_riverBy_27 : decode cX8_riverBy 27 = .ok (.aload_n 0, 1) := by decide +kernel
theorem dX8_riverBy_28 : decode cX8_riverBy 28 = .ok (.iconst 0, 1) := by decide +kernel
theorem dX8_riverBy_29 : decode cX8_riverBy 29 = .ok (.putfield 183, 3) := by decide +kernel
theorem dX8_riverBy_32 : decode cX8_riverBy 32 = .ok (.iconst 0, 1) := by decide +kernel
theorem dX8_riverBy_33 : decode cX8_riverBy 33 = .ok (.istore 5, 2) := by decide +kernel
theorem dX8_riverBy_35 : decode cX8_riverBy 35 = .ok (.iload 5, 2) := by decide +kernel
theorem dX8_riverBy_37 : decode cX8_riverBy 37 = .ok (.iload_n 2, 1) := by decide +kernel
theorem dX8_riverBy_38 : decode cX8_riverBy 38 = .ok (.if_icmp .ge 62, 3) := by decide +kernel
theorem dX8_riverBy_41 : decode cX8_riverBy 41 = .ok (.iload_n 1, 1) := by decide +kernel
theorem dX8_riverBy_42 : decode cX8_riverBy 42 = .ok (.iload 4, 2) := by decide +kernel
theorem dX8_riverBy_44 : decode cX8_riverBy 44 = .ok (.idiv, 1) := by decide +kernel
theorem dX8_riverBy_45 : decode cX8_riverBy 45 = .ok (.bipush 10, 2) := by decide +kernel
theorem dX8_riverBy_47 : decode cX8_riverBy 47 = .ok (.irem, 1) := by decide +kernel
theorem dX8_riverBy_48 : decode cX8_riverBy 48 = .ok (.iconst 1, 1) := by decide +kernel
theorem dX8_riverBy_49 : decode cX8_riverBy 49 = .ok (.isub, 1) := by decide +kernel
theorem dX8_riverBy_50 : decode cX8_riverBy 50 = .ok (.istore 6, 2) := by decide +kernel
theorem dX8_riverBy_52 : decode cX8_riverBy 52 = .ok (.iload 4, 2) := by decide +kernel
theorem dX8_riverBy_54 : decode cX8_riverBy 54 = .ok (.bipush 10, 2) := by decide +kernel
theorem dX8_riverBy_56 : decode cX8_riverBy 56 = .ok (.idiv, 1) := by decide +kernel
theorem dX8_riverBy_57 : decode cX8_riverBy 57 = .ok (.istore 4, 2) := by decide +kernel
theorem dX8_riverBy_59 : decode cX8_riverBy 59 = .ok (.aload_n 0, 1) := by decide +kernel
theorem dX8_riverBy_60 : decode cX8_riverBy 60 = .ok (.iconst 0, 1) := by decide +kernel
theorem dX8_riverBy_61 : decode cX8_riverBy 61 = .ok (.iload 6, 2) := by decide +kernel
theorem dX8_riverBy_63 : decode cX8_riverBy 63 = .ok (.invokevirtual 99, 3) := by decide +kernel
theorem dX8_riverBy_66 : decode cX8_riverBy 66 = .ok (.ifCond .eq 12, 3) := by decide +kernel
theorem dX8_riverBy_69 : decode cX8_riverBy 69 = .ok (.iload_n 3, 1) := by decide +kernel
theorem dX8_riverBy_70 : decode cX8_riverBy 70 = .ok (.iload 6, 2) := by decide +kernel
theorem dX8_riverBy_72 : decode cX8_riverBy 72 = .ok (.invokestatic 106, 3) := by decide +kernel
theorem dX8_riverBy_75 : decode cX8_riverBy 75 = .ok (.ifCond .eq 6, 3) := by decide +kernel
theorem dX8_riverBy_78 : decode cX8_riverBy 78 = .ok (.bipush (-9), 2) := by decide +kernel
theorem dX8_riverBy_80 : decode cX8_riverBy 80 = .ok (.ireturn, 1) := by decide +kernel
theorem dX8_riverBy_81 : decode cX8_riverBy 81 = .ok (.iload_n 3, 1) := by decide +kernel
theorem dX8_riverBy_82 : decode cX8_riverBy 82 = .ok (.iconst 1, 1) := by decide +kernel
theorem dX8_riverBy_83 : decode cX8_riverBy 83 = .ok (.iload 6, 2) := by decide +kernel
theorem dX8_riverBy_85 : decode cX8_riverBy 85 = .ok (.ishl, 1) := by decide +kernel
theorem dX8_riverBy_86 : decode cX8_riverBy 86 = .ok (.ior, 1) := by decide +kernel
theorem dX8_riverBy_87 : decode cX8_riverBy 87 = .ok (.istore_n 3, 1) := by decide +kernel
theorem dX8_riverBy_88 : decode cX8_riverBy 88 = .ok (.aload_n 0, 1) := by decide +kernel
theorem dX8_riverBy_89 : decode cX8_riverBy 89 = .ok (.iload 6, 2) := by decide +kernel
theorem dX8_riverBy_91 : decode cX8_riverBy 91 = .ok (.invokevirtual 189, 3) := by decide +kernel
theorem dX8_riverBy_94 : decode cX8_riverBy 94 = .ok (.iinc 5 1, 3) := by decide +kernel
theorem dX8_riverBy_97 : decode cX8_riverBy 97 = .ok (.goto (-62), 3) := by decide +kernel
theorem dX8_riverBy_100 : decode cX8_riverBy 100 = .ok (.aload_n 0, 1) := by decide +kernel
theorem dX8_riverBy_101 : decode cX8_riverBy 101 = .ok (.getfield 183, 3) := by decide +kernel
theorem dX8_riverBy_104 : decode cX8_riverBy 104 = .ok (.ireturn, 1) := by decide +kernel
theorem dX8_river_0 : decode cX8_river 0 = .ok (.iload_n 1, 1) := by decide +kernel
theorem dX8_river_1 : decode cX8_river 1 = .ok (.i2l, 1) := by decide +kernel
theorem dX8_river_2 : decode cX8_river 2 = .ok (.lconst 0, 1) := by decide +kernel
theorem dX8_river_3 : decode cX8_river 3 = .ok (.lconst 1, 1) := by decide +kernel
theorem dX8_river_4 : decode cX8_river 4 = .ok (.invokestatic 52, 3) := by decide +kernel
theorem dX8_river_7 : decode cX8_river 7 = .ok (.ifCond .ne 6, 3) := by decide +kernel
theorem dX8_river_10 : decode cX8_river 10 = .ok (.bipush (-2), 2) := by decide +kernel
theorem dX8_river_12 : decode cX8_river 12 = .ok (.ireturn, 1) := by decide +kernel
theorem dX8_river_13 : decode cX8_river 13 = .ok (.aload_n 0, 1) := by decide +kernel
theorem dX8_river_14 : decode cX8_river 14 = .ok (.iconst 0, 1) := by decide +kernel
theorem dX8_river_15 : decode cX8_river 15 = .ok (.invokevirtual 116, 3) := by decide +kernel
theorem dX8_river_18 : decode cX8_river 18 = .ok (.invokestatic 112, 3) := by decide +kernel
theorem dX8_river_21 : decode cX8_river 21 = .ok (.istore_n 2, 1) := by decide +kernel
theorem dX8_river_22 : decode cX8_river 22 = .ok (.iconst 0, 1) := by decide +kernel
theorem dX8_river_23 : decode cX8_river 23 = .ok (.istore_n 3, 1) := by decide +kernel
theorem dX8_river_24 : decode cX8_river 24 = .ok (.iconst 0, 1) := by decide +kernel
theorem dX8_river_25 : decode cX8_river 25 = .ok (.istore 4, 2) := by decide +kernel
theorem dX8_river_27 : decode cX8_river 27 = .ok (.iconst 0, 1) := by decide +kernel
theorem dX8_river_28 : decode cX8_river 28 = .ok (.istore 5, 2) := by decide +kernel
theorem dX8_river_30 : decode cX8_river 30 = .ok (.iload 5, 2) := by decide +kernel
theorem dX8_river_32 : decode cX8_river 32 = .ok (.iload_n 2, 1) := by decide +kernel
theorem dX8_river_33 : decode cX8_river 33 = .ok (.if_icmp .ge 25, 3) := by decide +kernel
theorem dX8_river_36 : decode cX8_river 36 = .ok (.bipush 10, 2) := by decide +kernel
theorem dX8_river_38 : decode cX8_river 38 = .ok (.iload_n 3, 1) := by decide +kernel
theorem dX8_river_39 : decode cX8_river 39 = .ok (.imul, 1) := by decide +kernel
theorem dX8_river_40 : decode cX8_river 40 = .ok (.iconst 1, 1) := by decide +kernel
theorem dX8_river_41 : decode cX8_river 41 = .ok (.iadd, 1) := by decide +kernel
theorem dX8_river_42 : decode cX8_river 42 = .ok (.istore_n 3, 1) := by decide +kernel
theorem dX8_river_43 : decode cX8_river 43 = .ok (.bipush 10, 2) := by decide +kernel
theorem dX8_river_45 : decode cX8_river 45 = .ok (.iload 4, 2) := by decide +kernel
theorem dX8_river_47 : decode cX8_river 47 = .ok (.imul, 1) := by decide +kernel
theorem dX8_river_48 : decode cX8_river 48 = .ok (.iconst 4, 1) := by decide +kernel
theorem dX8_river_49 : decode cX8_river 49 = .ok (.iadd, 1) := by decide +kernel
theorem dX8_river_50 : decode cX8_river 50 = .ok (.istore 4, 2) := by decide +kernel
theorem dX8_river_52 : decode cX8_river 52 = .ok (.iinc 5 1, 3) := by decide +kernel
theorem dX8_river_55 : decode cX8_river 55 = .ok (.goto (-25), 3) := by decide +kernel
theorem dX8_river_58 : decode cX8_river 58 = .ok (.iconst 0, 1) := by decide +kernel
theorem dX8_river_59 : decode cX8_river 59 = .ok (.istore 5, 2) := by decide +kernel
theorem dX8_river_61 : decode cX8_river 61 = .ok (.iload_n 2, 1) := by decide +kernel
theorem dX8_river_62 : decode cX8_river 62 = .ok (.ifCond .ne 7, 3) := by decide +kernel
theorem dX8_river_65 : decode cX8_river 65 = .ok (.iconst 0, 1) := by decide +kernel
theorem dX8_river_66 : decode cX8_river 66 = .ok (.goto 5, 3) := by decide +kernel
theorem dX8_river_69 : decode cX8_river 69 = .ok (.bipush (-9), 2) := by decide +kernel
theorem dX8_river_71 : decode cX8_river 71 = .ok (.istore 6, 2) := by decide +kernel
theorem dX8_river_73 : decode cX8_river 73 = .ok (.iload_n 3, 1) := by decide +kernel
theorem dX8_river_74 : decode cX8_river 74 = .ok (.istore 7, 2) := by decide +kernel
theorem dX8_river_76 : decode cX8_river 76 = .ok (.iload 7, 2) := by decide +kernel
theorem dX8_river_78 : decode cX8_river 78 = .ok (.iload 4, 2) := by decide +kernel
theorem dX8_river_80 : decode cX8_river 80 = .ok (.if_icmp .gt 78, 3) := by decide +kernel
theorem dX8_river_83 : decode cX8_river 83 = .ok (.iload_n 2, 1) := by decide +kernel
theorem dX8_river_84 : decode cX8_river 84 = .ok (.ifCond .le 74, 3) := by decide +kernel
theorem dX8_river_87 : decode cX8_river 87 = .ok (.aload_n 0, 1) := by decide +kernel
theorem dX8_river_88 : decode cX8_river 88 = .ok (.iload 7, 2) := by decide +kernel
theorem dX8_river_90 : decode cX8_river 90 = .ok (.iload_n 2, 1) := by decide +kernel
theorem dX8_river_91 : decode cX8_river 91 = .ok (.invokevirtual 192, 3) := by decide +kernel
theorem dX8_river_94 : decode cX8_river 94 = .ok (.istore 8, 2) := by decide +kernel
theorem dX8_river_96 : decode cX8_river 96 = .ok (.iload 8, 2) := by decide +kernel
theorem dX8_river_98 : decode cX8_river 98 = .ok (.bipush (-9), 2) := by decide +kernel
theorem dX8_river_100 : decode cX8_river 100 = .ok (.if_icmp .eq 21, 3) := by decide +kernel
theorem dX8_river_103 : decode cX8_river 103 = .ok (.iload 6, 2) := by decide +kernel
theorem dX8_river_105 : decode cX8_river 105 = .ok (.bipush (-9), 2) := by decide +kernel
theorem dX8_river_107 : decode cX8_river 107 = .ok (.if_icmp .eq 10, 3) := by decide +kernel
theorem dX8_river_110 : decode cX8_river 110 = .ok (.iload 8, 2) := by decide +kernel
theorem dX8_river_112 : decode cX8_river 112 = .ok (.iload 6, 2) := by decide +kernel
theorem dX8_river_114 : decode cX8_river 114 = .ok (.if_icmp .ge 7, 3) := by decide +kernel
theorem dX8_river_117 : decode cX8_river 117 = .ok (.iconst 1, 1) := by decide +kernel
theorem dX8_river_118 : decode cX8_river 118 = .ok (.goto 4, 3) := by decide +kernel
theorem dX8_river_121 : decode cX8_river 121 = .ok (.iconst 0, 1) := by decide +kernel
theorem dX8_river_122 : decode cX8_river 122 = .ok (.istore 9, 2) := by decide +kernel
theorem dX8_river_124 : decode cX8_river 124 = .ok (.iload 9, 2) := by decide +kernel
theorem dX8_river_126 : decode cX8_river 126 = .ok (.ifCond .eq 8, 3) := by decide +kernel
theorem dX8_river_129 : decode cX8_river 129 = .ok (.iload 7, 2) := by decide +kernel
theorem dX8_river_131 : decode cX8_river 131 = .ok (.goto 5, 3) := by decide +kernel
theorem dX8_river_134 : decode cX8_river 134 = .ok (.iload 5, 2) := by decide +kernel
theorem dX8_river_136 : decode cX8_river 136 = .ok (.istore 5, 2) := by decide +kernel
theorem dX8_river_138 : decode cX8_river 138 = .ok (.iload 9, 2) := by decide +kernel
theorem dX8_river_140 : decode cX8_river 140 = .ok (.ifCond .eq 8, 3) := by decide +kernel
theorem dX8_river_143 : decode cX8_river 143 = .ok (.iload 8, 2) := by decide +kernel
theorem dX8_river_145 : decode cX8_river 145 = .ok (.goto 5, 3) := by decide +kernel
theorem dX8_river_148 : decode cX8_river 148 = .ok (.iload 6, 2) := by decide +kernel
theorem dX8_river_150 : decode cX8_river 150 = .ok (.istore 6, 2) := by decide +kernel
theorem dX8_river_152 : decode cX8_river 152 = .ok (.iinc 7 1, 3) := by decide +kernel
theorem dX8_river_155 : decode cX8_river 155 = .ok (.goto (-79), 3) := by decide +kernel
theorem dX8_river_158 : decode cX8_river 158 = .ok (.iload_n 1, 1) := by decide +kernel
theorem dX8_river_159 : decode cX8_river 159 = .ok (.ifCond .ne 8, 3) := by decide +kernel
theorem dX8_river_162 : decode cX8_river 162 = .ok (.iload 6, 2) := by decide +kernel
theorem dX8_river_164 : decode cX8_river 164 = .ok (.goto 5, 3) := by decide +kernel
theorem dX8_river_167 : decode cX8_river 167 = .ok (.iload 5, 2) := by decide +kernel
theorem dX8_river_169 : decode cX8_river 169 = .ok (.ireturn, 1) := by decide +kernel
theorem dX8_covered_0 : decode cX8_covered 0 = .ok (.aload_n 0, 1) := by decide +kernel
theorem dX8_covered_1 : decode cX8_covered 1 = .ok (.bipush 15, 2) := by decide +kernel
theorem dX8_covered_3 : decode cX8_covered 3 = .ok (.invokevirtual 195, 3) := by decide +kernel
theorem dX8_covered_6 : decode cX8_covered 6 = .ok (.ireturn, 1) := by decide +kernel
theorem dX8_ways_0 : decode cX8_ways 0 = .ok (.iconst 0, 1) := by decide +kernel
theorem dX8_ways_1 : decode cX8_ways 1 = .ok (.istore_n 1, 1) := by decide +kernel
theorem dX8_ways_2 : decode cX8_ways 2 = .ok (.iconst 0, 1) := by decide +kernel
theorem dX8_ways_3 : decode cX8_ways 3 = .ok (.istore_n 2, 1) := by decide +kernel
theorem dX8_ways_4 : decode cX8_ways 4 = .ok (.iload_n 2, 1) := by decide +kernel
theorem dX8_ways_5 : decode cX8_ways 5 = .ok (.sipush 20736, 3) := by decide +kernel
theorem dX8_ways_8 : decode cX8_ways 8 = .ok (.if_icmp .ge 25, 3) := by decide +kernel
theorem dX8_ways_11 : decode cX8_ways 11 = .ok (.iload_n 1, 1) := by decide +kernel
theorem dX8_ways_12 : decode cX8_ways 12 = .ok (.aload_n 0, 1) := by decide +kernel
theorem dX8_ways_13 : decode cX8_ways 13 = .ok (.iload_n 2, 1) := by decide +kernel
theorem dX8_ways_14 : decode cX8_ways 14 = .ok (.invokevirtual 198, 3) := by decide +kernel
theorem dX8_ways_17 : decode cX8_ways 17 = .ok (.ifCond .eq 7, 3) := by decide +kernel
theorem dX8_ways_20 : decode cX8_ways 20 = .ok (.iconst 1, 1) := by decide +kernel
theorem dX8_ways_21 : decode cX8_ways 21 = .ok (.goto 4, 3) := by decide +kernel
theorem dX8_ways_24 : decode cX8_ways 24 = .ok (.iconst 0, 1) := by decide +kernel
theorem dX8_ways_25 : decode cX8_ways 25 = .ok (.iadd, 1) := by decide +kernel
theorem dX8_ways_26 : decode cX8_ways 26 = .ok (.istore_n 1, 1) := by decide +kernel
theorem dX8_ways_27 : decode cX8_ways 27 = .ok (.iinc 2 1, 3) := by decide +kernel
theorem dX8_ways_30 : decode cX8_ways 30 = .ok (.goto (-26), 3) := by decide +kernel
theorem dX8_ways_33 : decode cX8_ways 33 = .ok (.iload_n 1, 1) := by decide +kernel
theorem dX8_ways_34 : decode cX8_ways 34 = .ok (.ireturn, 1) := by decide +kernel
theorem dX8_isWay_0 : decode cX8_isWay 0 = .ok (.iload_n 1, 1) := by decide +kernel
theorem dX8_isWay_1 : decode cX8_isWay 1 = .ok (.istore_n 2, 1) := by decide +kernel
theorem dX8_isWay_2 : decode cX8_isWay 2 = .ok (.iconst 0, 1) := by decide +kernel
theorem dX8_isWay_3 : decode cX8_isWay 3 = .ok (.istore_n 3, 1) := by decide +kernel
theorem dX8_isWay_4 : decode cX8_isWay 4 = .ok (.iconst 0, 1) := by decide +kernel
theorem dX8_isWay_5 : decode cX8_isWay 5 = .ok (.istore 4, 2) := by decide +kernel
theorem dX8_isWay_7 : decode cX8_isWay 7 = .ok (.iload 4, 2) := by decide +kernel
theorem dX8_isWay_9 : decode cX8_isWay 9 = .ok (.iconst 4, 1) := by decide +kernel
theorem dX8_isWay_10 : decode cX8_isWay 10 = .ok (.if_icmp .ge 70, 3) := by decide +kernel
theorem dX8_isWay_13 : decode cX8_isWay 13 = .ok (.iload_n 2, 1) := by decide +kernel
theorem dX8_isWay_14 : decode cX8_isWay 14 = .ok (.bipush 12, 2) := by decide +kernel
theorem dX8_isWay_16 : decode cX8_isWay 16 = .ok (.irem, 1) := by decide +kernel
theorem dX8_isWay_17 : decode cX8_isWay 17 = .ok (.istore 5, 2) := by decide +kernel
theorem dX8_isWay_19 : decode cX8_isWay 19 = .ok (.iload_n 2, 1) := by decide +kernel
theorem dX8_isWay_20 : decode cX8_isWay 20 = .ok (.bipush 12, 2) := by decide +kernel
theorem dX8_isWay_22 : decode cX8_isWay 22 = .ok (.idiv, 1) := by decide +kernel
theorem dX8_isWay_23 : decode cX8_isWay 23 = .ok (.istore_n 2, 1) := by decide +kernel
theorem dX8_isWay_24 : decode cX8_isWay 24 = .ok (.aload_n 0, 1) := by decide +kernel
theorem dX8_isWay_25 : decode cX8_isWay 25 = .ok (.iconst 0, 1) := by decide +kernel
theorem dX8_isWay_26 : decode cX8_isWay 26 = .ok (.iload 4, 2) := by decide +kernel
theorem dX8_isWay_28 : decode cX8_isWay 28 = .ok (.invokevirtual 99, 3) := by decide +kernel
theorem dX8_isWay_31 : decode cX8_isWay 31 = .ok (.ifCond .ne 10, 3) := by decide +kernel
theorem dX8_isWay_34 : decode cX8_isWay 34 = .ok (.iload 5, 2) := by decide +kernel
theorem dX8_isWay_36 : decode cX8_isWay 36 = .ok (.ifCond .le 38, 3) := by decide +kernel
theorem dX8_isWay_39 : decode cX8_isWay 39 = .ok (.iconst 0, 1) := by decide +kernel
theorem dX8_isWay_40 : decode cX8_isWay 40 = .ok (.ireturn, 1) := by decide +kernel
theorem dX8_isWay_41 : decode cX8_isWay 41 = .ok (.aload_n 0, 1) := by decide +kernel
theorem dX8_isWay_42 : decode cX8_isWay 42 = .ok (.iconst 0, 1) := by decide +kernel
theorem dX8_isWay_43 : decode cX8_isWay 43 = .ok (.iload 4, 2) := by decide +kernel
theorem dX8_isWay_45 : decode cX8_isWay 45 = .ok (.iload 5, 2) := by decide +kernel
theorem dX8_isWay_47 : decode cX8_isWay 47 = .ok (.invokevirtual 149, 3) := by decide +kernel
theorem dX8_isWay_50 : decode cX8_isWay 50 = .ok (.ifCond .ne 5, 3) := by decide +kernel
theorem dX8_isWay_53 : decode cX8_isWay 53 = .ok (.iconst 0, 1) := by decide +kernel
theorem dX8_isWay_54 : decode cX8_isWay 54 = .ok (.ireturn, 1) := by decide +kernel
theorem dX8_isWay_55 : decode cX8_isWay 55 = .ok (.iload_n 3, 1) := by decide +kernel
theorem dX8_isWay_56 : decode cX8_isWay 56 = .ok (.iconst 1, 1) := by decide +kernel
theorem dX8_isWay_57 : decode cX8_isWay 57 = .ok (.aload_n 0, 1) := by decide +kernel
theorem dX8_isWay_58 : decode cX8_isWay 58 = .ok (.getfield 13, 3) := by decide +kernel
theorem dX8_isWay_61 : decode cX8_isWay 61 = .ok (.iconst 4, 1) := by decide +kernel
theorem dX8_isWay_62 : decode cX8_isWay 62 = .ok (.iload 4, 2) := by decide +kernel
theorem dX8_isWay_64 : decode cX8_isWay 64 = .ok (.iadd, 1) := by decide +kernel
theorem dX8_isWay_65 : decode cX8_isWay 65 = .ok (.iaload, 1) := by decide +kernel
theorem dX8_isWay_66 : decode cX8_isWay 66 = .ok (.ishl, 1) := by decide +kernel
theorem dX8_isWay_67 : decode cX8_isWay 67 = .ok (.iconst 1, 1) := by decide +kernel
theorem dX8_isWay_68 : decode cX8_isWay 68 = .ok (.isub, 1) := by decide +kernel
theorem dX8_isWay_69 : decode cX8_isWay 69 = .ok (.iload 5, 2) := by decide +kernel
theorem dX8_isWay_71 : decode cX8_isWay 71 = .ok (.ishl, 1) := by decide +kernel
theorem dX8_isWay_72 : decode cX8_isWay 72 = .ok (.ior, 1) := by decide +kernel
theorem dX8_isWay_73 : decode cX8_isWay 73 = .ok (.istore_n 3, 1) := by decide +kernel
theorem dX8_isWay_74 : decode cX8_isWay 74 = .ok (.iinc 4 1, 3) := by decide +kernel
theorem dX8_isWay_77 : decode cX8_isWay 77 = .ok (.goto (-70), 3) := by decide +kernel
theorem dX8_isWay_80 : decode cX8_isWay 80 = .ok (.iload_n 3, 1) := by decide +kernel
theorem dX8_isWay_81 : decode cX8_isWay 81 = .ok (.iconst 1, 1) := by decide +kernel
theorem dX8_isWay_82 : decode cX8_isWay 82 = .ok (.aload_n 0, 1) := by decide +kernel
theorem dX8_isWay_83 : decode cX8_isWay 83 = .ok (.getfield 146, 3) := by decide +kernel
theorem dX8_isWay_86 : decode cX8_isWay 86 = .ok (.ishl, 1) := by decide +kernel
theorem dX8_isWay_87 : decode cX8_isWay 87 = .ok (.iconst 1, 1) := by decide +kernel
theorem dX8_isWay_88 : decode cX8_isWay 88 = .ok (.isub, 1) := by decide +kernel
theorem dX8_isWay_89 : decode cX8_isWay 89 = .ok (.if_icmp .ne 7, 3) := by decide +kernel
theorem dX8_isWay_92 : decode cX8_isWay 92 = .ok (.iconst 1, 1) := by decide +kernel
theorem dX8_isWay_93 : decode cX8_isWay 93 = .ok (.goto 4, 3) := by decide +kernel
theorem dX8_isWay_96 : decode cX8_isWay 96 = .ok (.iconst 0, 1) := by decide +kernel
theorem dX8_isWay_97 : decode cX8_isWay 97 = .ok (.ireturn, 1) := by decide +kernel
theorem dX8_tryThing_0 : decode cX8_tryThing 0 = .ok (.iload_n 1, 1) := by decide +kernel
theorem dX8_tryThing_1 : decode cX8_tryThing 1 = .ok (.tableswitch 285 0 6 #[43, 63, 122, 156, 203, 227, 255], 43) := by decide +kernel
theorem dX8_tryThing_44 : decode cX8_tryThing 44 = .ok (.aload_n 0, 1) := by decide +kernel
theorem dX8_tryThing_45 : decode cX8_tryThing 45 = .ok (.iconst 1, 1) := by decide +kernel
theorem dX8_tryThing_46 : decode cX8_tryThing 46 = .ok (.invokevirtual 163, 3) := by decide +kernel
theorem dX8_tryThing_49 : decode cX8_tryThing 49 = .ok (.pop, 1) := by decide +kernel
theorem dX8_tryThing_50 : decode cX8_tryThing 50 = .ok (.iload_n 2, 1) := by decide +kernel
theorem dX8_tryThing_51 : decode cX8_tryThing 51 = .ok (.ifCond .ne 11, 3) := by decide +kernel
theorem dX8_tryThing_54 : decode cX8_tryThing 54 = .ok (.iload_n 3, 1) := by decide +kernel
theorem dX8_tryThing_55 : decode cX8_tryThing 55 = .ok (.ifCond .ne 7, 3) := by decide +kernel
theorem dX8_tryThing_58 : decode cX8_tryThing 58 = .ok (.iconst 1, 1) := by decide +kernel
theorem dX8_tryThing_59 : decode cX8_tryThing 59 = .ok (.goto 4, 3) := by decide +kernel
theorem dX8_tryThing_62 : decode cX8_tryThing 62 = .ok (.iconst 0, 1) := by decide +kernel
theorem dX8_tryThing_63 : decode cX8_tryThing 63 = .ok (.ireturn, 1) := by decide +kernel
theorem dX8_tryThing_64 : decode cX8_tryThing 64 = .ok (.aload_n 0, 1) := by decide +kernel
theorem dX8_tryThing_65 : decode cX8_tryThing 65 = .ok (.iconst 1, 1) := by decide +kernel
theorem dX8_tryThing_66 : decode cX8_tryThing 66 = .ok (.iload_n 2, 1) := by decide +kernel
theorem dX8_tryThing_67 : decode cX8_tryThing 67 = .ok (.invokevirtual 99, 3) := by decide +kernel
theorem dX8_tryThing_70 : decode cX8_tryThing 70 = .ok (.ifCond .eq 32, 3) := by decide +kernel
theorem dX8_tryThing_73 : decode cX8_tryThing 73 = .ok (.iload_n 3, 1) := by decide +kernel
theorem dX8_tryThing_74 : decode cX8_tryThing 74 = .ok (.i2l, 1) := by decide +kernel
theorem dX8_tryThing_75 : decode cX8_tryThing 75 = .ok (.lconst 0, 1) := by decide +kernel
theorem dX8_tryThing_76 : decode cX8_tryThing 76 = .ok (.ldc2_w 166, 3) := by decide +kernel
theorem dX8_tryThing_79 : decode cX8_tryThing 79 = .ok (.invokestatic 52, 3) := by decide +kernel
theorem dX8_tryThing_82 : decode cX8_tryThing 82 = .ok (.ifCond .eq 20, 3) := by decide +kernel
theorem dX8_tryThing_85 : decode cX8_tryThing 85 = .ok (.aload_n 0, 1) := by decide +kernel
theorem dX8_tryThing_86 : decode cX8_tryThing 86 = .ok (.getfield 13, 3) := by decide +kernel
theorem dX8_tryThing_89 : decode cX8_tryThing 89 = .ok (.bipush 57, 2) := by decide +kernel
theorem dX8_tryThing_91 : decode cX8_tryThing 91 = .ok (.iload_n 2, 1) := by decide +kernel
theorem dX8_tryThing_92 : decode cX8_tryThing 92 = .ok (.iadd, 1) := by decide +kernel
theorem dX8_tryThing_93 : decode cX8_tryThing 93 = .ok (.iaload, 1) := by decide +kernel
theorem dX8_tryThing_94 : decode cX8_tryThing 94 = .ok (.iload_n 3, 1) := by decide +kernel
theorem dX8_tryThing_95 : decode cX8_tryThing 95 = .ok (.if_icmp .eq 7, 3) := by decide +kernel
theorem dX8_tryThing_98 : decode cX8_tryThing 98 = .ok (.iconst 1, 1) := by decide +kernel
theorem dX8_tryThing_99 : decode cX8_tryThing 99 = .ok (.goto 4, 3) := by decide +kernel
theorem dX8_tryThing_102 : decode cX8_tryThing 102 = .ok (.iconst 0, 1) := by decide +kernel
theorem dX8_tryThing_103 : decode cX8_tryThing 103 = .ok (.istore 4, 2) := by decide +kernel
theorem dX8_tryThing_105 : decode cX8_tryThing 105 = .ok (.iload 4, 2) := by decide +kernel
theorem dX8_tryThing_107 : decode cX8_tryThing 107 = .ok (.ifCond .eq 13, 3) := by decide +kernel
theorem dX8_tryThing_110 : decode cX8_tryThing 110 = .ok (.aload_n 0, 1) := by decide +kernel
theorem dX8_tryThing_111 : decode cX8_tryThing 111 = .ok (.getfield 13, 3) := by decide +kernel
theorem dX8_tryThing_114 : decode cX8_tryThing 114 = .ok (.bipush 57, 2) := by decide +kernel
theorem dX8_tryThing_116 : decode cX8_tryThing 116 = .ok (.iload_n 2, 1) := by decide +kernel
theorem dX8_tryThing_117 : decode cX8_tryThing 117 = .ok (.iadd, 1) := by decide +kernel
theorem dX8_tryThing_118 : decode cX8_tryThing 118 = .ok (.iload_n 3, 1) := by decide +kernel
theorem dX8_tryThing_119 : decode cX8_tryThing 119 = .ok (.iastore, 1) := by decide +kernel
theorem dX8_tryThing_120 : decode cX8_tryThing 120 = .ok (.iload 4, 2) := by decide +kernel
theorem dX8_tryThing_122 : decode cX8_tryThing 122 = .ok (.ireturn, 1) := by decide +kernel
theorem dX8_tryThing_123 : decode cX8_tryThing 123 = .ok (.iload_n 2, 1) := by decide +kernel
theorem dX8_tryThing_124 : decode cX8_tryThing 124 = .ok (.ifCond .ne 16, 3) := by decide +kernel
theorem dX8_tryThing_127 : decode cX8_tryThing 127 = .ok (.aload_n 0, 1) := by decide +kernel
theorem dX8_tryThing_128 : decode cX8_tryThing 128 = .ok (.iconst 1, 1) := by decide +kernel
theorem dX8_tryThing_129 : decode cX8_tryThing 129 = .ok (.iload_n 3, 1) := by decide +kernel
theorem dX8_tryThing_130 : decode cX8_tryThing 130 = .ok (.invokevirtual 99, 3) := by decide +kernel
theorem dX8_tryThing_133 : decode cX8_tryThing 133 = .ok (.ifCond .eq 7, 3) := by decide +kernel
theorem dX8_tryThing_136 : decode cX8_tryThing 136 = .ok (.iconst 1, 1) := by decide +kernel
theorem dX8_tryThing_137 : decode cX8_tryThing 137 = .ok (.goto 4, 3) := by decide +kernel
theorem dX8_tryThing_140 : decode cX8_tryThing 140 = .ok (.iconst 0, 1) := by decide +kernel
theorem dX8_tryThing_141 : decode cX8_tryThing 141 = .ok (.istore 5, 2) := by decide +kernel
theorem dX8_tryThing_143 : decode cX8_tryThing 143 = .ok (.iload 5, 2) := by decide +kernel
theorem dX8_tryThing_145 : decode cX8_tryThing 145 = .ok (.ifCond .eq 9, 3) := by decide +kernel
theorem dX8_tryThing_148 : decode cX8_tryThing 148 = .ok (.aload_n 0, 1) := by decide +kernel
theorem dX8_tryThing_149 : decode cX8_tryThing 149 = .ok (.iconst 1, 1) := by decide +kernel
theorem dX8_tryThing_150 : decode cX8_tryThing 150 = .ok (.iload_n 3, 1) := by decide +kernel
theorem dX8_tryThing_151 : decode cX8_tryThing 151 = .ok (.invokevirtual 168, 3) := by decide +kernel
theorem dX8_tryThing_154 : decode cX8_tryThing 154 = .ok (.iload 5, 2) := by decide +kernel
theorem dX8_tryThing_156 : decode cX8_tryThing 156 = .ok (.ireturn, 1) := by decide +kernel
theorem dX8_tryThing_157 : decode cX8_tryThing 157 = .ok (.iload_n 2, 1) := by decide +kernel
theorem dX8_tryThing_158 : decode cX8_tryThing 158 = .ok (.ifCond .ne 29, 3) := by decide +kernel
theorem dX8_tryThing_161 : decode cX8_tryThing 161 = .ok (.aload_n 0, 1) := by decide +kernel
theorem dX8_tryThing_162 : decode cX8_tryThing 162 = .ok (.iconst 1, 1) := by decide +kernel
theorem dX8_tryThing_163 : decode cX8_tryThing 163 = .ok (.iload_n 3, 1) := by decide +kernel
theorem dX8_tryThing_164 : decode cX8_tryThing 164 = .ok (.invokevirtual 99, 3) := by decide +kernel
theorem dX8_tryThing_167 : decode cX8_tryThing 167 = .ok (.ifCond .eq 20, 3) := by decide +kernel
theorem dX8_tryThing_170 : decode cX8_tryThing 170 = .ok (.aload_n 0, 1) := by decide +kernel
theorem dX8_tryThing_171 : decode cX8_tryThing 171 = .ok (.getfield 13, 3) := by decide +kernel
theorem dX8_tryThing_174 : decode cX8_tryThing 174 = .ok (.bipush 61, 2) := by decide +kernel
theorem dX8_tryThing_176 : decode cX8_tryThing 176 = .ok (.iload_n 3, 1) := by decide +kernel
theorem dX8_tryThing_177 : decode cX8_tryThing 177 = .ok (.iadd, 1) := by decide +kernel
theorem dX8_tryThing_178 : decode cX8_tryThing 178 = .ok (.iaload, 1) := by decide +kernel
theorem dX8_tryThing_179 : decode cX8_tryThing 179 = .ok (.iconst 1, 1) := by decide +kernel
theorem dX8_tryThing_180 : decode cX8_tryThing 180 = .ok (.if_icmp .le 7, 3) := by decide +kernel
theorem dX8_tryThing_183 : decode cX8_tryThing 183 = .ok (.iconst 1, 1) := by decide +kernel
theorem dX8_tryThing_184 : decode cX8_tryThing 184 = .ok (.goto 4, 3) := by decide +kernel
theorem dX8_tryThing_187 : decode cX8_tryThing 187 = .ok (.iconst 0, 1) := by decide +kernel
theorem dX8_tryThing_188 : decode cX8_tryThing 188 = .ok (.istore 6, 2) := by decide +kernel
theorem dX8_tryThing_190 : decode cX8_tryThing 190 = .ok (.iload 6, 2) := by decide +kernel
theorem dX8_tryThing_192 : decode cX8_tryThing 192 = .ok (.ifCond .eq 9, 3) := by decide +kernel
theorem dX8_tryThing_195 : decode cX8_tryThing 195 = .ok (.aload_n 0, 1) := by decide +kernel
theorem dX8_tryThing_196 : decode cX8_tryThing 196 = .ok (.iconst 1, 1) := by decide +kernel
theorem dX8_tryThing_197 : decode cX8_tryThing 197 = .ok (.iload_n 3, 1) := by decide +kernel
theorem dX8_tryThing_198 : decode cX8_tryThing 198 = .ok (.invokevirtual 95, 3) := by decide +kernel
theorem dX8_tryThing_201 : decode cX8_tryThing 201 = .ok (.iload 6, 2) := by decide +kernel
theorem dX8_tryThing_203 : decode cX8_tryThing 203 = .ok (.ireturn, 1) := by decide +kernel
theorem dX8_tryThing_204 : decode cX8_tryThing 204 = .ok (.aload_n 0, 1) := by decide +kernel
theorem dX8_tryThing_205 : decode cX8_tryThing 205 = .ok (.iconst 1, 1) := by decide +kernel
theorem dX8_tryThing_206 : decode cX8_tryThing 206 = .ok (.iload_n 2, 1) := by decide +kernel
theorem dX8_tryThing_207 : decode cX8_tryThing 207 = .ok (.iload_n 3, 1) := by decide +kernel
theorem dX8_tryThing_208 : decode cX8_tryThing 208 = .ok (.invokevirtual 171, 3) := by decide +kernel
theorem dX8_tryThing_211 : decode cX8_tryThing 211 = .ok (.istore 7, 2) := by decide +kernel
theorem dX8_tryThing_213 : decode cX8_tryThing 213 = .ok (.iload 7, 2) := by decide +kernel
theorem dX8_tryThing_215 : decode cX8_tryThing 215 = .ok (.ifCond .eq 10, 3) := by decide +kernel
theorem dX8_tryThing_218 : decode cX8_tryThing 218 = .ok (.aload_n 0, 1) := by decide +kernel
theorem dX8_tryThing_219 : decode cX8_tryThing 219 = .ok (.iconst 1, 1) := by decide +kernel
theorem dX8_tryThing_220 : decode cX8_tryThing 220 = .ok (.iload_n 2, 1) := by decide +kernel
theorem dX8_tryThing_221 : decode cX8_tryThing 221 = .ok (.iload_n 3, 1) := by decide +kernel
theorem dX8_tryThing_222 : decode cX8_tryThing 222 = .ok (.invokevirtual 174, 3) := by decide +kernel
theorem dX8_tryThing_225 : decode cX8_tryThing 225 = .ok (.iload 7, 2) := by decide +kernel
theorem dX8_tryThing_227 : decode cX8_tryThing 227 = .ok (.ireturn, 1) := by decide +kernel
theorem dX8_tryThing_228 : decode cX8_tryThing 228 = .ok (.aload_n 0, 1) := by decide +kernel
theorem dX8_tryThing_229 : decode cX8_tryThing 229 = .ok (.iconst 1, 1) := by decide +kernel
theorem dX8_tryThing_230 : decode cX8_tryThing 230 = .ok (.iload_n 2, 1) := by decide +kernel
theorem dX8_tryThing_231 : decode cX8_tryThing 231 = .ok (.invokevirtual 99, 3) := by decide +kernel
theorem dX8_tryThing_234 : decode cX8_tryThing 234 = .ok (.ifCond .eq 20, 3) := by decide +kernel
theorem dX8_tryThing_237 : decode cX8_tryThing 237 = .ok (.aload_n 0, 1) := by decide +kernel
theorem dX8_tryThing_238 : decode cX8_tryThing 238 = .ok (.getfield 13, 3) := by decide +kernel
theorem dX8_tryThing_241 : decode cX8_tryThing 241 = .ok (.bipush 61, 2) := by decide +kernel
theorem dX8_tryThing_243 : decode cX8_tryThing 243 = .ok (.iload_n 2, 1) := by decide +kernel
theorem dX8_tryThing_244 : decode cX8_tryThing 244 = .ok (.iadd, 1) := by decide +kernel
theorem dX8_tryThing_245 : decode cX8_tryThing 245 = .ok (.iaload, 1) := by decide +kernel
theorem dX8_tryThing_246 : decode cX8_tryThing 246 = .ok (.iload_n 3, 1) := by decide +kernel
theorem dX8_tryThing_247 : decode cX8_tryThing 247 = .ok (.if_icmp .lt 7, 3) := by decide +kernel
theorem dX8_tryThing_250 : decode cX8_tryThing 250 = .ok (.iconst 1, 1) := by decide +kernel
theorem dX8_tryThing_251 : decode cX8_tryThing 251 = .ok (.goto 4, 3) := by decide +kernel
theorem dX8_tryThing_254 : decode cX8_tryThing 254 = .ok (.iconst 0, 1) := by decide +kernel
theorem dX8_tryThing_255 : decode cX8_tryThing 255 = .ok (.ireturn, 1) := by decide +kernel
theorem dX8_tryThing_256 : decode cX8_tryThing 256 = .ok (.iload_n 2, 1) := by decide +kernel
theorem dX8_tryThing_257 : decode cX8_tryThing 257 = .ok (.ifCond .ne 27, 3) := by decide +kernel
theorem dX8_tryThing_260 : decode cX8_tryThing 260 = .ok (.aload_n 0, 1) := by decide +kernel
theorem dX8_tryThing_261 : decode cX8_tryThing 261 = .ok (.iconst 1, 1) := by decide +kernel
theorem dX8_tryThing_262 : decode cX8_tryThing 262 = .ok (.iload_n 3, 1) := by decide +kernel
theorem dX8_tryThing_263 : decode cX8_tryThing 263 = .ok (.invokevirtual 99, 3) := by decide +kernel
theorem dX8_tryThing_266 : decode cX8_tryThing 266 = .ok (.ifCond .eq 18, 3) := by decide +kernel
theorem dX8_tryThing_269 : decode cX8_tryThing 269 = .ok (.aload_n 0, 1) := by decide +kernel
theorem dX8_tryThing_270 : decode cX8_tryThing 270 = .ok (.iconst 1, 1) := by decide +kernel
theorem dX8_tryThing_271 : decode cX8_tryThing 271 = .ok (.iload_n 3, 1) := by decide +kernel
theorem dX8_tryThing_272 : decode cX8_tryThing 272 = .ok (.invokevirtual 152, 3) := by decide +kernel
theorem dX8_tryThing_275 : decode cX8_tryThing 275 = .ok (.bipush (-9), 2) := by decide +kernel
theorem dX8_tryThing_277 : decode cX8_tryThing 277 = .ok (.if_icmp .eq 7, 3) := by decide +kernel
theorem dX8_tryThing_280 : decode cX8_tryThing 280 = .ok (.iconst 1, 1) := by decide +kernel
theorem dX8_tryThing_281 : decode cX8_tryThing 281 = .ok (.goto 4, 3) := by decide +kernel
theorem dX8_tryThing_284 : decode cX8_tryThing 284 = .ok (.iconst 0, 1) := by decide +kernel
theorem dX8_tryThing_285 : decode cX8_tryThing 285 = .ok (.ireturn, 1) := by decide +kernel
theorem dX8_tryThing_286 : decode cX8_tryThing 286 = .ok (.iconst 0, 1) := by decide +kernel
theorem dX8_tryThing_287 : decode cX8_tryThing 287 = .ok (.ireturn, 1) := by decide +kernel
theorem dX8_thousandTo_0 : decode cX8_thousandTo 0 = .ok (.iconst 3, 1) := by decide +kernel
theorem dX8_thousandTo_1 : decode cX8_thousandTo 1 = .ok (.iload_n 0, 1) := by decide +kernel
theorem dX8_thousandTo_2 : decode cX8_thousandTo 2 = .ok (.imul, 1) := by decide +kernel
theorem dX8_thousandTo_3 : decode cX8_thousandTo 3 = .ok (.invokestatic 140, 3) := by decide +kernel
theorem dX8_thousandTo_6 : decode cX8_thousandTo 6 = .ok (.lreturn, 1) := by decide +kernel
theorem dX8_judge_0 : decode cX8_judge 0 = .ok (.iload_n 1, 1) := by decide +kernel
theorem dX8_judge_1 : decode cX8_judge 1 = .ok (.i2l, 1) := by decide +kernel
theorem dX8_judge_2 : decode cX8_judge 2 = .ok (.lconst 1, 1) := by decide +kernel
theorem dX8_judge_3 : decode cX8_judge 3 = .ok (.ldc2_w 144, 3) := by decide +kernel
theorem dX8_judge_6 : decode cX8_judge 6 = .ok (.invokestatic 52, 3) := by decide +kernel
theorem dX8_judge_9 : decode cX8_judge 9 = .ok (.ifCond .eq 17, 3) := by decide +kernel
theorem dX8_judge_12 : decode cX8_judge 12 = .ok (.lload_n 2, 1) := by decide +kernel
theorem dX8_judge_13 : decode cX8_judge 13 = .ok (.lconst 0, 1) := by decide +kernel
theorem dX8_judge_14 : decode cX8_judge 14 = .ok (.iload_n 1, 1) := by decide +kernel
theorem dX8_judge_15 : decode cX8_judge 15 = .ok (.invokestatic 202, 3) := by decide +kernel
theorem dX8_judge_18 : decode cX8_judge 18 = .ok (.lconst 1, 1) := by decide +kernel
theorem dX8_judge_19 : decode cX8_judge 19 = .ok (.lsub, 1) := by decide +kernel
theorem dX8_judge_20 : decode cX8_judge 20 = .ok (.invokestatic 52, 3) := by decide +kernel
theorem dX8_judge_23 : decode cX8_judge 23 = .ok (.ifCond .ne 6, 3) := by decide +kernel
theorem dX8_judge_26 : decode cX8_judge 26 = .ok (.bipush (-2), 2) := by decide +kernel
theorem dX8_judge_28 : decode cX8_judge 28 = .ok (.ireturn, 1) := by decide +kernel
theorem dX8_judge_29 : decode cX8_judge 29 = .ok (.aload_n 0, 1) := by decide +kernel
theorem dX8_judge_30 : decode cX8_judge 30 = .ok (.invokevirtual 180, 3) := by decide +kernel
theorem dX8_judge_33 : decode cX8_judge 33 = .ok (.iconst 0, 1) := by decide +kernel
theorem dX8_judge_34 : decode cX8_judge 34 = .ok (.istore 4, 2) := by decide +kernel
theorem dX8_judge_36 : decode cX8_judge 36 = .ok (.iload 4, 2) := by decide +kernel
theorem dX8_judge_38 : decode cX8_judge 38 = .ok (.iload_n 1, 1) := by decide +kernel
theorem dX8_judge_39 : decode cX8_judge 39 = .ok (.if_icmp .ge 55, 3) := by decide +kernel
theorem dX8_judge_42 : decode cX8_judge 42 = .ok (.lload_n 2, 1) := by decide +kernel
theorem dX8_judge_43 : decode cX8_judge 43 = .ok (.iload_n 1, 1) := by decide +kernel
theorem dX8_judge_44 : decode cX8_judge 44 = .ok (.iconst 1, 1) := by decide +kernel
theorem dX8_judge_45 : decode cX8_judge 45 = .ok (.isub, 1) := by decide +kernel
theorem dX8_judge_46 : decode cX8_judge 46 = .ok (.iload 4, 2) := by decide +kernel
theorem dX8_judge_48 : decode cX8_judge 48 = .ok (.isub, 1) := by decide +kernel
theorem dX8_judge_49 : decode cX8_judge 49 = .ok (.invokestatic 202, 3) := by decide +kernel
theorem dX8_judge_52 : decode cX8_judge 52 = .ok (.ldiv, 1) := by decide +kernel
theorem dX8_judge_53 : decode cX8_judge 53 = .ok (.ldc2_w 205, 3) := by decide +kernel
theorem dX8_judge_56 : decode cX8_judge 56 = .ok (.lrem, 1) := by decide +kernel
theorem dX8_judge_57 : decode cX8_judge 57 = .ok (.l2i, 1) := by decide +kernel
theorem dX8_judge_58 : decode cX8_judge 58 = .ok (.istore 5, 2) := by decide +kernel
theorem dX8_judge_60 : decode cX8_judge 60 = .ok (.aload_n 0, 1) := by decide +kernel
theorem dX8_judge_61 : decode cX8_judge 61 = .ok (.iload 5, 2) := by decide +kernel
theorem dX8_judge_63 : decode cX8_judge 63 = .ok (.bipush 100, 2) := by decide +kernel
theorem dX8_judge_65 : decode cX8_judge 65 = .ok (.idiv, 1) := by decide +kernel
theorem dX8_judge_66 : decode cX8_judge 66 = .ok (.iload 5, 2) := by decide +kernel
theorem dX8_judge_68 : decode cX8_judge 68 = .ok (.bipush 10, 2) := by decide +kernel
theorem dX8_judge_70 : decode cX8_judge 70 = .ok (.idiv, 1) := by decide +kernel
theorem dX8_judge_71 : decode cX8_judge 71 = .ok (.bipush 10, 2) := by decide +kernel
theorem dX8_judge_73 : decode cX8_judge 73 = .ok (.irem, 1) := by decide +kernel
theorem dX8_judge_74 : decode cX8_judge 74 = .ok (.iload 5, 2) := by decide +kernel
theorem dX8_judge_76 : decode cX8_judge 76 = .ok (.bipush 10, 2) := by decide +kernel
theorem dX8_judge_78 : decode cX8_judge 78 = .ok (.irem, 1) := by decide +kernel
theorem dX8_judge_79 : decode cX8_judge 79 = .ok (.invokevirtual 207, 3) := by decide +kernel
theorem dX8_judge_82 : decode cX8_judge 82 = .ok (.ifCond .ne 6, 3) := by decide +kernel
theorem dX8_judge_85 : decode cX8_judge 85 = .ok (.iload 4, 2) := by decide +kernel
theorem dX8_judge_87 : decode cX8_judge 87 = .ok (.ireturn, 1) := by decide +kernel
theorem dX8_judge_88 : decode cX8_judge 88 = .ok (.iinc 4 1, 3) := by decide +kernel
theorem dX8_judge_91 : decode cX8_judge 91 = .ok (.goto (-55), 3) := by decide +kernel
theorem dX8_judge_94 : decode cX8_judge 94 = .ok (.bipush (-9), 2) := by decide +kernel
theorem dX8_judge_96 : decode cX8_judge 96 = .ok (.ireturn, 1) := by decide +kernel
theorem dX8_lay_0 : decode cX8_lay 0 = .ok (.iload_n 1, 1) := by decide +kernel
theorem dX8_lay_1 : decode cX8_lay 1 = .ok (.i2l, 1) := by decide +kernel
theorem dX8_lay_2 : decode cX8_lay 2 = .ok (.lconst 0, 1) := by decide +kernel
theorem dX8_lay_3 : decode cX8_lay 3 = .ok (.ldc2_w 210, 3) := by decide +kernel
theorem dX8_lay_6 : decode cX8_lay 6 = .ok (.invokestatic 52, 3) := by decide +kernel
theorem dX8_lay_9 : decode cX8_lay 9 = .ok (.ifCond .eq 13, 3) := by decide +kernel
theorem dX8_lay_12 : decode cX8_lay 12 = .ok (.iload_n 2, 1) := by decide +kernel
theorem dX8_lay_13 : decode cX8_lay 13 = .ok (.i2l, 1) := by decide +kernel
theorem dX8_lay_14 : decode cX8_lay 14 = .ok (.lconst 0, 1) := by decide +kernel
theorem dX8_lay_15 : decode cX8_lay 15 = .ok (.lconst 1, 1) := by decide +kernel
theorem dX8_lay_16 : decode cX8_lay 16 = .ok (.invokestatic 52, 3) := by decide +kernel
theorem dX8_lay_19 : decode cX8_lay 19 = .ok (.ifCond .ne 6, 3) := by decide +kernel
theorem dX8_lay_22 : decode cX8_lay 22 = .ok (.bipush (-2), 2) := by decide +kernel
theorem dX8_lay_24 : decode cX8_lay 24 = .ok (.ireturn, 1) := by decide +kernel
theorem dX8_lay_25 : decode cX8_lay 25 = .ok (.aload_n 0, 1) := by decide +kernel
theorem dX8_lay_26 : decode cX8_lay 26 = .ok (.getfield 212, 3) := by decide +kernel
theorem dX8_lay_29 : decode cX8_lay 29 = .ok (.bipush 6, 2) := by decide +kernel
theorem dX8_lay_31 : decode cX8_lay 31 = .ok (.if_icmp .ne 6, 3) := by decide +kernel
theorem dX8_lay_34 : decode cX8_lay 34 = .ok (.bipush (-4), 2) := by decide +kernel
theorem dX8_lay_36 : decode cX8_lay 36 = .ok (.ireturn, 1) := by decide +kernel
theorem dX8_lay_37 : decode cX8_lay 37 = .ok (.aload_n 0, 1) := by decide +kernel
theorem dX8_lay_38 : decode cX8_lay 38 = .ok (.getfield 37, 3) := by decide +kernel
theorem dX8_lay_41 : decode cX8_lay 41 = .ok (.aload_n 0, 1) := by decide +kernel
theorem dX8_lay_42 : decode cX8_lay 42 = .ok (.getfield 212, 3) := by decide +kernel
theorem dX8_lay_45 : decode cX8_lay 45 = .ok (.iload_n 1, 1) := by decide +kernel
theorem dX8_lay_46 : decode cX8_lay 46 = .ok (.iastore, 1) := by decide +kernel
theorem dX8_lay_47 : decode cX8_lay 47 = .ok (.aload_n 0, 1) := by decide +kernel
theorem dX8_lay_48 : decode cX8_lay 48 = .ok (.getfield 40, 3) := by decide +kernel
theorem dX8_lay_51 : decode cX8_lay 51 = .ok (.aload_n 0, 1) := by decide +kernel
theorem dX8_lay_52 : decode cX8_lay 52 = .ok (.getfield 212, 3) := by decide +kernel
theorem dX8_lay_55 : decode cX8_lay 55 = .ok (.iload_n 2, 1) := by decide +kernel
theorem dX8_lay_56 : decode cX8_lay 56 = .ok (.iastore, 1) := by decide +kernel
theorem dX8_lay_57 : decode cX8_lay 57 = .ok (.aload_n 0, 1) := by decide +kernel
theorem dX8_lay_58 : decode cX8_lay 58 = .ok (.dup, 1) := by decide +kernel
theorem dX8_lay_59 : decode cX8_lay 59 = .ok (.getfield 212, 3) := by decide +kernel
theorem dX8_lay_62 : decode cX8_lay 62 = .ok (.iconst 1, 1) := by decide +kernel
theorem dX8_lay_63 : decode cX8_lay 63 = .ok (.iadd, 1) := by decide +kernel
theorem dX8_lay_64 : decode cX8_lay 64 = .ok (.putfield 212, 3) := by decide +kernel
theorem dX8_lay_67 : decode cX8_lay 67 = .ok (.aload_n 0, 1) := by decide +kernel
theorem dX8_lay_68 : decode cX8_lay 68 = .ok (.getfield 212, 3) := by decide +kernel
theorem dX8_lay_71 : decode cX8_lay 71 = .ok (.ireturn, 1) := by decide +kernel
theorem dX8_unlay_0 : decode cX8_unlay 0 = .ok (.aload_n 0, 1) := by decide +kernel
theorem dX8_unlay_1 : decode cX8_unlay 1 = .ok (.getfield 212, 3) := by decide +kernel
theorem dX8_unlay_4 : decode cX8_unlay 4 = .ok (.istore_n 1, 1) := by decide +kernel
theorem dX8_unlay_5 : decode cX8_unlay 5 = .ok (.aload_n 0, 1) := by decide +kernel
theorem dX8_unlay_6 : decode cX8_unlay 6 = .ok (.iconst 0, 1) := by decide +kernel
theorem dX8_unlay_7 : decode cX8_unlay 7 = .ok (.putfield 212, 3) := by decide +kernel
theorem dX8_unlay_10 : decode cX8_unlay 10 = .ok (.iload_n 1, 1) := by decide +kernel
theorem dX8_unlay_11 : decode cX8_unlay 11 = .ok (.ireturn, 1) := by decide +kernel
theorem dX8_fitsAt_0 : decode cX8_fitsAt 0 = .ok (.iload_n 3, 1) := by decide +kernel
theorem dX8_fitsAt_1 : decode cX8_fitsAt 1 = .ok (.iload_n 2, 1) := by decide +kernel
theorem dX8_fitsAt_2 : decode cX8_fitsAt 2 = .ok (.iadd, 1) := by decide +kernel
theorem dX8_fitsAt_3 : decode cX8_fitsAt 3 = .ok (.aload_n 0, 1) := by decide +kernel
theorem dX8_fitsAt_4 : decode cX8_fitsAt 4 = .ok (.getfield 146, 3) := by decide +kernel
theorem dX8_fitsAt_7 : decode cX8_fitsAt 7 = .ok (.if_icmp .gt 7, 3) := by decide +kernel
theorem dX8_fitsAt_10 : decode cX8_fitsAt 10 = .ok (.iconst 1, 1) := by decide +kernel
theorem dX8_fitsAt_11 : decode cX8_fitsAt 11 = .ok (.goto 4, 3) := by decide +kernel
theorem dX8_fitsAt_14 : decode cX8_fitsAt 14 = .ok (.iconst 0, 1) := by decide +kernel
theorem dX8_fitsAt_15 : decode cX8_fitsAt 15 = .ok (.istore 4, 2) := by decide +kernel
theorem dX8_fitsAt_17 : decode cX8_fitsAt 17 = .ok (.iload_n 1, 1) := by decide +kernel
theorem dX8_fitsAt_18 : decode cX8_fitsAt 18 = .ok (.istore 5, 2) := by decide +kernel
theorem dX8_fitsAt_20 : decode cX8_fitsAt 20 = .ok (.iload_n 2, 1) := by decide +kernel
theorem dX8_fitsAt_21 : decode cX8_fitsAt 21 = .ok (.iconst 1, 1) := by decide +kernel
theorem dX8_fitsAt_22 : decode cX8_fitsAt 22 = .ok (.isub, 1) := by decide +kernel
theorem dX8_fitsAt_23 : decode cX8_fitsAt 23 = .ok (.istore 6, 2) := by decide +kernel
theorem dX8_fitsAt_25 : decode cX8_fitsAt 25 = .ok (.iload 6, 2) := by decide +kernel
theorem dX8_fitsAt_27 : decode cX8_fitsAt 27 = .ok (.ifCond .lt 45, 3) := by decide +kernel
theorem dX8_fitsAt_30 : decode cX8_fitsAt 30 = .ok (.iload 4, 2) := by decide +kernel
theorem dX8_fitsAt_32 : decode cX8_fitsAt 32 = .ok (.ifCond .eq 40, 3) := by decide +kernel
theorem dX8_fitsAt_35 : decode cX8_fitsAt 35 = .ok (.aload_n 0, 1) := by decide +kernel
theorem dX8_fitsAt_36 : decode cX8_fitsAt 36 = .ok (.getfield 28, 3) := by decide +kernel
theorem dX8_fitsAt_39 : decode cX8_fitsAt 39 = .ok (.iload_n 3, 1) := by decide +kernel
theorem dX8_fitsAt_40 : decode cX8_fitsAt 40 = .ok (.iload 6, 2) := by decide +kernel
theorem dX8_fitsAt_42 : decode cX8_fitsAt 42 = .ok (.iadd, 1) := by decide +kernel
theorem dX8_fitsAt_43 : decode cX8_fitsAt 43 = .ok (.iaload, 1) := by decide +kernel
theorem dX8_fitsAt_44 : decode cX8_fitsAt 44 = .ok (.iload 5, 2) := by decide +kernel
theorem dX8_fitsAt_46 : decode cX8_fitsAt 46 = .ok (.bipush 10, 2) := by decide +kernel
theorem dX8_fitsAt_48 : decode cX8_fitsAt 48 = .ok (.irem, 1) := by decide +kernel
theorem dX8_fitsAt_49 : decode cX8_fitsAt 49 = .ok (.if_icmp .ne 7, 3) := by decide +kernel
theorem dX8_fitsAt_52 : decode cX8_fitsAt 52 = .ok (.iconst 1, 1) := by decide +kernel
theorem dX8_fitsAt_53 : decode cX8_fitsAt 53 = .ok (.goto 4, 3) := by decide +kernel
theorem dX8_fitsAt_56 : decode cX8_fitsAt 56 = .ok (.iconst 0, 1) := by decide +kernel
theorem dX8_fitsAt_57 : decode cX8_fitsAt 57 = .ok (.istore 4, 2) := by decide +kernel
theorem dX8_fitsAt_59 : decode cX8_fitsAt 59 = .ok (.iload 5, 2) := by decide +kernel
theorem dX8_fitsAt_61 : decode cX8_fitsAt 61 = .ok (.bipush 10, 2) := by decide +kernel
theorem dX8_fitsAt_63 : decode cX8_fitsAt 63 = .ok (.idiv, 1) := by decide +kernel
theorem dX8_fitsAt_64 : decode cX8_fitsAt 64 = .ok (.istore 5, 2) := by decide +kernel
theorem dX8_fitsAt_66 : decode cX8_fitsAt 66 = .ok (.iinc 6 (-1), 3) := by decide +kernel
theorem dX8_fitsAt_69 : decode cX8_fitsAt 69 = .ok (.goto (-44), 3) := by decide +kernel
theorem dX8_fitsAt_72 : decode cX8_fitsAt 72 = .ok (.iload 4, 2) := by decide +kernel
theorem dX8_fitsAt_74 : decode cX8_fitsAt 74 = .ok (.ireturn, 1) := by decide +kernel
theorem dX8_mayBeLaid_0 : decode cX8_mayBeLaid 0 = .ok (.iconst 1, 1) := by decide +kernel
theorem dX8_mayBeLaid_1 : decode cX8_mayBeLaid 1 = .ok (.istore_n 3, 1) := by decide +kernel
theorem dX8_mayBeLaid_2 : decode cX8_mayBeLaid 2 = .ok (.iconst 0, 1) := by decide +kernel
theorem dX8_mayBeLaid_3 : decode cX8_mayBeLaid 3 = .ok (.istore 4, 2) := by decide +kernel
theorem dX8_mayBeLaid_5 : decode cX8_mayBeLaid 5 = .ok (.iload 4, 2) := by decide +kernel
theorem dX8_mayBeLaid_7 : decode cX8_mayBeLaid 7 = .ok (.aload_n 0, 1) := by decide +kernel
theorem dX8_mayBeLaid_8 : decode cX8_mayBeLaid 8 = .ok (.getfield 212, 3) := by decide +kernel
theorem dX8_mayBeLaid_11 : decode cX8_mayBeLaid 11 = .ok (.if_icmp .ge 51, 3) := by decide +kernel
theorem dX8_mayBeLaid_14 : decode cX8_mayBeLaid 14 = .ok (.iload_n 3, 1) := by decide +kernel
theorem dX8_mayBeLaid_15 : decode cX8_mayBeLaid 15 = .ok (.ifCond .eq 39, 3) := by decide +kernel
theorem dX8_mayBeLaid_18 : decode cX8_mayBeLaid 18 = .ok (.aload_n 0, 1) := by decide +kernel
theorem dX8_mayBeLaid_19 : decode cX8_mayBeLaid 19 = .ok (.iload_n 1, 1) := by decide +kernel
theorem dX8_mayBeLaid_20 : decode cX8_mayBeLaid 20 = .ok (.iload_n 2, 1) := by decide +kernel
theorem dX8_mayBeLaid_21 : decode cX8_mayBeLaid 21 = .ok (.aload_n 0, 1) := by decide +kernel
theorem dX8_mayBeLaid_22 : decode cX8_mayBeLaid 22 = .ok (.getfield 37, 3) := by decide +kernel
theorem dX8_mayBeLaid_25 : decode cX8_mayBeLaid 25 = .ok (.iload 4, 2) := by decide +kernel
theorem dX8_mayBeLaid_27 : decode cX8_mayBeLaid 27 = .ok (.iaload, 1) := by decide +kernel
theorem dX8_mayBeLaid_28 : decode cX8_mayBeLaid 28 = .ok (.invokevirtual 215, 3) := by decide +kernel
theorem dX8_mayBeLaid_31 : decode cX8_mayBeLaid 31 = .ok (.aload_n 0, 1) := by decide +kernel
theorem dX8_mayBeLaid_32 : decode cX8_mayBeLaid 32 = .ok (.getfield 40, 3) := by decide +kernel
theorem dX8_mayBeLaid_35 : decode cX8_mayBeLaid 35 = .ok (.iload 4, 2) := by decide +kernel
theorem dX8_mayBeLaid_37 : decode cX8_mayBeLaid 37 = .ok (.iaload, 1) := by decide +kernel
theorem dX8_mayBeLaid_38 : decode cX8_mayBeLaid 38 = .ok (.iconst 1, 1) := by decide +kernel
theorem dX8_mayBeLaid_39 : decode cX8_mayBeLaid 39 = .ok (.if_icmp .ne 7, 3) := by decide +kernel
theorem dX8_mayBeLaid_42 : decode cX8_mayBeLaid 42 = .ok (.iconst 1, 1) := by decide +kernel
theorem dX8_mayBeLaid_43 : decode cX8_mayBeLaid 43 = .ok (.goto 4, 3) := by decide +kernel
theorem dX8_mayBeLaid_46 : decode cX8_mayBeLaid 46 = .ok (.iconst 0, 1) := by decide +kernel
theorem dX8_mayBeLaid_47 : decode cX8_mayBeLaid 47 = .ok (.if_icmp .ne 7, 3) := by decide +kernel
theorem dX8_mayBeLaid_50 : decode cX8_mayBeLaid 50 = .ok (.iconst 1, 1) := by decide +kernel
theorem dX8_mayBeLaid_51 : decode cX8_mayBeLaid 51 = .ok (.goto 4, 3) := by decide +kernel
theorem dX8_mayBeLaid_54 : decode cX8_mayBeLaid 54 = .ok (.iconst 0, 1) := by decide +kernel
theorem dX8_mayBeLaid_55 : decode cX8_mayBeLaid 55 = .ok (.istore_n 3, 1) := by decide +kernel
theorem dX8_mayBeLaid_56 : decode cX8_mayBeLaid 56 = .ok (.iinc 4 1, 3) := by decide +kernel
theorem dX8_mayBeLaid_59 : decode cX8_mayBeLaid 59 = .ok (.goto (-54), 3) := by decide +kernel
theorem dX8_mayBeLaid_62 : decode cX8_mayBeLaid 62 = .ok (.iload_n 3, 1) := by decide +kernel
theorem dX8_mayBeLaid_63 : decode cX8_mayBeLaid 63 = .ok (.ireturn, 1) := by decide +kernel
theorem dX8_areBends_0 : decode cX8_areBends 0 = .ok (.iconst 1, 1) := by decide +kernel
theorem dX8_areBends_1 : decode cX8_areBends 1 = .ok (.istore_n 1, 1) := by decide +kernel
theorem dX8_areBends_2 : decode cX8_areBends 2 = .ok (.iload_n 0, 1) := by decide +kernel
theorem dX8_areBends_3 : decode cX8_areBends 3 = .ok (.istore_n 2, 1) := by decide +kernel
theorem dX8_areBends_4 : decode cX8_areBends 4 = .ok (.iload_n 2, 1) := by decide +kernel
theorem dX8_areBends_5 : decode cX8_areBends 5 = .ok (.ifCond .le 36, 3) := by decide +kernel
theorem dX8_areBends_8 : decode cX8_areBends 8 = .ok (.iload_n 1, 1) := by decide +kernel
theorem dX8_areBends_9 : decode cX8_areBends 9 = .ok (.ifCond .eq 22, 3) := by decide +kernel
theorem dX8_areBends_12 : decode cX8_areBends 12 = .ok (.iload_n 2, 1) := by decide +kernel
theorem dX8_areBends_13 : decode cX8_areBends 13 = .ok (.bipush 10, 2) := by decide +kernel
theorem dX8_areBends_15 : decode cX8_areBends 15 = .ok (.irem, 1) := by decide +kernel
theorem dX8_areBends_16 : decode cX8_areBends 16 = .ok (.i2l, 1) := by decide +kernel
theorem dX8_areBends_17 : decode cX8_areBends 17 = .ok (.lconst 1, 1) := by decide +kernel
theorem dX8_areBends_18 : decode cX8_areBends 18 = .ok (.ldc2_w 144, 3) := by decide +kernel
theorem dX8_areBends_21 : decode cX8_areBends 21 = .ok (.invokestatic 52, 3) := by decide +kernel
theorem dX8_areBends_24 : decode cX8_areBends 24 = .ok (.ifCond .eq 7, 3) := by decide +kernel
theorem dX8_areBends_27 : decode cX8_areBends 27 = .ok (.iconst 1, 1) := by decide +kernel
theorem dX8_areBends_28 : decode cX8_areBends 28 = .ok (.goto 4, 3) := by decide +kernel
theorem dX8_areBends_31 : decode cX8_areBends 31 = .ok (.iconst 0, 1) := by decide +kernel
theorem dX8_areBends_32 : decode cX8_areBends 32 = .ok (.istore_n 1, 1) := by decide +kernel
theorem dX8_areBends_33 : decode cX8_areBends 33 = .ok (.iload_n 2, 1) := by decide +kernel
theorem dX8_areBends_34 : decode cX8_areBends 34 = .ok (.bipush 10, 2) := by decide +kernel
theorem dX8_areBends_36 : decode cX8_areBends 36 = .ok (.idiv, 1) := by decide +kernel
theorem dX8_areBends_37 : decode cX8_areBends 37 = .ok (.istore_n 2, 1) := by decide +kernel
theorem dX8_areBends_38 : decode cX8_areBends 38 = .ok (.goto (-34), 3) := by decide +kernel
theorem dX8_areBends_41 : decode cX8_areBends 41 = .ok (.iload_n 1, 1) := by decide +kernel
theorem dX8_areBends_42 : decode cX8_areBends 42 = .ok (.ireturn, 1) := by decide +kernel
theorem dX8_which_0 : decode cX8_which 0 = .ok (.iload_n 1, 1) := by decide +kernel
theorem dX8_which_1 : decode cX8_which 1 = .ok (.i2l, 1) := by decide +kernel
theorem dX8_which_2 : decode cX8_which 2 = .ok (.lconst 0, 1) := by decide +kernel
theorem dX8_which_3 : decode cX8_which 3 = .ok (.lconst 1, 1) := by decide +kernel
theorem dX8_which_4 : decode cX8_which 4 = .ok (.invokestatic 52, 3) := by decide +kernel
theorem dX8_which_7 : decode cX8_which 7 = .ok (.ifCond .ne 6, 3) := by decide +kernel
theorem dX8_which_10 : decode cX8_which 10 = .ok (.bipush (-2), 2) := by decide +kernel
theorem dX8_which_12 : decode cX8_which 12 = .ok (.ireturn, 1) := by decide +kernel
theorem dX8_which_13 : decode cX8_which 13 = .ok (.iconst 0, 1) := by decide +kernel
theorem dX8_which_14 : decode cX8_which 14 = .ok (.istore_n 2, 1) := by decide +kernel
theorem dX8_which_15 : decode cX8_which 15 = .ok (.bipush (-9), 2) := by decide +kernel
theorem dX8_which_17 : decode cX8_which 17 = .ok (.istore_n 3, 1) := by decide +kernel
theorem dX8_which_18 : decode cX8_which 18 = .ok (.iconst 1, 1) := by decide +kernel
theorem dX8_which_19 : decode cX8_which 19 = .ok (.istore 4, 2) := by decide +kernel
theorem dX8_which_21 : decode cX8_which 21 = .ok (.iload 4, 2) := by decide +kernel
theorem dX8_which_23 : decode cX8_which 23 = .ok (.sipush 445, 3) := by decide +kernel
theorem dX8_which_26 : decode cX8_which 26 = .ok (.if_icmp .ge 67, 3) := by decide +kernel
theorem dX8_which_29 : decode cX8_which 29 = .ok (.iload 4, 2) := by decide +kernel
theorem dX8_which_31 : decode cX8_which 31 = .ok (.bipush 10, 2) := by decide +kernel
theorem dX8_which_33 : decode cX8_which 33 = .ok (.if_icmp .ge 7, 3) := by decide +kernel
theorem dX8_which_36 : decode cX8_which 36 = .ok (.iconst 1, 1) := by decide +kernel
theorem dX8_which_37 : decode cX8_which 37 = .ok (.goto 15, 3) := by decide +kernel
theorem dX8_which_40 : decode cX8_which 40 = .ok (.iload 4, 2) := by decide +kernel
theorem dX8_which_42 : decode cX8_which 42 = .ok (.bipush 100, 2) := by decide +kernel
theorem dX8_which_44 : decode cX8_which 44 = .ok (.if_icmp .ge 7, 3) := by decide +kernel
theorem dX8_which_47 : decode cX8_which 47 = .ok (.iconst 2, 1) := by decide +kernel
theorem dX8_which_48 : decode cX8_which 48 = .ok (.goto 4, 3) := by decide +kernel
theorem dX8_which_51 : decode cX8_which 51 = .ok (.iconst 3, 1) := by decide +kernel
theorem dX8_which_52 : decode cX8_which 52 = .ok (.istore 5, 2) := by decide +kernel
theorem dX8_which_54 : decode cX8_which 54 = .ok (.iload 4, 2) := by decide +kernel
theorem dX8_which_56 : decode cX8_which 56 = .ok (.invokestatic 218, 3) := by decide +kernel
theorem dX8_which_59 : decode cX8_which 59 = .ok (.ifCond .eq 28, 3) := by decide +kernel
theorem dX8_which_62 : decode cX8_which 62 = .ok (.aload_n 0, 1) := by decide +kernel
theorem dX8_which_63 : decode cX8_which 63 = .ok (.iload 4, 2) := by decide +kernel
theorem dX8_which_65 : decode cX8_which 65 = .ok (.iload 5, 2) := by decide +kernel
theorem dX8_which_67 : decode cX8_which 67 = .ok (.invokevirtual 221, 3) := by decide +kernel
theorem dX8_which_70 : decode cX8_which 70 = .ok (.ifCond .eq 17, 3) := by decide +kernel
theorem dX8_which_73 : decode cX8_which 73 = .ok (.iload_n 2, 1) := by decide +kernel
theorem dX8_which_74 : decode cX8_which 74 = .ok (.ifCond .ne 8, 3) := by decide +kernel
theorem dX8_which_77 : decode cX8_which 77 = .ok (.iload 4, 2) := by decide +kernel
theorem dX8_which_79 : decode cX8_which 79 = .ok (.goto 4, 3) := by decide +kernel
theorem dX8_which_82 : decode cX8_which 82 = .ok (.iload_n 3, 1) := by decide +kernel
theorem dX8_which_83 : decode cX8_which 83 = .ok (.istore_n 3, 1) := by decide +kernel
theorem dX8_which_84 : decode cX8_which 84 = .ok (.iinc 2 1, 3) := by decide +kernel
theorem dX8_which_87 : decode cX8_which 87 = .ok (.iinc 4 1, 3) := by decide +kernel
theorem dX8_which_90 : decode cX8_which 90 = .ok (.goto (-69), 3) := by decide +kernel
theorem dX8_which_93 : decode cX8_which 93 = .ok (.iload_n 1, 1) := by decide +kernel
theorem dX8_which_94 : decode cX8_which 94 = .ok (.ifCond .ne 7, 3) := by decide +kernel
theorem dX8_which_97 : decode cX8_which 97 = .ok (.iload_n 2, 1) := by decide +kernel
theorem dX8_which_98 : decode cX8_which 98 = .ok (.goto 4, 3) := by decide +kernel
theorem dX8_which_101 : decode cX8_which 101 = .ok (.iload_n 3, 1) := by decide +kernel
theorem dX8_which_102 : decode cX8_which 102 = .ok (.ireturn, 1) := by decide +kernel
theorem dX8_factorial_0 : decode cX8_factorial 0 = .ok (.iconst 1, 1) := by decide +kernel
theorem dX8_factorial_1 : decode cX8_factorial 1 = .ok (.istore_n 1, 1) := by decide +kernel
theorem dX8_factorial_2 : decode cX8_factorial 2 = .ok (.iconst 2, 1) := by decide +kernel
theorem dX8_factorial_3 : decode cX8_factorial 3 = .ok (.istore_n 2, 1) := by decide +kernel
theorem dX8_factorial_4 : decode cX8_factorial 4 = .ok (.iload_n 2, 1) := by decide +kernel
theorem dX8_factorial_5 : decode cX8_factorial 5 = .ok (.iload_n 0, 1) := by decide +kernel
theorem dX8_factorial_6 : decode cX8_factorial 6 = .ok (.if_icmp .gt 13, 3) := by decide +kernel
theorem dX8_factorial_9 : decode cX8_factorial 9 = .ok (.iload_n 1, 1) := by decide +kernel
theorem dX8_factorial_10 : decode cX8_factorial 10 = .ok (.iload_n 2, 1) := by decide +kernel
theorem dX8_factorial_11 : decode cX8_factorial 11 = .ok (.imul, 1) := by decide +kernel
theorem dX8_factorial_12 : decode cX8_factorial 12 = .ok (.istore_n 1, 1) := by decide +kernel
theorem dX8_factorial_13 : decode cX8_factorial 13 = .ok (.iinc 2 1, 3) := by decide +kernel
theorem dX8_factorial_16 : decode cX8_factorial 16 = .ok (.goto (-12), 3) := by decide +kernel
theorem dX8_factorial_19 : decode cX8_factorial 19 = .ok (.iload_n 1, 1) := by decide +kernel
theorem dX8_factorial_20 : decode cX8_factorial 20 = .ok (.ireturn, 1) := by decide +kernel
theorem dX8_common_0 : decode cX8_common 0 = .ok (.iload_n 0, 1) := by decide +kernel
theorem dX8_common_1 : decode cX8_common 1 = .ok (.ifCond .ge 8, 3) := by decide +kernel
theorem dX8_common_4 : decode cX8_common 4 = .ok (.iload_n 0, 1) := by decide +kernel
theorem dX8_common_5 : decode cX8_common 5 = .ok (.ineg, 1) := by decide +kernel
theorem dX8_common_6 : decode cX8_common 6 = .ok (.goto 4, 3) := by decide +kernel
theorem dX8_common_9 : decode cX8_common 9 = .ok (.iload_n 0, 1) := by decide +kernel
theorem dX8_common_10 : decode cX8_common 10 = .ok (.istore_n 2, 1) := by decide +kernel
theorem dX8_common_11 : decode cX8_common 11 = .ok (.iload_n 1, 1) := by decide +kernel
theorem dX8_common_12 : decode cX8_common 12 = .ok (.istore_n 3, 1) := by decide +kernel
theorem dX8_common_13 : decode cX8_common 13 = .ok (.iload_n 3, 1) := by decide +kernel
theorem dX8_common_14 : decode cX8_common 14 = .ok (.ifCond .eq 16, 3) := by decide +kernel
theorem dX8_common_17 : decode cX8_common 17 = .ok (.iload_n 2, 1) := by decide +kernel
theorem dX8_common_18 : decode cX8_common 18 = .ok (.iload_n 3, 1) := by decide +kernel
theorem dX8_common_19 : decode cX8_common 19 = .ok (.irem, 1) := by decide +kernel
theorem dX8_common_20 : decode cX8_common 20 = .ok (.istore 4, 2) := by decide +kernel
theorem dX8_common_22 : decode cX8_common 22 = .ok (.iload_n 3, 1) := by decide +kernel
theorem dX8_common_23 : decode cX8_common 23 = .ok (.istore_n 2, 1) := by decide +kernel
theorem dX8_common_24 : decode cX8_common 24 = .ok (.iload 4, 2) := by decide +kernel
theorem dX8_common_26 : decode cX8_common 26 = .ok (.istore_n 3, 1) := by decide +kernel
theorem dX8_common_27 : decode cX8_common 27 = .ok (.goto (-14), 3) := by decide +kernel
theorem dX8_common_30 : decode cX8_common 30 = .ok (.iload_n 2, 1) := by decide +kernel
theorem dX8_common_31 : decode cX8_common 31 = .ok (.ireturn, 1) := by decide +kernel
theorem dX8_share_0 : decode cX8_share 0 = .ok (.aload_n 0, 1) := by decide +kernel
theorem dX8_share_1 : decode cX8_share 1 = .ok (.iconst 0, 1) := by decide +kernel
theorem dX8_share_2 : decode cX8_share 2 = .ok (.iload_n 1, 1) := by decide +kernel
theorem dX8_share_3 : decode cX8_share 3 = .ok (.invokevirtual 99, 3) := by decide +kernel
theorem dX8_share_6 : decode cX8_share 6 = .ok (.ifCond .ne 5, 3) := by decide +kernel
theorem dX8_share_9 : decode cX8_share 9 = .ok (.iconst (-1), 1) := by decide +kernel
theorem dX8_share_10 : decode cX8_share 10 = .ok (.ireturn, 1) := by decide +kernel
theorem dX8_share_11 : decode cX8_share 11 = .ok (.aload_n 0, 1) := by decide +kernel
theorem dX8_share_12 : decode cX8_share 12 = .ok (.iconst 0, 1) := by decide +kernel
theorem dX8_share_13 : decode cX8_share 13 = .ok (.invokevirtual 116, 3) := by decide +kernel
theorem dX8_share_16 : decode cX8_share 16 = .ok (.istore_n 3, 1) := by decide +kernel
theorem dX8_share_17 : decode cX8_share 17 = .ok (.iload_n 3, 1) := by decide +kernel
theorem dX8_share_18 : decode cX8_share 18 = .ok (.invokestatic 112, 3) := by decide +kernel
theorem dX8_share_21 : decode cX8_share 21 = .ok (.istore 4, 2) := by decide +kernel
theorem dX8_share_23 : decode cX8_share 23 = .ok (.iconst 0, 1) := by decide +kernel
theorem dX8_share_24 : decode cX8_share 24 = .ok (.istore 5, 2) := by decide +kernel
theorem dX8_share_26 : decode cX8_share 26 = .ok (.iconst 0, 1) := by decide +kernel
theorem dX8_share_27 : decode cX8_share 27 = .ok (.istore 6, 2) := by decide +kernel
theorem dX8_share_29 : decode cX8_share 29 = .ok (.iload 6, 2) := by decide +kernel
theorem dX8_share_31 : decode cX8_share 31 = .ok (.bipush 16, 2) := by decide +kernel
theorem dX8_share_33 : decode cX8_share 33 = .ok (.if_icmp .ge 82, 3) := by decide +kernel
theorem dX8_share_36 : decode cX8_share 36 = .ok (.iload 6, 2) := by decide +kernel
theorem dX8_share_38 : decode cX8_share 38 = .ok (.iload_n 3, 1) := by decide +kernel
theorem dX8_share_39 : decode cX8_share 39 = .ok (.iconst (-1), 1) := by decide +kernel
theorem dX8_share_40 : decode cX8_share 40 = .ok (.ixor, 1) := by decide +kernel
theorem dX8_share_41 : decode cX8_share 41 = .ok (.iand, 1) := by decide +kernel
theorem dX8_share_42 : decode cX8_share 42 = .ok (.ifCond .ne 67, 3) := by decide +kernel
theorem dX8_share_45 : decode cX8_share 45 = .ok (.iload 6, 2) := by decide +kernel
theorem dX8_share_47 : decode cX8_share 47 = .ok (.iload_n 1, 1) := by decide +kernel
theorem dX8_share_48 : decode cX8_share 48 = .ok (.invokestatic 106, 3) := by decide +kernel
theorem dX8_share_51 : decode cX8_share 51 = .ok (.ifCond .ne 58, 3) := by decide +kernel
theorem dX8_share_54 : decode cX8_share 54 = .ok (.iload 6, 2) := by decide +kernel
theorem dX8_share_56 : decode cX8_share 56 = .ok (.invokestatic 112, 3) := by decide +kernel
theorem dX8_share_59 : decode cX8_share 59 = .ok (.invokestatic 224, 3) := by decide +kernel
theorem dX8_share_62 : decode cX8_share 62 = .ok (.iload 4, 2) := by decide +kernel
theorem dX8_share_64 : decode cX8_share 64 = .ok (.iconst 1, 1) := by decide +kernel
theorem dX8_share_65 : decode cX8_share 65 = .ok (.isub, 1) := by decide +kernel
theorem dX8_share_66 : decode cX8_share 66 = .ok (.iload 6, 2) := by decide +kernel
theorem dX8_share_68 : decode cX8_share 68 = .ok (.invokestatic 112, 3) := by decide +kernel
theorem dX8_share_71 : decode cX8_share 71 = .ok (.isub, 1) := by decide +kernel
theorem dX8_share_72 : decode cX8_share 72 = .ok (.invokestatic 224, 3) := by decide +kernel
theorem dX8_share_75 : decode cX8_share 75 = .ok (.imul, 1) := by decide +kernel
theorem dX8_share_76 : decode cX8_share 76 = .ok (.istore 7, 2) := by decide +kernel
theorem dX8_share_78 : decode cX8_share 78 = .ok (.iload 5, 2) := by decide +kernel
theorem dX8_share_80 : decode cX8_share 80 = .ok (.iload 7, 2) := by decide +kernel
theorem dX8_share_82 : decode cX8_share 82 = .ok (.aload_n 0, 1) := by decide +kernel
theorem dX8_share_83 : decode cX8_share 83 = .ok (.iload 6, 2) := by decide +kernel
theorem dX8_share_85 : decode cX8_share 85 = .ok (.iconst 1, 1) := by decide +kernel
theorem dX8_share_86 : decode cX8_share 86 = .ok (.iload_n 1, 1) := by decide +kernel
theorem dX8_share_87 : decode cX8_share 87 = .ok (.ishl, 1) := by decide +kernel
theorem dX8_share_88 : decode cX8_share 88 = .ok (.ior, 1) := by decide +kernel
theorem dX8_share_89 : decode cX8_share 89 = .ok (.invokevirtual 195, 3) := by decide +kernel
theorem dX8_share_92 : decode cX8_share 92 = .ok (.invokestatic 112, 3) := by decide +kernel
theorem dX8_share_95 : decode cX8_share 95 = .ok (.aload_n 0, 1) := by decide +kernel
theorem dX8_share_96 : decode cX8_share 96 = .ok (.iload 6, 2) := by decide +kernel
theorem dX8_share_98 : decode cX8_share 98 = .ok (.invokevirtual 195, 3) := by decide +kernel
theorem dX8_share_101 : decode cX8_share 101 = .ok (.invokestatic 112, 3) := by decide +kernel
theorem dX8_share_104 : decode cX8_share 104 = .ok (.isub, 1) := by decide +kernel
theorem dX8_share_105 : decode cX8_share 105 = .ok (.imul, 1) := by decide +kernel
theorem dX8_share_106 : decode cX8_share 106 = .ok (.iadd, 1) := by decide +kernel
theorem dX8_share_107 : decode cX8_share 107 = .ok (.istore 5, 2) := by decide +kernel
theorem dX8_share_109 : decode cX8_share 109 = .ok (.iinc 6 1, 3) := by decide +kernel
theorem dX8_share_112 : decode cX8_share 112 = .ok (.goto (-83), 3) := by decide +kernel
theorem dX8_share_115 : decode cX8_share 115 = .ok (.iload 5, 2) := by decide +kernel
theorem dX8_share_117 : decode cX8_share 117 = .ok (.iload 4, 2) := by decide +kernel
theorem dX8_share_119 : decode cX8_share 119 = .ok (.invokestatic 224, 3) := by decide +kernel
theorem dX8_share_122 : decode cX8_share 122 = .ok (.invokestatic 227, 3) := by decide +kernel
theorem dX8_share_125 : decode cX8_share 125 = .ok (.istore 6, 2) := by decide +kernel
theorem dX8_share_127 : decode cX8_share 127 = .ok (.iload_n 2, 1) := by decide +kernel
theorem dX8_share_128 : decode cX8_share 128 = .ok (.ifCond .eq 11, 3) := by decide +kernel
theorem dX8_share_131 : decode cX8_share 131 = .ok (.iload 5, 2) := by decide +kernel
theorem dX8_share_133 : decode cX8_share 133 = .ok (.iload 6, 2) := by decide +kernel
theorem dX8_share_135 : decode cX8_share 135 = .ok (.idiv, 1) := by decide +kernel
theorem dX8_share_136 : decode cX8_share 136 = .ok (.goto 11, 3) := by decide +kernel
theorem dX8_share_139 : decode cX8_share 139 = .ok (.iload 4, 2) := by decide +kernel
theorem dX8_share_141 : decode cX8_share 141 = .ok (.invokestatic 224, 3) := by decide +kernel
theorem dX8_share_144 : decode cX8_share 144 = .ok (.iload 6, 2) := by decide +kernel
theorem dX8_share_146 : decode cX8_share 146 = .ok (.idiv, 1) := by decide +kernel
theorem dX8_share_147 : decode cX8_share 147 = .ok (.ireturn, 1) := by decide +kernel
theorem dX8_gain_0 : decode cX8_gain 0 = .ok (.aload_n 0, 1) := by decide +kernel
theorem dX8_gain_1 : decode cX8_gain 1 = .ok (.invokevirtual 180, 3) := by decide +kernel
theorem dX8_gain_4 : decode cX8_gain 4 = .ok (.aload_n 0, 1) := by decide +kernel
theorem dX8_gain_5 : decode cX8_gain 5 = .ok (.getfield 13, 3) := by decide +kernel
theorem dX8_gain_8 : decode cX8_gain 8 = .ok (.bipush 57, 2) := by decide +kernel
theorem dX8_gain_10 : decode cX8_gain 10 = .ok (.iload_n 1, 1) := by decide +kernel
theorem dX8_gain_11 : decode cX8_gain 11 = .ok (.iadd, 1) := by decide +kernel
theorem dX8_gain_12 : decode cX8_gain 12 = .ok (.iload_n 3, 1) := by decide +kernel
theorem dX8_gain_13 : decode cX8_gain 13 = .ok (.iastore, 1) := by decide +kernel
theorem dX8_gain_14 : decode cX8_gain 14 = .ok (.aload_n 0, 1) := by decide +kernel
theorem dX8_gain_15 : decode cX8_gain 15 = .ok (.getfield 13, 3) := by decide +kernel
theorem dX8_gain_18 : decode cX8_gain 18 = .ok (.bipush 57, 2) := by decide +kernel
theorem dX8_gain_20 : decode cX8_gain 20 = .ok (.iload_n 2, 1) := by decide +kernel
theorem dX8_gain_21 : decode cX8_gain 21 = .ok (.iadd, 1) := by decide +kernel
theorem dX8_gain_22 : decode cX8_gain 22 = .ok (.iload 4, 2) := by decide +kernel
theorem dX8_gain_24 : decode cX8_gain 24 = .ok (.iastore, 1) := by decide +kernel
theorem dX8_gain_25 : decode cX8_gain 25 = .ok (.aload_n 0, 1) := by decide +kernel
theorem dX8_gain_26 : decode cX8_gain 26 = .ok (.iconst 1, 1) := by decide +kernel
theorem dX8_gain_27 : decode cX8_gain 27 = .ok (.invokevirtual 163, 3) := by decide +kernel
theorem dX8_gain_30 : decode cX8_gain 30 = .ok (.pop, 1) := by decide +kernel
theorem dX8_gain_31 : decode cX8_gain 31 = .ok (.iconst 2, 1) := by decide +kernel
theorem dX8_gain_32 : decode cX8_gain 32 = .ok (.aload_n 0, 1) := by decide +kernel
theorem dX8_gain_33 : decode cX8_gain 33 = .ok (.getfield 13, 3) := by decide +kernel
theorem dX8_gain_36 : decode cX8_gain 36 = .ok (.bipush 61, 2) := by decide +kernel
theorem dX8_gain_38 : decode cX8_gain 38 = .ok (.iload 5, 2) := by decide +kernel
theorem dX8_gain_40 : decode cX8_gain 40 = .ok (.iadd, 1) := by decide +kernel
theorem dX8_gain_41 : decode cX8_gain 41 = .ok (.iaload, 1) := by decide +kernel
theorem dX8_gain_42 : decode cX8_gain 42 = .ok (.imul, 1) := by decide +kernel
theorem dX8_gain_43 : decode cX8_gain 43 = .ok (.aload_n 0, 1) := by decide +kernel
theorem dX8_gain_44 : decode cX8_gain 44 = .ok (.getfield 13, 3) := by decide +kernel
theorem dX8_gain_47 : decode cX8_gain 47 = .ok (.bipush 57, 2) := by decide +kernel
theorem dX8_gain_49 : decode cX8_gain 49 = .ok (.iload 5, 2) := by decide +kernel
theorem dX8_gain_51 : decode cX8_gain 51 = .ok (.iadd, 1) := by decide +kernel
theorem dX8_gain_52 : decode cX8_gain 52 = .ok (.iaload, 1) := by decide +kernel
theorem dX8_gain_53 : decode cX8_gain 53 = .ok (.aload_n 0, 1) := by decide +kernel
theorem dX8_gain_54 : decode cX8_gain 54 = .ok (.getfield 13, 3) := by decide +kernel
theorem dX8_gain_57 : decode cX8_gain 57 = .ok (.iload 5, 2) := by decide +kernel
theorem dX8_gain_59 : decode cX8_gain 59 = .ok (.iaload, 1) := by decide +kernel
theorem dX8_gain_60 : decode cX8_gain 60 = .ok (.if_icmp .ne 7, 3) := by decide +kernel
theorem dX8_gain_63 : decode cX8_gain 63 = .ok (.iconst 1, 1) := by decide +kernel
theorem dX8_gain_64 : decode cX8_gain 64 = .ok (.goto 4, 3) := by decide +kernel
theorem dX8_gain_67 : decode cX8_gain 67 = .ok (.iconst 0, 1) := by decide +kernel
theorem dX8_gain_68 : decode cX8_gain 68 = .ok (.iadd, 1) := by decide +kernel
theorem dX8_gain_69 : decode cX8_gain 69 = .ok (.ireturn, 1) := by decide +kernel
theorem dX8_isRest_0 : decode cX8_isRest 0 = .ok (.iconst 1, 1) := by decide +kernel
theorem dX8_isRest_1 : decode cX8_isRest 1 = .ok (.istore 5, 2) := by decide +kernel
theorem dX8_isRest_3 : decode cX8_isRest 3 = .ok (.iconst 0, 1) := by decide +kernel
theorem dX8_isRest_4 : decode cX8_isRest 4 = .ok (.istore 6, 2) := by decide +kernel
theorem dX8_isRest_6 : decode cX8_isRest 6 = .ok (.iload 6, 2) := by decide +kernel
theorem dX8_isRest_8 : decode cX8_isRest 8 = .ok (.iconst 4, 1) := by decide +kernel
theorem dX8_isRest_9 : decode cX8_isRest 9 = .ok (.if_icmp .ge 68, 3) := by decide +kernel
theorem dX8_isRest_12 : decode cX8_isRest 12 = .ok (.iload 5, 2) := by decide +kernel
theorem dX8_isRest_14 : decode cX8_isRest 14 = .ok (.ifCond .eq 54, 3) := by decide +kernel
theorem dX8_isRest_17 : decode cX8_isRest 17 = .ok (.aload_n 0, 1) := by decide +kernel
theorem dX8_isRest_18 : decode cX8_isRest 18 = .ok (.iload_n 1, 1) := by decide +kernel
theorem dX8_isRest_19 : decode cX8_isRest 19 = .ok (.iload_n 2, 1) := by decide +kernel
theorem dX8_isRest_20 : decode cX8_isRest 20 = .ok (.iload 6, 2) := by decide +kernel
theorem dX8_isRest_22 : decode cX8_isRest 22 = .ok (.iload 4, 2) := by decide +kernel
theorem dX8_isRest_24 : decode cX8_isRest 24 = .ok (.iload_n 1, 1) := by decide +kernel
theorem dX8_isRest_25 : decode cX8_isRest 25 = .ok (.invokevirtual 230, 3) := by decide +kernel
theorem dX8_isRest_28 : decode cX8_isRest 28 = .ok (.aload_n 0, 1) := by decide +kernel
theorem dX8_isRest_29 : decode cX8_isRest 29 = .ok (.iload_n 1, 1) := by decide +kernel
theorem dX8_isRest_30 : decode cX8_isRest 30 = .ok (.iload_n 2, 1) := by decide +kernel
theorem dX8_isRest_31 : decode cX8_isRest 31 = .ok (.iload_n 3, 1) := by decide +kernel
theorem dX8_isRest_32 : decode cX8_isRest 32 = .ok (.iload 4, 2) := by decide +kernel
theorem dX8_isRest_34 : decode cX8_isRest 34 = .ok (.iload_n 1, 1) := by decide +kernel
theorem dX8_isRest_35 : decode cX8_isRest 35 = .ok (.invokevirtual 230, 3) := by decide +kernel
theorem dX8_isRest_38 : decode cX8_isRest 38 = .ok (.if_icmp .gt 30, 3) := by decide +kernel
theorem dX8_isRest_41 : decode cX8_isRest 41 = .ok (.aload_n 0, 1) := by decide +kernel
theorem dX8_isRest_42 : decode cX8_isRest 42 = .ok (.iload_n 1, 1) := by decide +kernel
theorem dX8_isRest_43 : decode cX8_isRest 43 = .ok (.iload_n 2, 1) := by decide +kernel
theorem dX8_isRest_44 : decode cX8_isRest 44 = .ok (.iload_n 3, 1) := by decide +kernel
theorem dX8_isRest_45 : decode cX8_isRest 45 = .ok (.iload 6, 2) := by decide +kernel
theorem dX8_isRest_47 : decode cX8_isRest 47 = .ok (.iload_n 2, 1) := by decide +kernel
theorem dX8_isRest_48 : decode cX8_isRest 48 = .ok (.invokevirtual 230, 3) := by decide +kernel
theorem dX8_isRest_51 : decode cX8_isRest 51 = .ok (.aload_n 0, 1) := by decide +kernel
theorem dX8_isRest_52 : decode cX8_isRest 52 = .ok (.iload_n 1, 1) := by decide +kernel
theorem dX8_isRest_53 : decode cX8_isRest 53 = .ok (.iload_n 2, 1) := by decide +kernel
theorem dX8_isRest_54 : decode cX8_isRest 54 = .ok (.iload_n 3, 1) := by decide +kernel
theorem dX8_isRest_55 : decode cX8_isRest 55 = .ok (.iload 4, 2) := by decide +kernel
theorem dX8_isRest_57 : decode cX8_isRest 57 = .ok (.iload_n 2, 1) := by decide +kernel
theorem dX8_isRest_58 : decode cX8_isRest 58 = .ok (.invokevirtual 230, 3) := by decide +kernel
theorem dX8_isRest_61 : decode cX8_isRest 61 = .ok (.if_icmp .gt 7, 3) := by decide +kernel
theorem dX8_isRest_64 : decode cX8_isRest 64 = .ok (.iconst 1, 1) := by decide +kernel
theorem dX8_isRest_65 : decode cX8_isRest 65 = .ok (.goto 4, 3) := by decide +kernel
theorem dX8_isRest_68 : decode cX8_isRest 68 = .ok (.iconst 0, 1) := by decide +kernel
theorem dX8_isRest_69 : decode cX8_isRest 69 = .ok (.istore 5, 2) := by decide +kernel
theorem dX8_isRest_71 : decode cX8_isRest 71 = .ok (.iinc 6 1, 3) := by decide +kernel
theorem dX8_isRest_74 : decode cX8_isRest 74 = .ok (.goto (-68), 3) := by decide +kernel
theorem dX8_isRest_77 : decode cX8_isRest 77 = .ok (.iload 5, 2) := by decide +kernel
theorem dX8_isRest_79 : decode cX8_isRest 79 = .ok (.ireturn, 1) := by decide +kernel
theorem dX8_rests_0 : decode cX8_rests 0 = .ok (.aload_n 0, 1) := by decide +kernel
theorem dX8_rests_1 : decode cX8_rests 1 = .ok (.iconst 0, 1) := by decide +kernel
theorem dX8_rests_2 : decode cX8_rests 2 = .ok (.iload_n 1, 1) := by decide +kernel
theorem dX8_rests_3 : decode cX8_rests 3 = .ok (.invokevirtual 99, 3) := by decide +kernel
theorem dX8_rests_6 : decode cX8_rests 6 = .ok (.ifCond .eq 12, 3) := by decide +kernel
theorem dX8_rests_9 : decode cX8_rests 9 = .ok (.aload_n 0, 1) := by decide +kernel
theorem dX8_rests_10 : decode cX8_rests 10 = .ok (.iconst 0, 1) := by decide +kernel
theorem dX8_rests_11 : decode cX8_rests 11 = .ok (.iload_n 2, 1) := by decide +kernel
theorem dX8_rests_12 : decode cX8_rests 12 = .ok (.invokevirtual 99, 3) := by decide +kernel
theorem dX8_rests_15 : decode cX8_rests 15 = .ok (.ifCond .ne 5, 3) := by decide +kernel
theorem dX8_rests_18 : decode cX8_rests 18 = .ok (.iconst (-1), 1) := by decide +kernel
theorem dX8_rests_19 : decode cX8_rests 19 = .ok (.ireturn, 1) := by decide +kernel
theorem dX8_rests_20 : decode cX8_rests 20 = .ok (.iload_n 1, 1) := by decide +kernel
theorem dX8_rests_21 : decode cX8_rests 21 = .ok (.iload_n 2, 1) := by decide +kernel
theorem dX8_rests_22 : decode cX8_rests 22 = .ok (.if_icmp .eq 13, 3) := by decide +kernel
theorem dX8_rests_25 : decode cX8_rests 25 = .ok (.iload_n 3, 1) := by decide +kernel
theorem dX8_rests_26 : decode cX8_rests 26 = .ok (.i2l, 1) := by decide +kernel
theorem dX8_rests_27 : decode cX8_rests 27 = .ok (.lconst 0, 1) := by decide +kernel
theorem dX8_rests_28 : decode cX8_rests 28 = .ok (.lconst 1, 1) := by decide +kernel
theorem dX8_rests_29 : decode cX8_rests 29 = .ok (.invokestatic 52, 3) := by decide +kernel
theorem dX8_rests_32 : decode cX8_rests 32 = .ok (.ifCond .ne 6, 3) := by decide +kernel
theorem dX8_rests_35 : decode cX8_rests 35 = .ok (.bipush (-2), 2) := by decide +kernel
theorem dX8_rests_37 : decode cX8_rests 37 = .ok (.ireturn, 1) := by decide +kernel
theorem dX8_rests_38 : decode cX8_rests 38 = .ok (.iconst 0, 1) := by decide +kernel
theorem dX8_rests_39 : decode cX8_rests 39 = .ok (.istore 4, 2) := by decide +kernel
theorem dX8_rests_41 : decode cX8_rests 41 = .ok (.bipush (-9), 2) := by decide +kernel
theorem dX8_rests_43 : decode cX8_rests 43 = .ok (.istore 5, 2) := by decide +kernel
theorem dX8_rests_45 : decode cX8_rests 45 = .ok (.iconst 0, 1) := by decide +kernel
theorem dX8_rests_46 : decode cX8_rests 46 = .ok (.istore 6, 2) := by decide +kernel
theorem dX8_rests_48 : decode cX8_rests 48 = .ok (.iload 6, 2) := by decide +kernel
theorem dX8_rests_50 : decode cX8_rests 50 = .ok (.bipush 16, 2) := by decide +kernel
theorem dX8_rests_52 : decode cX8_rests 52 = .ok (.if_icmp .ge 53, 3) := by decide +kernel
theorem dX8_rests_55 : decode cX8_rests 55 = .ok (.aload_n 0, 1) := by decide +kernel
theorem dX8_rests_56 : decode cX8_rests 56 = .ok (.iload_n 1, 1) := by decide +kernel
theorem dX8_rests_57 : decode cX8_rests 57 = .ok (.iload_n 2, 1) := by decide +kernel
theorem dX8_rests_58 : decode cX8_rests 58 = .ok (.iload 6, 2) := by decide +kernel
theorem dX8_rests_60 : decode cX8_rests 60 = .ok (.iconst 4, 1) := by decide +kernel
theorem dX8_rests_61 : decode cX8_rests 61 = .ok (.idiv, 1) := by decide +kernel
theorem dX8_rests_62 : decode cX8_rests 62 = .ok (.iload 6, 2) := by decide +kernel
theorem dX8_rests_64 : decode cX8_rests 64 = .ok (.iconst 4, 1) := by decide +kernel
theorem dX8_rests_65 : decode cX8_rests 65 = .ok (.irem, 1) := by decide +kernel
theorem dX8_rests_66 : decode cX8_rests 66 = .ok (.invokevirtual 234, 3) := by decide +kernel
theorem dX8_rests_69 : decode cX8_rests 69 = .ok (.ifCond .eq 30, 3) := by decide +kernel
theorem dX8_rests_72 : decode cX8_rests 72 = .ok (.iload 4, 2) := by decide +kernel
theorem dX8_rests_74 : decode cX8_rests 74 = .ok (.ifCond .ne 18, 3) := by decide +kernel
theorem dX8_rests_77 : decode cX8_rests 77 = .ok (.bipush 10, 2) := by decide +kernel
theorem dX8_rests_79 : decode cX8_rests 79 = .ok (.iload 6, 2) := by decide +kernel
theorem dX8_rests_81 : decode cX8_rests 81 = .ok (.iconst 4, 1) := by decide +kernel
theorem dX8_rests_82 : decode cX8_rests 82 = .ok (.idiv, 1) := by decide +kernel
theorem dX8_rests_83 : decode cX8_rests 83 = .ok (.imul, 1) := by decide +kernel
theorem dX8_rests_84 : decode cX8_rests 84 = .ok (.iload 6, 2) := by decide +kernel
theorem dX8_rests_86 : decode cX8_rests 86 = .ok (.iconst 4, 1) := by decide +kernel
theorem dX8_rests_87 : decode cX8_rests 87 = .ok (.irem, 1) := by decide +kernel
theorem dX8_rests_88 : decode cX8_rests 88 = .ok (.iadd, 1) := by decide +kernel
theorem dX8_rests_89 : decode cX8_rests 89 = .ok (.goto 5, 3) := by decide +kernel
theorem dX8_rests_92 : decode cX8_rests 92 = .ok (.iload 5, 2) := by decide +kernel
theorem dX8_rests_94 : decode cX8_rests 94 = .ok (.istore 5, 2) := by decide +kernel
theorem dX8_rests_96 : decode cX8_rests 96 = .ok (.iinc 4 1, 3) := by decide +kernel
theorem dX8_rests_99 : decode cX8_rests 99 = .ok (.iinc 6 1, 3) := by decide +kernel
theorem dX8_rests_102 : decode cX8_rests 102 = .ok (.goto (-54), 3) := by decide +kernel
theorem dX8_rests_105 : decode cX8_rests 105 = .ok (.iload_n 3, 1) := by decide +kernel
theorem dX8_rests_106 : decode cX8_rests 106 = .ok (.ifCond .ne 8, 3) := by decide +kernel
theorem dX8_rests_109 : decode cX8_rests 109 = .ok (.iload 4, 2) := by decide +kernel
theorem dX8_rests_111 : decode cX8_rests 111 = .ok (.goto 5, 3) := by decide +kernel
theorem dX8_rests_114 : decode cX8_rests 114 = .ok (.iload 5, 2) := by decide +kernel
theorem dX8_rests_116 : decode cX8_rests 116 = .ok (.ireturn, 1) := by decide +kernel
theorem dX8_power_0 : decode cX8_power 0 = .ok (.iconst 1, 1) := by decide +kernel
theorem dX8_power_1 : decode cX8_power 1 = .ok (.istore_n 2, 1) := by decide +kernel
theorem dX8_power_2 : decode cX8_power 2 = .ok (.iconst 0, 1) := by decide +kernel
theorem dX8_power_3 : decode cX8_power 3 = .ok (.istore_n 3, 1) := by decide +kernel
theorem dX8_power_4 : decode cX8_power 4 = .ok (.iload_n 3, 1) := by decide +kernel
theorem dX8_power_5 : decode cX8_power 5 = .ok (.iload_n 1, 1) := by decide +kernel
theorem dX8_power_6 : decode cX8_power 6 = .ok (.if_icmp .ge 13, 3) := by decide +kernel
theorem dX8_power_9 : decode cX8_power 9 = .ok (.iload_n 2, 1) := by decide +kernel
theorem dX8_power_10 : decode cX8_power 10 = .ok (.iload_n 0, 1) := by decide +kernel
theorem dX8_power_11 : decode cX8_power 11 = .ok (.imul, 1) := by decide +kernel
theorem dX8_power_12 : decode cX8_power 12 = .ok (.istore_n 2, 1) := by decide +kernel
theorem dX8_power_13 : decode cX8_power 13 = .ok (.iinc 3 1, 3) := by decide +kernel
theorem dX8_power_16 : decode cX8_power 16 = .ok (.goto (-12), 3) := by decide +kernel
theorem dX8_power_19 : decode cX8_power 19 = .ok (.iload_n 2, 1) := by decide +kernel
theorem dX8_power_20 : decode cX8_power 20 = .ok (.ireturn, 1) := by decide +kernel
theorem dX8_lost_0 : decode cX8_lost 0 = .ok (.iload_n 1, 1) := by decide +kernel
theorem dX8_lost_1 : decode cX8_lost 1 = .ok (.i2l, 1) := by decide +kernel
theorem dX8_lost_2 : decode cX8_lost 2 = .ok (.lconst 0, 1) := by decide +kernel
theorem dX8_lost_3 : decode cX8_lost 3 = .ok (.ldc2_w 136, 3) := by decide +kernel
theorem dX8_lost_6 : decode cX8_lost 6 = .ok (.invokestatic 52, 3) := by decide +kernel
theorem dX8_lost_9 : decode cX8_lost 9 = .ok (.ifCond .ne 6, 3) := by decide +kernel
theorem dX8_lost_12 : decode cX8_lost 12 = .ok (.bipush (-2), 2) := by decide +kernel
theorem dX8_lost_14 : decode cX8_lost 14 = .ok (.ireturn, 1) := by decide +kernel
theorem dX8_lost_15 : decode cX8_lost 15 = .ok (.aload_n 0, 1) := by decide +kernel
theorem dX8_lost_16 : decode cX8_lost 16 = .ok (.iconst 0, 1) := by decide +kernel
theorem dX8_lost_17 : decode cX8_lost 17 = .ok (.invokevirtual 116, 3) := by decide +kernel
theorem dX8_lost_20 : decode cX8_lost 20 = .ok (.istore_n 3, 1) := by decide +kernel
theorem dX8_lost_21 : decode cX8_lost 21 = .ok (.iconst 0, 1) := by decide +kernel
theorem dX8_lost_22 : decode cX8_lost 22 = .ok (.istore 4, 2) := by decide +kernel
theorem dX8_lost_24 : decode cX8_lost 24 = .ok (.iconst 0, 1) := by decide +kernel
theorem dX8_lost_25 : decode cX8_lost 25 = .ok (.istore 5, 2) := by decide +kernel
theorem dX8_lost_27 : decode cX8_lost 27 = .ok (.iconst 0, 1) := by decide +kernel
theorem dX8_lost_28 : decode cX8_lost 28 = .ok (.istore 6, 2) := by decide +kernel
theorem dX8_lost_30 : decode cX8_lost 30 = .ok (.iload 6, 2) := by decide +kernel
theorem dX8_lost_32 : decode cX8_lost 32 = .ok (.bipush 16, 2) := by decide +kernel
theorem dX8_lost_34 : decode cX8_lost 34 = .ok (.if_icmp .ge 82, 3) := by decide +kernel
theorem dX8_lost_37 : decode cX8_lost 37 = .ok (.iload 6, 2) := by decide +kernel
theorem dX8_lost_39 : decode cX8_lost 39 = .ok (.iload_n 3, 1) := by decide +kernel
theorem dX8_lost_40 : decode cX8_lost 40 = .ok (.iconst (-1), 1) := by decide +kernel
theorem dX8_lost_41 : decode cX8_lost 41 = .ok (.ixor, 1) := by decide +kernel
theorem dX8_lost_42 : decode cX8_lost 42 = .ok (.iand, 1) := by decide +kernel
theorem dX8_lost_43 : decode cX8_lost 43 = .ok (.ifCond .ne 67, 3) := by decide +kernel
theorem dX8_lost_46 : decode cX8_lost 46 = .ok (.bipush 10, 2) := by decide +kernel
theorem dX8_lost_48 : decode cX8_lost 48 = .ok (.iload_n 1, 1) := by decide +kernel
theorem dX8_lost_49 : decode cX8_lost 49 = .ok (.isub, 1) := by decide +kernel
theorem dX8_lost_50 : decode cX8_lost 50 = .ok (.iload 6, 2) := by decide +kernel
theorem dX8_lost_52 : decode cX8_lost 52 = .ok (.invokestatic 112, 3) := by decide +kernel
theorem dX8_lost_55 : decode cX8_lost 55 = .ok (.invokestatic 238, 3) := by decide +kernel
theorem dX8_lost_58 : decode cX8_lost 58 = .ok (.iload_n 1, 1) := by decide +kernel
theorem dX8_lost_59 : decode cX8_lost 59 = .ok (.iload_n 3, 1) := by decide +kernel
theorem dX8_lost_60 : decode cX8_lost 60 = .ok (.invokestatic 112, 3) := by decide +kernel
theorem dX8_lost_63 : decode cX8_lost 63 = .ok (.iload 6, 2) := by decide +kernel
theorem dX8_lost_65 : decode cX8_lost 65 = .ok (.invokestatic 112, 3) := by decide +kernel
theorem dX8_lost_68 : decode cX8_lost 68 = .ok (.isub, 1) := by decide +kernel
theorem dX8_lost_69 : decode cX8_lost 69 = .ok (.invokestatic 238, 3) := by decide +kernel
theorem dX8_lost_72 : decode cX8_lost 72 = .ok (.imul, 1) := by decide +kernel
theorem dX8_lost_73 : decode cX8_lost 73 = .ok (.istore 7, 2) := by decide +kernel
theorem dX8_lost_75 : decode cX8_lost 75 = .ok (.iload 5, 2) := by decide +kernel
theorem dX8_lost_77 : decode cX8_lost 77 = .ok (.iload 7, 2) := by decide +kernel
theorem dX8_lost_79 : decode cX8_lost 79 = .ok (.iadd, 1) := by decide +kernel
theorem dX8_lost_80 : decode cX8_lost 80 = .ok (.istore 5, 2) := by decide +kernel
theorem dX8_lost_82 : decode cX8_lost 82 = .ok (.iload 4, 2) := by decide +kernel
theorem dX8_lost_84 : decode cX8_lost 84 = .ok (.aload_n 0, 1) := by decide +kernel
theorem dX8_lost_85 : decode cX8_lost 85 = .ok (.iload 6, 2) := by decide +kernel
theorem dX8_lost_87 : decode cX8_lost 87 = .ok (.invokevirtual 195, 3) := by decide +kernel
theorem dX8_lost_90 : decode cX8_lost 90 = .ok (.iconst 1, 1) := by decide +kernel
theorem dX8_lost_91 : decode cX8_lost 91 = .ok (.aload_n 0, 1) := by decide +kernel
theorem dX8_lost_92 : decode cX8_lost 92 = .ok (.getfield 146, 3) := by decide +kernel
theorem dX8_lost_95 : decode cX8_lost 95 = .ok (.ishl, 1) := by decide +kernel
theorem dX8_lost_96 : decode cX8_lost 96 = .ok (.iconst 1, 1) := by decide +kernel
theorem dX8_lost_97 : decode cX8_lost 97 = .ok (.isub, 1) := by decide +kernel
theorem dX8_lost_98 : decode cX8_lost 98 = .ok (.if_icmp .ne 8, 3) := by decide +kernel
theorem dX8_lost_101 : decode cX8_lost 101 = .ok (.iload 7, 2) := by decide +kernel
theorem dX8_lost_103 : decode cX8_lost 103 = .ok (.goto 4, 3) := by decide +kernel
theorem dX8_lost_106 : decode cX8_lost 106 = .ok (.iconst 0, 1) := by decide +kernel
theorem dX8_lost_107 : decode cX8_lost 107 = .ok (.iadd, 1) := by decide +kernel
theorem dX8_lost_108 : decode cX8_lost 108 = .ok (.istore 4, 2) := by decide +kernel
theorem dX8_lost_110 : decode cX8_lost 110 = .ok (.iinc 6 1, 3) := by decide +kernel
theorem dX8_lost_113 : decode cX8_lost 113 = .ok (.goto (-83), 3) := by decide +kernel
theorem dX8_lost_116 : decode cX8_lost 116 = .ok (.iload 4, 2) := by decide +kernel
theorem dX8_lost_118 : decode cX8_lost 118 = .ok (.iload 5, 2) := by decide +kernel
theorem dX8_lost_120 : decode cX8_lost 120 = .ok (.invokestatic 227, 3) := by decide +kernel
theorem dX8_lost_123 : decode cX8_lost 123 = .ok (.istore 6, 2) := by decide +kernel
theorem dX8_lost_125 : decode cX8_lost 125 = .ok (.iload_n 2, 1) := by decide +kernel
theorem dX8_lost_126 : decode cX8_lost 126 = .ok (.ifCond .eq 11, 3) := by decide +kernel
theorem dX8_lost_129 : decode cX8_lost 129 = .ok (.iload 4, 2) := by decide +kernel
theorem dX8_lost_131 : decode cX8_lost 131 = .ok (.iload 6, 2) := by decide +kernel
theorem dX8_lost_133 : decode cX8_lost 133 = .ok (.idiv, 1) := by decide +kernel
theorem dX8_lost_134 : decode cX8_lost 134 = .ok (.goto 8, 3) := by decide +kernel
theorem dX8_lost_137 : decode cX8_lost 137 = .ok (.iload 5, 2) := by decide +kernel
theorem dX8_lost_139 : decode cX8_lost 139 = .ok (.iload 6, 2) := by decide +kernel
theorem dX8_lost_141 : decode cX8_lost 141 = .ok (.idiv, 1) := by decide +kernel
theorem dX8_lost_142 : decode cX8_lost 142 = .ok (.ireturn, 1) := by decide +kernel
theorem dX8_seed_0 : decode cX8_seed 0 = .ok (.aload_n 0, 1) := by decide +kernel
theorem dX8_seed_1 : decode cX8_seed 1 = .ok (.getfield 241, 3) := by decide +kernel
theorem dX8_seed_4 : decode cX8_seed 4 = .ok (.lstore_n 3, 1) := by decide +kernel
theorem dX8_seed_5 : decode cX8_seed 5 = .ok (.aload_n 0, 1) := by decide +kernel
theorem dX8_seed_6 : decode cX8_seed 6 = .ok (.lload_n 1, 1) := by decide +kernel
theorem dX8_seed_7 : decode cX8_seed 7 = .ok (.putfield 241, 3) := by decide +kernel
theorem dX8_seed_10 : decode cX8_seed 10 = .ok (.lload_n 3, 1) := by decide +kernel
theorem dX8_seed_11 : decode cX8_seed 11 = .ok (.lreturn, 1) := by decide +kernel
theorem dX8_bendsOfAll_0 : decode cX8_bendsOfAll 0 = .ok (.iconst 0, 1) := by decide +kernel
theorem dX8_bendsOfAll_1 : decode cX8_bendsOfAll 1 = .ok (.istore_n 2, 1) := by decide +kernel
theorem dX8_bendsOfAll_2 : decode cX8_bendsOfAll 2 = .ok (.iconst 0, 1) := by decide +kernel
theorem dX8_bendsOfAll_3 : decode cX8_bendsOfAll 3 = .ok (.istore_n 3, 1) := by decide +kernel
