theorem dX8_loseFirst_6 : decode cX8_loseFirst 6 = .ok (.iadd, 1) := by decide +kernel
theorem dX8_loseFirst_7 : decode cX8_loseFirst 7 = .ok (.bipush 12, 2) := by decide +kernel
theorem dX8_loseFirst_9 : decode cX8_loseFirst 9 = .ok (.iload_n 2, 1) := by decide +kernel
theorem dX8_loseFirst_10 : decode cX8_loseFirst 10 = .ok (.imul, 1) := by decide +kernel
theorem dX8_loseFirst_11 : decode cX8_loseFirst 11 = .ok (.iadd, 1) := by decide +kernel
theorem dX8_loseFirst_12 : decode cX8_loseFirst 12 = .ok (.istore_n 3, 1) := by decide +kernel
theorem dX8_loseFirst_13 : decode cX8_loseFirst 13 = .ok (.iconst 0, 1) := by decide +kernel
theorem dX8_loseFirst_14 : decode cX8_loseFirst 14 = .ok (.istore 4, 2) := by decide +kernel
theorem dX8_loseFirst_16 : decode cX8_loseFirst 16 = .ok (.iload 4, 2) := by decide +kernel
theorem dX8_loseFirst_18 : decode cX8_loseFirst 18 = .ok (.bipush 11, 2) := by decide +kernel
theorem dX8_loseFirst_20 : decode cX8_loseFirst 20 = .ok (.if_icmp .ge 29, 3) := by decide +kernel
theorem dX8_loseFirst_23 : decode cX8_loseFirst 23 = .ok (.aload_n 0, 1) := by decide +kernel
theorem dX8_loseFirst_24 : decode cX8_loseFirst 24 = .ok (.getfield 13, 3) := by decide +kernel
theorem dX8_loseFirst_27 : decode cX8_loseFirst 27 = .ok (.iload_n 3, 1) := by decide +kernel
theorem dX8_loseFirst_28 : decode cX8_loseFirst 28 = .ok (.iload 4, 2) := by decide +kernel
theorem dX8_loseFirst_30 : decode cX8_loseFirst 30 = .ok (.iadd, 1) := by decide +kernel
theorem dX8_loseFirst_31 : decode cX8_loseFirst 31 = .ok (.aload_n 0, 1) := by decide +kernel
theorem dX8_loseFirst_32 : decode cX8_loseFirst 32 = .ok (.getfield 13, 3) := by decide +kernel
theorem dX8_loseFirst_35 : decode cX8_loseFirst 35 = .ok (.iload_n 3, 1) := by decide +kernel
theorem dX8_loseFirst_36 : decode cX8_loseFirst 36 = .ok (.iload 4, 2) := by decide +kernel
theorem dX8_loseFirst_38 : decode cX8_loseFirst 38 = .ok (.iadd, 1) := by decide +kernel
theorem dX8_loseFirst_39 : decode cX8_loseFirst 39 = .ok (.iconst 1, 1) := by decide +kernel
theorem dX8_loseFirst_40 : decode cX8_loseFirst 40 = .ok (.iadd, 1) := by decide +kernel
theorem dX8_loseFirst_41 : decode cX8_loseFirst 41 = .ok (.iaload, 1) := by decide +kernel
theorem dX8_loseFirst_42 : decode cX8_loseFirst 42 = .ok (.iastore, 1) := by decide +kernel
theorem dX8_loseFirst_43 : decode cX8_loseFirst 43 = .ok (.iinc 4 1, 3) := by decide +kernel
theorem dX8_loseFirst_46 : decode cX8_loseFirst 46 = .ok (.goto (-30), 3) := by decide +kernel
theorem dX8_loseFirst_49 : decode cX8_loseFirst 49 = .ok (.aload_n 0, 1) := by decide +kernel
theorem dX8_loseFirst_50 : decode cX8_loseFirst 50 = .ok (.iload_n 1, 1) := by decide +kernel
theorem dX8_loseFirst_51 : decode cX8_loseFirst 51 = .ok (.iload_n 2, 1) := by decide +kernel
theorem dX8_loseFirst_52 : decode cX8_loseFirst 52 = .ok (.invokevirtual 95, 3) := by decide +kernel
theorem dX8_loseFirst_55 : decode cX8_loseFirst 55 = .ok (.return_, 1) := by decide +kernel
theorem dX8_inHouse_0 : decode cX8_inHouse 0 = .ok (.iconst 0, 1) := by decide +kernel
theorem dX8_inHouse_1 : decode cX8_inHouse 1 = .ok (.istore_n 3, 1) := by decide +kernel
theorem dX8_inHouse_2 : decode cX8_inHouse 2 = .ok (.iconst 0, 1) := by decide +kernel
theorem dX8_inHouse_3 : decode cX8_inHouse 3 = .ok (.istore 4, 2) := by decide +kernel
theorem dX8_inHouse_5 : decode cX8_inHouse 5 = .ok (.iload 4, 2) := by decide +kernel
theorem dX8_inHouse_7 : decode cX8_inHouse 7 = .ok (.aload_n 0, 1) := by decide +kernel
theorem dX8_inHouse_8 : decode cX8_inHouse 8 = .ok (.getfield 89, 3) := by decide +kernel
theorem dX8_inHouse_11 : decode cX8_inHouse 11 = .ok (.if_icmp .ge 46, 3) := by decide +kernel
theorem dX8_inHouse_14 : decode cX8_inHouse 14 = .ok (.iload_n 3, 1) := by decide +kernel
theorem dX8_inHouse_15 : decode cX8_inHouse 15 = .ok (.aload_n 0, 1) := by decide +kernel
theorem dX8_inHouse_16 : decode cX8_inHouse 16 = .ok (.iload_n 1, 1) := by decide +kernel
theorem dX8_inHouse_17 : decode cX8_inHouse 17 = .ok (.iload 4, 2) := by decide +kernel
theorem dX8_inHouse_19 : decode cX8_inHouse 19 = .ok (.invokevirtual 99, 3) := by decide +kernel
theorem dX8_inHouse_22 : decode cX8_inHouse 22 = .ok (.ifCond .eq 26, 3) := by decide +kernel
theorem dX8_inHouse_25 : decode cX8_inHouse 25 = .ok (.aload_n 0, 1) := by decide +kernel
theorem dX8_inHouse_26 : decode cX8_inHouse 26 = .ok (.getfield 13, 3) := by decide +kernel
theorem dX8_inHouse_29 : decode cX8_inHouse 29 = .ok (.bipush 57, 2) := by decide +kernel
theorem dX8_inHouse_31 : decode cX8_inHouse 31 = .ok (.iload_n 1, 1) := by decide +kernel
theorem dX8_inHouse_32 : decode cX8_inHouse 32 = .ok (.imul, 1) := by decide +kernel
theorem dX8_inHouse_33 : decode cX8_inHouse 33 = .ok (.iload 4, 2) := by decide +kernel
theorem dX8_inHouse_35 : decode cX8_inHouse 35 = .ok (.iadd, 1) := by decide +kernel
theorem dX8_inHouse_36 : decode cX8_inHouse 36 = .ok (.iaload, 1) := by decide +kernel
theorem dX8_inHouse_37 : decode cX8_inHouse 37 = .ok (.iload_n 2, 1) := by decide +kernel
theorem dX8_inHouse_38 : decode cX8_inHouse 38 = .ok (.if_icmp .ne 10, 3) := by decide +kernel
theorem dX8_inHouse_41 : decode cX8_inHouse 41 = .ok (.iconst 1, 1) := by decide +kernel
theorem dX8_inHouse_42 : decode cX8_inHouse 42 = .ok (.iload 4, 2) := by decide +kernel
theorem dX8_inHouse_44 : decode cX8_inHouse 44 = .ok (.ishl, 1) := by decide +kernel
theorem dX8_inHouse_45 : decode cX8_inHouse 45 = .ok (.goto 4, 3) := by decide +kernel
theorem dX8_inHouse_48 : decode cX8_inHouse 48 = .ok (.iconst 0, 1) := by decide +kernel
theorem dX8_inHouse_49 : decode cX8_inHouse 49 = .ok (.ior, 1) := by decide +kernel
theorem dX8_inHouse_50 : decode cX8_inHouse 50 = .ok (.istore_n 3, 1) := by decide +kernel
theorem dX8_inHouse_51 : decode cX8_inHouse 51 = .ok (.iinc 4 1, 3) := by decide +kernel
theorem dX8_inHouse_54 : decode cX8_inHouse 54 = .ok (.goto (-49), 3) := by decide +kernel
theorem dX8_inHouse_57 : decode cX8_inHouse 57 = .ok (.iload_n 3, 1) := by decide +kernel
theorem dX8_inHouse_58 : decode cX8_inHouse 58 = .ok (.ireturn, 1) := by decide +kernel
theorem dX8_hurt_0 : decode cX8_hurt 0 = .ok (.aload_n 0, 1) := by decide +kernel
theorem dX8_hurt_1 : decode cX8_hurt 1 = .ok (.iload_n 1, 1) := by decide +kernel
theorem dX8_hurt_2 : decode cX8_hurt 2 = .ok (.aload_n 0, 1) := by decide +kernel
theorem dX8_hurt_3 : decode cX8_hurt 3 = .ok (.getfield 13, 3) := by decide +kernel
theorem dX8_hurt_6 : decode cX8_hurt 6 = .ok (.bipush 57, 2) := by decide +kernel
theorem dX8_hurt_8 : decode cX8_hurt 8 = .ok (.iload_n 1, 1) := by decide +kernel
theorem dX8_hurt_9 : decode cX8_hurt 9 = .ok (.imul, 1) := by decide +kernel
theorem dX8_hurt_10 : decode cX8_hurt 10 = .ok (.iload_n 2, 1) := by decide +kernel
theorem dX8_hurt_11 : decode cX8_hurt 11 = .ok (.iadd, 1) := by decide +kernel
theorem dX8_hurt_12 : decode cX8_hurt 12 = .ok (.iaload, 1) := by decide +kernel
theorem dX8_hurt_13 : decode cX8_hurt 13 = .ok (.invokevirtual 103, 3) := by decide +kernel
theorem dX8_hurt_16 : decode cX8_hurt 16 = .ok (.istore_n 3, 1) := by decide +kernel
theorem dX8_hurt_17 : decode cX8_hurt 17 = .ok (.aload_n 0, 1) := by decide +kernel
theorem dX8_hurt_18 : decode cX8_hurt 18 = .ok (.getfield 7, 3) := by decide +kernel
theorem dX8_hurt_21 : decode cX8_hurt 21 = .ok (.iload_n 2, 1) := by decide +kernel
theorem dX8_hurt_22 : decode cX8_hurt 22 = .ok (.iaload, 1) := by decide +kernel
theorem dX8_hurt_23 : decode cX8_hurt 23 = .ok (.iconst 3, 1) := by decide +kernel
theorem dX8_hurt_24 : decode cX8_hurt 24 = .ok (.if_icmp .ne 46, 3) := by decide +kernel
theorem dX8_hurt_27 : decode cX8_hurt 27 = .ok (.iconst 0, 1) := by decide +kernel
theorem dX8_hurt_28 : decode cX8_hurt 28 = .ok (.istore 4, 2) := by decide +kernel
theorem dX8_hurt_30 : decode cX8_hurt 30 = .ok (.iload 4, 2) := by decide +kernel
theorem dX8_hurt_32 : decode cX8_hurt 32 = .ok (.aload_n 0, 1) := by decide +kernel
theorem dX8_hurt_33 : decode cX8_hurt 33 = .ok (.getfield 89, 3) := by decide +kernel
theorem dX8_hurt_36 : decode cX8_hurt 36 = .ok (.if_icmp .ge 31, 3) := by decide +kernel
theorem dX8_hurt_39 : decode cX8_hurt 39 = .ok (.iload 4, 2) := by decide +kernel
theorem dX8_hurt_41 : decode cX8_hurt 41 = .ok (.iload_n 2, 1) := by decide +kernel
theorem dX8_hurt_42 : decode cX8_hurt 42 = .ok (.if_icmp .eq 19, 3) := by decide +kernel
theorem dX8_hurt_45 : decode cX8_hurt 45 = .ok (.iload_n 3, 1) := by decide +kernel
theorem dX8_hurt_46 : decode cX8_hurt 46 = .ok (.iload 4, 2) := by decide +kernel
theorem dX8_hurt_48 : decode cX8_hurt 48 = .ok (.invokestatic 106, 3) := by decide +kernel
theorem dX8_hurt_51 : decode cX8_hurt 51 = .ok (.ifCond .eq 10, 3) := by decide +kernel
theorem dX8_hurt_54 : decode cX8_hurt 54 = .ok (.aload_n 0, 1) := by decide +kernel
theorem dX8_hurt_55 : decode cX8_hurt 55 = .ok (.iload_n 1, 1) := by decide +kernel
theorem dX8_hurt_56 : decode cX8_hurt 56 = .ok (.iload 4, 2) := by decide +kernel
theorem dX8_hurt_58 : decode cX8_hurt 58 = .ok (.invokevirtual 109, 3) := by decide +kernel
theorem dX8_hurt_61 : decode cX8_hurt 61 = .ok (.iinc 4 1, 3) := by decide +kernel
theorem dX8_hurt_64 : decode cX8_hurt 64 = .ok (.goto (-34), 3) := by decide +kernel
theorem dX8_hurt_67 : decode cX8_hurt 67 = .ok (.goto 43, 3) := by decide +kernel
theorem dX8_hurt_70 : decode cX8_hurt 70 = .ok (.aload_n 0, 1) := by decide +kernel
theorem dX8_hurt_71 : decode cX8_hurt 71 = .ok (.getfield 7, 3) := by decide +kernel
theorem dX8_hurt_74 : decode cX8_hurt 74 = .ok (.iload_n 2, 1) := by decide +kernel
theorem dX8_hurt_75 : decode cX8_hurt 75 = .ok (.iaload, 1) := by decide +kernel
theorem dX8_hurt_76 : decode cX8_hurt 76 = .ok (.iconst 1, 1) := by decide +kernel
theorem dX8_hurt_77 : decode cX8_hurt 77 = .ok (.if_icmp .gt 33, 3) := by decide +kernel
theorem dX8_hurt_80 : decode cX8_hurt 80 = .ok (.iload_n 3, 1) := by decide +kernel
theorem dX8_hurt_81 : decode cX8_hurt 81 = .ok (.invokestatic 112, 3) := by decide +kernel
theorem dX8_hurt_84 : decode cX8_hurt 84 = .ok (.iconst 2, 1) := by decide +kernel
theorem dX8_hurt_85 : decode cX8_hurt 85 = .ok (.if_icmp .le 25, 3) := by decide +kernel
theorem dX8_hurt_88 : decode cX8_hurt 88 = .ok (.aload_n 0, 1) := by decide +kernel
theorem dX8_hurt_89 : decode cX8_hurt 89 = .ok (.iload_n 1, 1) := by decide +kernel
theorem dX8_hurt_90 : decode cX8_hurt 90 = .ok (.iload_n 2, 1) := by decide +kernel
theorem dX8_hurt_91 : decode cX8_hurt 91 = .ok (.invokevirtual 95, 3) := by decide +kernel
theorem dX8_hurt_94 : decode cX8_hurt 94 = .ok (.aload_n 0, 1) := by decide +kernel
theorem dX8_hurt_95 : decode cX8_hurt 95 = .ok (.getfield 7, 3) := by decide +kernel
theorem dX8_hurt_98 : decode cX8_hurt 98 = .ok (.iload_n 2, 1) := by decide +kernel
theorem dX8_hurt_99 : decode cX8_hurt 99 = .ok (.iaload, 1) := by decide +kernel
theorem dX8_hurt_100 : decode cX8_hurt 100 = .ok (.iconst 1, 1) := by decide +kernel
theorem dX8_hurt_101 : decode cX8_hurt 101 = .ok (.if_icmp .ne 9, 3) := by decide +kernel
theorem dX8_hurt_104 : decode cX8_hurt 104 = .ok (.aload_n 0, 1) := by decide +kernel
theorem dX8_hurt_105 : decode cX8_hurt 105 = .ok (.iload_n 1, 1) := by decide +kernel
theorem dX8_hurt_106 : decode cX8_hurt 106 = .ok (.iload_n 2, 1) := by decide +kernel
theorem dX8_hurt_107 : decode cX8_hurt 107 = .ok (.invokevirtual 109, 3) := by decide +kernel
theorem dX8_hurt_110 : decode cX8_hurt 110 = .ok (.return_, 1) := by decide +kernel
theorem dX8_whoIs_0 : decode cX8_whoIs 0 = .ok (.iconst 0, 1) := by decide +kernel
theorem dX8_whoIs_1 : decode cX8_whoIs 1 = .ok (.istore_n 2, 1) := by decide +kernel
theorem dX8_whoIs_2 : decode cX8_whoIs 2 = .ok (.iconst 0, 1) := by decide +kernel
theorem dX8_whoIs_3 : decode cX8_whoIs 3 = .ok (.istore_n 3, 1) := by decide +kernel
theorem dX8_whoIs_4 : decode cX8_whoIs 4 = .ok (.iload_n 3, 1) := by decide +kernel
theorem dX8_whoIs_5 : decode cX8_whoIs 5 = .ok (.aload_n 0, 1) := by decide +kernel
theorem dX8_whoIs_6 : decode cX8_whoIs 6 = .ok (.getfield 89, 3) := by decide +kernel
theorem dX8_whoIs_9 : decode cX8_whoIs 9 = .ok (.if_icmp .ge 28, 3) := by decide +kernel
theorem dX8_whoIs_12 : decode cX8_whoIs 12 = .ok (.iload_n 2, 1) := by decide +kernel
theorem dX8_whoIs_13 : decode cX8_whoIs 13 = .ok (.aload_n 0, 1) := by decide +kernel
theorem dX8_whoIs_14 : decode cX8_whoIs 14 = .ok (.iload_n 1, 1) := by decide +kernel
theorem dX8_whoIs_15 : decode cX8_whoIs 15 = .ok (.iload_n 3, 1) := by decide +kernel
theorem dX8_whoIs_16 : decode cX8_whoIs 16 = .ok (.invokevirtual 99, 3) := by decide +kernel
theorem dX8_whoIs_19 : decode cX8_whoIs 19 = .ok (.ifCond .eq 9, 3) := by decide +kernel
theorem dX8_whoIs_22 : decode cX8_whoIs 22 = .ok (.iconst 1, 1) := by decide +kernel
theorem dX8_whoIs_23 : decode cX8_whoIs 23 = .ok (.iload_n 3, 1) := by decide +kernel
theorem dX8_whoIs_24 : decode cX8_whoIs 24 = .ok (.ishl, 1) := by decide +kernel
theorem dX8_whoIs_25 : decode cX8_whoIs 25 = .ok (.goto 4, 3) := by decide +kernel
theorem dX8_whoIs_28 : decode cX8_whoIs 28 = .ok (.iconst 0, 1) := by decide +kernel
theorem dX8_whoIs_29 : decode cX8_whoIs 29 = .ok (.ior, 1) := by decide +kernel
theorem dX8_whoIs_30 : decode cX8_whoIs 30 = .ok (.istore_n 2, 1) := by decide +kernel
theorem dX8_whoIs_31 : decode cX8_whoIs 31 = .ok (.iinc 3 1, 3) := by decide +kernel
theorem dX8_whoIs_34 : decode cX8_whoIs 34 = .ok (.goto (-30), 3) := by decide +kernel
theorem dX8_whoIs_37 : decode cX8_whoIs 37 = .ok (.iload_n 2, 1) := by decide +kernel
theorem dX8_whoIs_38 : decode cX8_whoIs 38 = .ok (.ireturn, 1) := by decide +kernel
theorem dX8_passOn_0 : decode cX8_passOn 0 = .ok (.aload_n 0, 1) := by decide +kernel
theorem dX8_passOn_1 : decode cX8_passOn 1 = .ok (.iload_n 1, 1) := by decide +kernel
theorem dX8_passOn_2 : decode cX8_passOn 2 = .ok (.invokevirtual 116, 3) := by decide +kernel
theorem dX8_passOn_5 : decode cX8_passOn 5 = .ok (.istore_n 2, 1) := by decide +kernel
theorem dX8_passOn_6 : decode cX8_passOn 6 = .ok (.iconst 0, 1) := by decide +kernel
theorem dX8_passOn_7 : decode cX8_passOn 7 = .ok (.istore_n 3, 1) := by decide +kernel
theorem dX8_passOn_8 : decode cX8_passOn 8 = .ok (.iload_n 3, 1) := by decide +kernel
theorem dX8_passOn_9 : decode cX8_passOn 9 = .ok (.aload_n 0, 1) := by decide +kernel
theorem dX8_passOn_10 : decode cX8_passOn 10 = .ok (.getfield 89, 3) := by decide +kernel
theorem dX8_passOn_13 : decode cX8_passOn 13 = .ok (.if_icmp .ge 24, 3) := by decide +kernel
theorem dX8_passOn_16 : decode cX8_passOn 16 = .ok (.aload_n 0, 1) := by decide +kernel
theorem dX8_passOn_17 : decode cX8_passOn 17 = .ok (.iload_n 1, 1) := by decide +kernel
theorem dX8_passOn_18 : decode cX8_passOn 18 = .ok (.iload_n 3, 1) := by decide +kernel
theorem dX8_passOn_19 : decode cX8_passOn 19 = .ok (.invokevirtual 99, 3) := by decide +kernel
theorem dX8_passOn_22 : decode cX8_passOn 22 = .ok (.ifCond .eq 9, 3) := by decide +kernel
theorem dX8_passOn_25 : decode cX8_passOn 25 = .ok (.aload_n 0, 1) := by decide +kernel
theorem dX8_passOn_26 : decode cX8_passOn 26 = .ok (.iload_n 1, 1) := by decide +kernel
theorem dX8_passOn_27 : decode cX8_passOn 27 = .ok (.iload_n 3, 1) := by decide +kernel
theorem dX8_passOn_28 : decode cX8_passOn 28 = .ok (.invokevirtual 119, 3) := by decide +kernel
theorem dX8_passOn_31 : decode cX8_passOn 31 = .ok (.iinc 3 1, 3) := by decide +kernel
theorem dX8_passOn_34 : decode cX8_passOn 34 = .ok (.goto (-26), 3) := by decide +kernel
theorem dX8_passOn_37 : decode cX8_passOn 37 = .ok (.aload_n 0, 1) := by decide +kernel
theorem dX8_passOn_38 : decode cX8_passOn 38 = .ok (.getfield 13, 3) := by decide +kernel
theorem dX8_passOn_41 : decode cX8_passOn 41 = .ok (.bipush 57, 2) := by decide +kernel
theorem dX8_passOn_43 : decode cX8_passOn 43 = .ok (.iload_n 1, 1) := by decide +kernel
theorem dX8_passOn_44 : decode cX8_passOn 44 = .ok (.imul, 1) := by decide +kernel
theorem dX8_passOn_45 : decode cX8_passOn 45 = .ok (.bipush 56, 2) := by decide +kernel
theorem dX8_passOn_47 : decode cX8_passOn 47 = .ok (.iadd, 1) := by decide +kernel
theorem dX8_passOn_48 : decode cX8_passOn 48 = .ok (.dup2, 1) := by decide +kernel
theorem dX8_passOn_49 : decode cX8_passOn 49 = .ok (.iaload, 1) := by decide +kernel
theorem dX8_passOn_50 : decode cX8_passOn 50 = .ok (.iconst 1, 1) := by decide +kernel
theorem dX8_passOn_51 : decode cX8_passOn 51 = .ok (.iadd, 1) := by decide +kernel
theorem dX8_passOn_52 : decode cX8_passOn 52 = .ok (.iastore, 1) := by decide +kernel
theorem dX8_passOn_53 : decode cX8_passOn 53 = .ok (.iload_n 2, 1) := by decide +kernel
theorem dX8_passOn_54 : decode cX8_passOn 54 = .ok (.aload_n 0, 1) := by decide +kernel
theorem dX8_passOn_55 : decode cX8_passOn 55 = .ok (.iload_n 1, 1) := by decide +kernel
theorem dX8_passOn_56 : decode cX8_passOn 56 = .ok (.invokevirtual 116, 3) := by decide +kernel
theorem dX8_passOn_59 : decode cX8_passOn 59 = .ok (.iconst (-1), 1) := by decide +kernel
theorem dX8_passOn_60 : decode cX8_passOn 60 = .ok (.ixor, 1) := by decide +kernel
theorem dX8_passOn_61 : decode cX8_passOn 61 = .ok (.iand, 1) := by decide +kernel
theorem dX8_passOn_62 : decode cX8_passOn 62 = .ok (.invokestatic 112, 3) := by decide +kernel
theorem dX8_passOn_65 : decode cX8_passOn 65 = .ok (.ireturn, 1) := by decide +kernel
theorem dX8_turnOn_0 : decode cX8_turnOn 0 = .ok (.bipush 57, 2) := by decide +kernel
theorem dX8_turnOn_2 : decode cX8_turnOn 2 = .ok (.iload_n 1, 1) := by decide +kernel
theorem dX8_turnOn_3 : decode cX8_turnOn 3 = .ok (.imul, 1) := by decide +kernel
theorem dX8_turnOn_4 : decode cX8_turnOn 4 = .ok (.bipush 8, 2) := by decide +kernel
theorem dX8_turnOn_6 : decode cX8_turnOn 6 = .ok (.iadd, 1) := by decide +kernel
theorem dX8_turnOn_7 : decode cX8_turnOn 7 = .ok (.bipush 12, 2) := by decide +kernel
theorem dX8_turnOn_9 : decode cX8_turnOn 9 = .ok (.iload_n 2, 1) := by decide +kernel
theorem dX8_turnOn_10 : decode cX8_turnOn 10 = .ok (.imul, 1) := by decide +kernel
theorem dX8_turnOn_11 : decode cX8_turnOn 11 = .ok (.iadd, 1) := by decide +kernel
theorem dX8_turnOn_12 : decode cX8_turnOn 12 = .ok (.istore_n 3, 1) := by decide +kernel
theorem dX8_turnOn_13 : decode cX8_turnOn 13 = .ok (.aload_n 0, 1) := by decide +kernel
theorem dX8_turnOn_14 : decode cX8_turnOn 14 = .ok (.getfield 13, 3) := by decide +kernel
theorem dX8_turnOn_17 : decode cX8_turnOn 17 = .ok (.bipush 57, 2) := by decide +kernel
theorem dX8_turnOn_19 : decode cX8_turnOn 19 = .ok (.iload_n 1, 1) := by decide +kernel
theorem dX8_turnOn_20 : decode cX8_turnOn 20 = .ok (.imul, 1) := by decide +kernel
theorem dX8_turnOn_21 : decode cX8_turnOn 21 = .ok (.iconst 4, 1) := by decide +kernel
theorem dX8_turnOn_22 : decode cX8_turnOn 22 = .ok (.iadd, 1) := by decide +kernel
theorem dX8_turnOn_23 : decode cX8_turnOn 23 = .ok (.iload_n 2, 1) := by decide +kernel
theorem dX8_turnOn_24 : decode cX8_turnOn 24 = .ok (.iadd, 1) := by decide +kernel
theorem dX8_turnOn_25 : decode cX8_turnOn 25 = .ok (.iaload, 1) := by decide +kernel
theorem dX8_turnOn_26 : decode cX8_turnOn 26 = .ok (.istore 4, 2) := by decide +kernel
theorem dX8_turnOn_28 : decode cX8_turnOn 28 = .ok (.iconst 0, 1) := by decide +kernel
theorem dX8_turnOn_29 : decode cX8_turnOn 29 = .ok (.istore 5, 2) := by decide +kernel
theorem dX8_turnOn_31 : decode cX8_turnOn 31 = .ok (.iload 5, 2) := by decide +kernel
theorem dX8_turnOn_33 : decode cX8_turnOn 33 = .ok (.iload 4, 2) := by decide +kernel
theorem dX8_turnOn_35 : decode cX8_turnOn 35 = .ok (.iconst 2, 1) := by decide +kernel
theorem dX8_turnOn_36 : decode cX8_turnOn 36 = .ok (.idiv, 1) := by decide +kernel
theorem dX8_turnOn_37 : decode cX8_turnOn 37 = .ok (.if_icmp .ge 59, 3) := by decide +kernel
theorem dX8_turnOn_40 : decode cX8_turnOn 40 = .ok (.aload_n 0, 1) := by decide +kernel
theorem dX8_turnOn_41 : decode cX8_turnOn 41 = .ok (.getfield 13, 3) := by decide +kernel
theorem dX8_turnOn_44 : decode cX8_turnOn 44 = .ok (.iload_n 3, 1) := by decide +kernel
theorem dX8_turnOn_45 : decode cX8_turnOn 45 = .ok (.iload 5, 2) := by decide +kernel
theorem dX8_turnOn_47 : decode cX8_turnOn 47 = .ok (.iadd, 1) := by decide +kernel
theorem dX8_turnOn_48 : decode cX8_turnOn 48 = .ok (.iaload, 1) := by decide +kernel
theorem dX8_turnOn_49 : decode cX8_turnOn 49 = .ok (.istore 6, 2) := by decide +kernel
theorem dX8_turnOn_51 : decode cX8_turnOn 51 = .ok (.aload_n 0, 1) := by decide +kernel
theorem dX8_turnOn_52 : decode cX8_turnOn 52 = .ok (.getfield 13, 3) := by decide +kernel
theorem dX8_turnOn_55 : decode cX8_turnOn 55 = .ok (.iload_n 3, 1) := by decide +kernel
theorem dX8_turnOn_56 : decode cX8_turnOn 56 = .ok (.iload 5, 2) := by decide +kernel
theorem dX8_turnOn_58 : decode cX8_turnOn 58 = .ok (.iadd, 1) := by decide +kernel
theorem dX8_turnOn_59 : decode cX8_turnOn 59 = .ok (.aload_n 0, 1) := by decide +kernel
theorem dX8_turnOn_60 : decode cX8_turnOn 60 = .ok (.getfield 13, 3) := by decide +kernel
theorem dX8_turnOn_63 : decode cX8_turnOn 63 = .ok (.iload_n 3, 1) := by decide +kernel
theorem dX8_turnOn_64 : decode cX8_turnOn 64 = .ok (.iload 4, 2) := by decide +kernel
theorem dX8_turnOn_66 : decode cX8_turnOn 66 = .ok (.iadd, 1) := by decide +kernel
theorem dX8_turnOn_67 : decode cX8_turnOn 67 = .ok (.iconst 1, 1) := by decide +kernel
theorem dX8_turnOn_68 : decode cX8_turnOn 68 = .ok (.isub, 1) := by decide +kernel
theorem dX8_turnOn_69 : decode cX8_turnOn 69 = .ok (.iload 5, 2) := by decide +kernel
theorem dX8_turnOn_71 : decode cX8_turnOn 71 = .ok (.isub, 1) := by decide +kernel
theorem dX8_turnOn_72 : decode cX8_turnOn 72 = .ok (.iaload, 1) := by decide +kernel
theorem dX8_turnOn_73 : decode cX8_turnOn 73 = .ok (.iastore, 1) := by decide +kernel
theorem dX8_turnOn_74 : decode cX8_turnOn 74 = .ok (.aload_n 0, 1) := by decide +kernel
theorem dX8_turnOn_75 : decode cX8_turnOn 75 = .ok (.getfield 13, 3) := by decide +kernel
theorem dX8_turnOn_78 : decode cX8_turnOn 78 = .ok (.iload_n 3, 1) := by decide +kernel
theorem dX8_turnOn_79 : decode cX8_turnOn 79 = .ok (.iload 4, 2) := by decide +kernel
theorem dX8_turnOn_81 : decode cX8_turnOn 81 = .ok (.iadd, 1) := by decide +kernel
theorem dX8_turnOn_82 : decode cX8_turnOn 82 = .ok (.iconst 1, 1) := by decide +kernel
theorem dX8_turnOn_83 : decode cX8_turnOn 83 = .ok (.isub, 1) := by decide +kernel
theorem dX8_turnOn_84 : decode cX8_turnOn 84 = .ok (.iload 5, 2) := by decide +kernel
theorem dX8_turnOn_86 : decode cX8_turnOn 86 = .ok (.isub, 1) := by decide +kernel
theorem dX8_turnOn_87 : decode cX8_turnOn 87 = .ok (.iload 6, 2) := by decide +kernel
theorem dX8_turnOn_89 : decode cX8_turnOn 89 = .ok (.iastore, 1) := by decide +kernel
theorem dX8_turnOn_90 : decode cX8_turnOn 90 = .ok (.iinc 5 1, 3) := by decide +kernel
theorem dX8_turnOn_93 : decode cX8_turnOn 93 = .ok (.goto (-62), 3) := by decide +kernel
theorem dX8_turnOn_96 : decode cX8_turnOn 96 = .ok (.return_, 1) := by decide +kernel
theorem dX8_overlapOf_0 : decode cX8_overlapOf 0 = .ok (.aload_n 0, 1) := by decide +kernel
theorem dX8_overlapOf_1 : decode cX8_overlapOf 1 = .ok (.getfield 13, 3) := by decide +kernel
theorem dX8_overlapOf_4 : decode cX8_overlapOf 4 = .ok (.bipush 57, 2) := by decide +kernel
theorem dX8_overlapOf_6 : decode cX8_overlapOf 6 = .ok (.iload_n 1, 1) := by decide +kernel
theorem dX8_overlapOf_7 : decode cX8_overlapOf 7 = .ok (.imul, 1) := by decide +kernel
theorem dX8_overlapOf_8 : decode cX8_overlapOf 8 = .ok (.iconst 4, 1) := by decide +kernel
theorem dX8_overlapOf_9 : decode cX8_overlapOf 9 = .ok (.iadd, 1) := by decide +kernel
theorem dX8_overlapOf_10 : decode cX8_overlapOf 10 = .ok (.iload_n 2, 1) := by decide +kernel
theorem dX8_overlapOf_11 : decode cX8_overlapOf 11 = .ok (.iadd, 1) := by decide +kernel
theorem dX8_overlapOf_12 : decode cX8_overlapOf 12 = .ok (.iaload, 1) := by decide +kernel
theorem dX8_overlapOf_13 : decode cX8_overlapOf 13 = .ok (.istore 4, 2) := by decide +kernel
theorem dX8_overlapOf_15 : decode cX8_overlapOf 15 = .ok (.aload_n 0, 1) := by decide +kernel
theorem dX8_overlapOf_16 : decode cX8_overlapOf 16 = .ok (.getfield 13, 3) := by decide +kernel
theorem dX8_overlapOf_19 : decode cX8_overlapOf 19 = .ok (.bipush 57, 2) := by decide +kernel
theorem dX8_overlapOf_21 : decode cX8_overlapOf 21 = .ok (.iload_n 1, 1) := by decide +kernel
theorem dX8_overlapOf_22 : decode cX8_overlapOf 22 = .ok (.imul, 1) := by decide +kernel
theorem dX8_overlapOf_23 : decode cX8_overlapOf 23 = .ok (.iconst 4, 1) := by decide +kernel
theorem dX8_overlapOf_24 : decode cX8_overlapOf 24 = .ok (.iadd, 1) := by decide +kernel
theorem dX8_overlapOf_25 : decode cX8_overlapOf 25 = .ok (.iload_n 3, 1) := by decide +kernel
theorem dX8_overlapOf_26 : decode cX8_overlapOf 26 = .ok (.iadd, 1) := by decide +kernel
theorem dX8_overlapOf_27 : decode cX8_overlapOf 27 = .ok (.iaload, 1) := by decide +kernel
theorem dX8_overlapOf_28 : decode cX8_overlapOf 28 = .ok (.istore 5, 2) := by decide +kernel
theorem dX8_overlapOf_30 : decode cX8_overlapOf 30 = .ok (.iload 4, 2) := by decide +kernel
theorem dX8_overlapOf_32 : decode cX8_overlapOf 32 = .ok (.iload 5, 2) := by decide +kernel
theorem dX8_overlapOf_34 : decode cX8_overlapOf 34 = .ok (.if_icmp .ge 8, 3) := by decide +kernel
theorem dX8_overlapOf_37 : decode cX8_overlapOf 37 = .ok (.iload 4, 2) := by decide +kernel
theorem dX8_overlapOf_39 : decode cX8_overlapOf 39 = .ok (.goto 5, 3) := by decide +kernel
theorem dX8_overlapOf_42 : decode cX8_overlapOf 42 = .ok (.iload 5, 2) := by decide +kernel
theorem dX8_overlapOf_44 : decode cX8_overlapOf 44 = .ok (.istore 6, 2) := by decide +kernel
theorem dX8_overlapOf_46 : decode cX8_overlapOf 46 = .ok (.iload 6, 2) := by decide +kernel
theorem dX8_overlapOf_48 : decode cX8_overlapOf 48 = .ok (.ifCond .le 73, 3) := by decide +kernel
theorem dX8_overlapOf_51 : decode cX8_overlapOf 51 = .ok (.iconst 1, 1) := by decide +kernel
theorem dX8_overlapOf_52 : decode cX8_overlapOf 52 = .ok (.istore 7, 2) := by decide +kernel
theorem dX8_overlapOf_54 : decode cX8_overlapOf 54 = .ok (.iconst 0, 1) := by decide +kernel
theorem dX8_overlapOf_55 : decode cX8_overlapOf 55 = .ok (.istore 8, 2) := by decide +kernel
theorem dX8_overlapOf_57 : decode cX8_overlapOf 57 = .ok (.iload 8, 2) := by decide +kernel
theorem dX8_overlapOf_59 : decode cX8_overlapOf 59 = .ok (.iload 6, 2) := by decide +kernel
theorem dX8_overlapOf_61 : decode cX8_overlapOf 61 = .ok (.if_icmp .ge 46, 3) := by decide +kernel
theorem dX8_overlapOf_64 : decode cX8_overlapOf 64 = .ok (.iload 7, 2) := by decide +kernel
theorem dX8_overlapOf_66 : decode cX8_overlapOf 66 = .ok (.ifCond .eq 32, 3) := by decide +kernel
theorem dX8_overlapOf_69 : decode cX8_overlapOf 69 = .ok (.aload_n 0, 1) := by decide +kernel
theorem dX8_overlapOf_70 : decode cX8_overlapOf 70 = .ok (.iload_n 1, 1) := by decide +kernel
theorem dX8_overlapOf_71 : decode cX8_overlapOf 71 = .ok (.iload_n 2, 1) := by decide +kernel
theorem dX8_overlapOf_72 : decode cX8_overlapOf 72 = .ok (.iload 4, 2) := by decide +kernel
theorem dX8_overlapOf_74 : decode cX8_overlapOf 74 = .ok (.iload 6, 2) := by decide +kernel
theorem dX8_overlapOf_76 : decode cX8_overlapOf 76 = .ok (.isub, 1) := by decide +kernel
theorem dX8_overlapOf_77 : decode cX8_overlapOf 77 = .ok (.iload 8, 2) := by decide +kernel
theorem dX8_overlapOf_79 : decode cX8_overlapOf 79 = .ok (.iadd, 1) := by decide +kernel
theorem dX8_overlapOf_80 : decode cX8_overlapOf 80 = .ok (.invokevirtual 122, 3) := by decide +kernel
theorem dX8_overlapOf_83 : decode cX8_overlapOf 83 = .ok (.aload_n 0, 1) := by decide +kernel
theorem dX8_overlapOf_84 : decode cX8_overlapOf 84 = .ok (.iload_n 1, 1) := by decide +kernel
theorem dX8_overlapOf_85 : decode cX8_overlapOf 85 = .ok (.iload_n 3, 1) := by decide +kernel
theorem dX8_overlapOf_86 : decode cX8_overlapOf 86 = .ok (.iload 8, 2) := by decide +kernel
theorem dX8_overlapOf_88 : decode cX8_overlapOf 88 = .ok (.invokevirtual 122, 3) := by decide +kernel
theorem dX8_overlapOf_91 : decode cX8_overlapOf 91 = .ok (.if_icmp .ne 7, 3) := by decide +kernel
theorem dX8_overlapOf_94 : decode cX8_overlapOf 94 = .ok (.iconst 1, 1) := by decide +kernel
theorem dX8_overlapOf_95 : decode cX8_overlapOf 95 = .ok (.goto 4, 3) := by decide +kernel
theorem dX8_overlapOf_98 : decode cX8_overlapOf 98 = .ok (.iconst 0, 1) := by decide +kernel
theorem dX8_overlapOf_99 : decode cX8_overlapOf 99 = .ok (.istore 7, 2) := by decide +kernel
theorem dX8_overlapOf_101 : decode cX8_overlapOf 101 = .ok (.iinc 8 1, 3) := by decide +kernel
theorem dX8_overlapOf_104 : decode cX8_overlapOf 104 = .ok (.goto (-47), 3) := by decide +kernel
theorem dX8_overlapOf_107 : decode cX8_overlapOf 107 = .ok (.iload 7, 2) := by decide +kernel
theorem dX8_overlapOf_109 : decode cX8_overlapOf 109 = .ok (.ifCond .eq 6, 3) := by decide +kernel
theorem dX8_overlapOf_112 : decode cX8_overlapOf 112 = .ok (.iload 6, 2) := by decide +kernel
theorem dX8_overlapOf_114 : decode cX8_overlapOf 114 = .ok (.ireturn, 1) := by decide +kernel
theorem dX8_overlapOf_115 : decode cX8_overlapOf 115 = .ok (.iinc 6 (-1), 3) := by decide +kernel
theorem dX8_overlapOf_118 : decode cX8_overlapOf 118 = .ok (.goto (-72), 3) := by decide +kernel
theorem dX8_overlapOf_121 : decode cX8_overlapOf 121 = .ok (.iconst 0, 1) := by decide +kernel
theorem dX8_overlapOf_122 : decode cX8_overlapOf 122 = .ok (.ireturn, 1) := by decide +kernel
theorem dX8_joinedMany_0 : decode cX8_joinedMany 0 = .ok (.aload_n 0, 1) := by decide +kernel
theorem dX8_joinedMany_1 : decode cX8_joinedMany 1 = .ok (.getfield 13, 3) := by decide +kernel
theorem dX8_joinedMany_4 : decode cX8_joinedMany 4 = .ok (.bipush 57, 2) := by decide +kernel
theorem dX8_joinedMany_6 : decode cX8_joinedMany 6 = .ok (.iload_n 1, 1) := by decide +kernel
theorem dX8_joinedMany_7 : decode cX8_joinedMany 7 = .ok (.imul, 1) := by decide +kernel
theorem dX8_joinedMany_8 : decode cX8_joinedMany 8 = .ok (.iconst 4, 1) := by decide +kernel
theorem dX8_joinedMany_9 : decode cX8_joinedMany 9 = .ok (.iadd, 1) := by decide +kernel
theorem dX8_joinedMany_10 : decode cX8_joinedMany 10 = .ok (.iload_n 2, 1) := by decide +kernel
theorem dX8_joinedMany_11 : decode cX8_joinedMany 11 = .ok (.iadd, 1) := by decide +kernel
theorem dX8_joinedMany_12 : decode cX8_joinedMany 12 = .ok (.iaload, 1) := by decide +kernel
theorem dX8_joinedMany_13 : decode cX8_joinedMany 13 = .ok (.aload_n 0, 1) := by decide +kernel
theorem dX8_joinedMany_14 : decode cX8_joinedMany 14 = .ok (.getfield 13, 3) := by decide +kernel
theorem dX8_joinedMany_17 : decode cX8_joinedMany 17 = .ok (.bipush 57, 2) := by decide +kernel
theorem dX8_joinedMany_19 : decode cX8_joinedMany 19 = .ok (.iload_n 1, 1) := by decide +kernel
theorem dX8_joinedMany_20 : decode cX8_joinedMany 20 = .ok (.imul, 1) := by decide +kernel
theorem dX8_joinedMany_21 : decode cX8_joinedMany 21 = .ok (.iconst 4, 1) := by decide +kernel
theorem dX8_joinedMany_22 : decode cX8_joinedMany 22 = .ok (.iadd, 1) := by decide +kernel
theorem dX8_joinedMany_23 : decode cX8_joinedMany 23 = .ok (.iload_n 3, 1) := by decide +kernel
theorem dX8_joinedMany_24 : decode cX8_joinedMany 24 = .ok (.iadd, 1) := by decide +kernel
theorem dX8_joinedMany_25 : decode cX8_joinedMany 25 = .ok (.iaload, 1) := by decide +kernel
theorem dX8_joinedMany_26 : decode cX8_joinedMany 26 = .ok (.iadd, 1) := by decide +kernel
theorem dX8_joinedMany_27 : decode cX8_joinedMany 27 = .ok (.aload_n 0, 1) := by decide +kernel
theorem dX8_joinedMany_28 : decode cX8_joinedMany 28 = .ok (.iload_n 1, 1) := by decide +kernel
theorem dX8_joinedMany_29 : decode cX8_joinedMany 29 = .ok (.iload_n 2, 1) := by decide +kernel
theorem dX8_joinedMany_30 : decode cX8_joinedMany 30 = .ok (.iload_n 3, 1) := by decide +kernel
theorem dX8_joinedMany_31 : decode cX8_joinedMany 31 = .ok (.invokevirtual 126, 3) := by decide +kernel
theorem dX8_joinedMany_34 : decode cX8_joinedMany 34 = .ok (.isub, 1) := by decide +kernel
theorem dX8_joinedMany_35 : decode cX8_joinedMany 35 = .ok (.ireturn, 1) := by decide +kernel
theorem dX8_isOneHouse_0 : decode cX8_isOneHouse 0 = .ok (.aload_n 0, 1) := by decide +kernel
theorem dX8_isOneHouse_1 : decode cX8_isOneHouse 1 = .ok (.getfield 13, 3) := by decide +kernel
theorem dX8_isOneHouse_4 : decode cX8_isOneHouse 4 = .ok (.bipush 57, 2) := by decide +kernel
theorem dX8_isOneHouse_6 : decode cX8_isOneHouse 6 = .ok (.iload_n 1, 1) := by decide +kernel
theorem dX8_isOneHouse_7 : decode cX8_isOneHouse 7 = .ok (.imul, 1) := by decide +kernel
theorem dX8_isOneHouse_8 : decode cX8_isOneHouse 8 = .ok (.iload_n 2, 1) := by decide +kernel
theorem dX8_isOneHouse_9 : decode cX8_isOneHouse 9 = .ok (.iadd, 1) := by decide +kernel
theorem dX8_isOneHouse_10 : decode cX8_isOneHouse 10 = .ok (.iaload, 1) := by decide +kernel
theorem dX8_isOneHouse_11 : decode cX8_isOneHouse 11 = .ok (.aload_n 0, 1) := by decide +kernel
theorem dX8_isOneHouse_12 : decode cX8_isOneHouse 12 = .ok (.getfield 13, 3) := by decide +kernel
theorem dX8_isOneHouse_15 : decode cX8_isOneHouse 15 = .ok (.bipush 57, 2) := by decide +kernel
theorem dX8_isOneHouse_17 : decode cX8_isOneHouse 17 = .ok (.iload_n 1, 1) := by decide +kernel
theorem dX8_isOneHouse_18 : decode cX8_isOneHouse 18 = .ok (.imul, 1) := by decide +kernel
theorem dX8_isOneHouse_19 : decode cX8_isOneHouse 19 = .ok (.iload_n 3, 1) := by decide +kernel
theorem dX8_isOneHouse_20 : decode cX8_isOneHouse 20 = .ok (.iadd, 1) := by decide +kernel
theorem dX8_isOneHouse_21 : decode cX8_isOneHouse 21 = .ok (.iaload, 1) := by decide +kernel
theorem dX8_isOneHouse_22 : decode cX8_isOneHouse 22 = .ok (.if_icmp .ne 7, 3) := by decide +kernel
theorem dX8_isOneHouse_25 : decode cX8_isOneHouse 25 = .ok (.iconst 1, 1) := by decide +kernel
theorem dX8_isOneHouse_26 : decode cX8_isOneHouse 26 = .ok (.goto 4, 3) := by decide +kernel
theorem dX8_isOneHouse_29 : decode cX8_isOneHouse 29 = .ok (.iconst 0, 1) := by decide +kernel
theorem dX8_isOneHouse_30 : decode cX8_isOneHouse 30 = .ok (.ireturn, 1) := by decide +kernel
theorem dX8_canJoin_0 : decode cX8_canJoin 0 = .ok (.aload_n 0, 1) := by decide +kernel
theorem dX8_canJoin_1 : decode cX8_canJoin 1 = .ok (.iload_n 1, 1) := by decide +kernel
theorem dX8_canJoin_2 : decode cX8_canJoin 2 = .ok (.iload_n 2, 1) := by decide +kernel
theorem dX8_canJoin_3 : decode cX8_canJoin 3 = .ok (.invokevirtual 99, 3) := by decide +kernel
theorem dX8_canJoin_6 : decode cX8_canJoin 6 = .ok (.ifCond .eq 43, 3) := by decide +kernel
theorem dX8_canJoin_9 : decode cX8_canJoin 9 = .ok (.aload_n 0, 1) := by decide +kernel
theorem dX8_canJoin_10 : decode cX8_canJoin 10 = .ok (.iload_n 1, 1) := by decide +kernel
theorem dX8_canJoin_11 : decode cX8_canJoin 11 = .ok (.iload_n 3, 1) := by decide +kernel
theorem dX8_canJoin_12 : decode cX8_canJoin 12 = .ok (.invokevirtual 99, 3) := by decide +kernel
theorem dX8_canJoin_15 : decode cX8_canJoin 15 = .ok (.ifCond .eq 34, 3) := by decide +kernel
theorem dX8_canJoin_18 : decode cX8_canJoin 18 = .ok (.iload_n 2, 1) := by decide +kernel
theorem dX8_canJoin_19 : decode cX8_canJoin 19 = .ok (.iload_n 3, 1) := by decide +kernel
theorem dX8_canJoin_20 : decode cX8_canJoin 20 = .ok (.if_icmp .eq 29, 3) := by decide +kernel
theorem dX8_canJoin_23 : decode cX8_canJoin 23 = .ok (.aload_n 0, 1) := by decide +kernel
theorem dX8_canJoin_24 : decode cX8_canJoin 24 = .ok (.iload_n 1, 1) := by decide +kernel
theorem dX8_canJoin_25 : decode cX8_canJoin 25 = .ok (.iload_n 2, 1) := by decide +kernel
theorem dX8_canJoin_26 : decode cX8_canJoin 26 = .ok (.iload_n 3, 1) := by decide +kernel
theorem dX8_canJoin_27 : decode cX8_canJoin 27 = .ok (.invokevirtual 129, 3) := by decide +kernel
theorem dX8_canJoin_30 : decode cX8_canJoin 30 = .ok (.ifCond .eq 19, 3) := by decide +kernel
theorem dX8_canJoin_33 : decode cX8_canJoin 33 = .ok (.aload_n 0, 1) := by decide +kernel
theorem dX8_canJoin_34 : decode cX8_canJoin 34 = .ok (.iload_n 1, 1) := by decide +kernel
theorem dX8_canJoin_35 : decode cX8_canJoin 35 = .ok (.iload_n 2, 1) := by decide +kernel
theorem dX8_canJoin_36 : decode cX8_canJoin 36 = .ok (.iload_n 3, 1) := by decide +kernel
theorem dX8_canJoin_37 : decode cX8_canJoin 37 = .ok (.invokevirtual 133, 3) := by decide +kernel
theorem dX8_canJoin_40 : decode cX8_canJoin 40 = .ok (.bipush 12, 2) := by decide +kernel
theorem dX8_canJoin_42 : decode cX8_canJoin 42 = .ok (.if_icmp .gt 7, 3) := by decide +kernel
theorem dX8_canJoin_45 : decode cX8_canJoin 45 = .ok (.iconst 1, 1) := by decide +kernel
theorem dX8_canJoin_46 : decode cX8_canJoin 46 = .ok (.goto 4, 3) := by decide +kernel
theorem dX8_canJoin_49 : decode cX8_canJoin 49 = .ok (.iconst 0, 1) := by decide +kernel
theorem dX8_canJoin_50 : decode cX8_canJoin 50 = .ok (.ireturn, 1) := by decide +kernel
theorem dX8_joinOn_0 : decode cX8_joinOn 0 = .ok (.aload_n 0, 1) := by decide +kernel
theorem dX8_joinOn_1 : decode cX8_joinOn 1 = .ok (.iload_n 1, 1) := by decide +kernel
theorem dX8_joinOn_2 : decode cX8_joinOn 2 = .ok (.iload_n 2, 1) := by decide +kernel
theorem dX8_joinOn_3 : decode cX8_joinOn 3 = .ok (.iload_n 3, 1) := by decide +kernel
theorem dX8_joinOn_4 : decode cX8_joinOn 4 = .ok (.invokevirtual 126, 3) := by decide +kernel
theorem dX8_joinOn_7 : decode cX8_joinOn 7 = .ok (.istore 4, 2) := by decide +kernel
theorem dX8_joinOn_9 : decode cX8_joinOn 9 = .ok (.aload_n 0, 1) := by decide +kernel
theorem dX8_joinOn_10 : decode cX8_joinOn 10 = .ok (.getfield 13, 3) := by decide +kernel
theorem dX8_joinOn_13 : decode cX8_joinOn 13 = .ok (.bipush 57, 2) := by decide +kernel
theorem dX8_joinOn_15 : decode cX8_joinOn 15 = .ok (.iload_n 1, 1) := by decide +kernel
theorem dX8_joinOn_16 : decode cX8_joinOn 16 = .ok (.imul, 1) := by decide +kernel
theorem dX8_joinOn_17 : decode cX8_joinOn 17 = .ok (.iconst 4, 1) := by decide +kernel
theorem dX8_joinOn_18 : decode cX8_joinOn 18 = .ok (.iadd, 1) := by decide +kernel
theorem dX8_joinOn_19 : decode cX8_joinOn 19 = .ok (.iload_n 2, 1) := by decide +kernel
theorem dX8_joinOn_20 : decode cX8_joinOn 20 = .ok (.iadd, 1) := by decide +kernel
theorem dX8_joinOn_21 : decode cX8_joinOn 21 = .ok (.iaload, 1) := by decide +kernel
theorem dX8_joinOn_22 : decode cX8_joinOn 22 = .ok (.istore 5, 2) := by decide +kernel
theorem dX8_joinOn_24 : decode cX8_joinOn 24 = .ok (.aload_n 0, 1) := by decide +kernel
theorem dX8_joinOn_25 : decode cX8_joinOn 25 = .ok (.getfield 13, 3) := by decide +kernel
theorem dX8_joinOn_28 : decode cX8_joinOn 28 = .ok (.bipush 57, 2) := by decide +kernel
theorem dX8_joinOn_30 : decode cX8_joinOn 30 = .ok (.iload_n 1, 1) := by decide +kernel
theorem dX8_joinOn_31 : decode cX8_joinOn 31 = .ok (.imul, 1) := by decide +kernel
theorem dX8_joinOn_32 : decode cX8_joinOn 32 = .ok (.iconst 4, 1) := by decide +kernel
theorem dX8_joinOn_33 : decode cX8_joinOn 33 = .ok (.iadd, 1) := by decide +kernel
theorem dX8_joinOn_34 : decode cX8_joinOn 34 = .ok (.iload_n 3, 1) := by decide +kernel
theorem dX8_joinOn_35 : decode cX8_joinOn 35 = .ok (.iadd, 1) := by decide +kernel
theorem dX8_joinOn_36 : decode cX8_joinOn 36 = .ok (.iaload, 1) := by decide +kernel
theorem dX8_joinOn_37 : decode cX8_joinOn 37 = .ok (.istore 6, 2) := by decide +kernel
theorem dX8_joinOn_39 : decode cX8_joinOn 39 = .ok (.iload 4, 2) := by decide +kernel
theorem dX8_joinOn_41 : decode cX8_joinOn 41 = .ok (.istore 7, 2) := by decide +kernel
theorem dX8_joinOn_43 : decode cX8_joinOn 43 = .ok (.iload 7, 2) := by decide +kernel
theorem dX8_joinOn_45 : decode cX8_joinOn 45 = .ok (.iload 6, 2) := by decide +kernel
theorem dX8_joinOn_47 : decode cX8_joinOn 47 = .ok (.if_icmp .ge 43, 3) := by decide +kernel
theorem dX8_joinOn_50 : decode cX8_joinOn 50 = .ok (.aload_n 0, 1) := by decide +kernel
theorem dX8_joinOn_51 : decode cX8_joinOn 51 = .ok (.getfield 13, 3) := by decide +kernel
theorem dX8_joinOn_54 : decode cX8_joinOn 54 = .ok (.bipush 57, 2) := by decide +kernel
theorem dX8_joinOn_56 : decode cX8_joinOn 56 = .ok (.iload_n 1, 1) := by decide +kernel
theorem dX8_joinOn_57 : decode cX8_joinOn 57 = .ok (.imul, 1) := by decide +kernel
theorem dX8_joinOn_58 : decode cX8_joinOn 58 = .ok (.bipush 8, 2) := by decide +kernel
theorem dX8_joinOn_60 : decode cX8_joinOn 60 = .ok (.iadd, 1) := by decide +kernel
theorem dX8_joinOn_61 : decode cX8_joinOn 61 = .ok (.bipush 12, 2) := by decide +kernel
theorem dX8_joinOn_63 : decode cX8_joinOn 63 = .ok (.iload_n 2, 1) := by decide +kernel
theorem dX8_joinOn_64 : decode cX8_joinOn 64 = .ok (.imul, 1) := by decide +kernel
theorem dX8_joinOn_65 : decode cX8_joinOn 65 = .ok (.iadd, 1) := by decide +kernel
theorem dX8_joinOn_66 : decode cX8_joinOn 66 = .ok (.iload 5, 2) := by decide +kernel
theorem dX8_joinOn_68 : decode cX8_joinOn 68 = .ok (.iadd, 1) := by decide +kernel
theorem dX8_joinOn_69 : decode cX8_joinOn 69 = .ok (.iload 7, 2) := by decide +kernel
theorem dX8_joinOn_71 : decode cX8_joinOn 71 = .ok (.iadd, 1) := by decide +kernel
theorem dX8_joinOn_72 : decode cX8_joinOn 72 = .ok (.iload 4, 2) := by decide +kernel
theorem dX8_joinOn_74 : decode cX8_joinOn 74 = .ok (.isub, 1) := by decide +kernel
theorem dX8_joinOn_75 : decode cX8_joinOn 75 = .ok (.aload_n 0, 1) := by decide +kernel
theorem dX8_joinOn_76 : decode cX8_joinOn 76 = .ok (.iload_n 1, 1) := by decide +kernel
theorem dX8_joinOn_77 : decode cX8_joinOn 77 = .ok (.iload_n 3, 1) := by decide +kernel
theorem dX8_joinOn_78 : decode cX8_joinOn 78 = .ok (.iload 7, 2) := by decide +kernel
theorem dX8_joinOn_80 : decode cX8_joinOn 80 = .ok (.invokevirtual 122, 3) := by decide +kernel
theorem dX8_joinOn_83 : decode cX8_joinOn 83 = .ok (.iastore, 1) := by decide +kernel
theorem dX8_joinOn_84 : decode cX8_joinOn 84 = .ok (.iinc 7 1, 3) := by decide +kernel
theorem dX8_joinOn_87 : decode cX8_joinOn 87 = .ok (.goto (-44), 3) := by decide +kernel
theorem dX8_joinOn_90 : decode cX8_joinOn 90 = .ok (.aload_n 0, 1) := by decide +kernel
theorem dX8_joinOn_91 : decode cX8_joinOn 91 = .ok (.getfield 13, 3) := by decide +kernel
theorem dX8_joinOn_94 : decode cX8_joinOn 94 = .ok (.bipush 57, 2) := by decide +kernel
theorem dX8_joinOn_96 : decode cX8_joinOn 96 = .ok (.iload_n 1, 1) := by decide +kernel
theorem dX8_joinOn_97 : decode cX8_joinOn 97 = .ok (.imul, 1) := by decide +kernel
theorem dX8_joinOn_98 : decode cX8_joinOn 98 = .ok (.iconst 4, 1) := by decide +kernel
theorem dX8_joinOn_99 : decode cX8_joinOn 99 = .ok (.iadd, 1) := by decide +kernel
theorem dX8_joinOn_100 : decode cX8_joinOn 100 = .ok (.iload_n 2, 1) := by decide +kernel
theorem dX8_joinOn_101 : decode cX8_joinOn 101 = .ok (.iadd, 1) := by decide +kernel
theorem dX8_joinOn_102 : decode cX8_joinOn 102 = .ok (.iload 5, 2) := by decide +kernel
theorem dX8_joinOn_104 : decode cX8_joinOn 104 = .ok (.iload 6, 2) := by decide +kernel
theorem dX8_joinOn_106 : decode cX8_joinOn 106 = .ok (.iadd, 1) := by decide +kernel
theorem dX8_joinOn_107 : decode cX8_joinOn 107 = .ok (.iload 4, 2) := by decide +kernel
theorem dX8_joinOn_109 : decode cX8_joinOn 109 = .ok (.isub, 1) := by decide +kernel
theorem dX8_joinOn_110 : decode cX8_joinOn 110 = .ok (.iastore, 1) := by decide +kernel
theorem dX8_joinOn_111 : decode cX8_joinOn 111 = .ok (.aload_n 0, 1) := by decide +kernel
theorem dX8_joinOn_112 : decode cX8_joinOn 112 = .ok (.getfield 13, 3) := by decide +kernel
theorem dX8_joinOn_115 : decode cX8_joinOn 115 = .ok (.bipush 57, 2) := by decide +kernel
theorem dX8_joinOn_117 : decode cX8_joinOn 117 = .ok (.iload_n 1, 1) := by decide +kernel
theorem dX8_joinOn_118 : decode cX8_joinOn 118 = .ok (.imul, 1) := by decide +kernel
theorem dX8_joinOn_119 : decode cX8_joinOn 119 = .ok (.iconst 4, 1) := by decide +kernel
theorem dX8_joinOn_120 : decode cX8_joinOn 120 = .ok (.iadd, 1) := by decide +kernel
theorem dX8_joinOn_121 : decode cX8_joinOn 121 = .ok (.iload_n 3, 1) := by decide +kernel
theorem dX8_joinOn_122 : decode cX8_joinOn 122 = .ok (.iadd, 1) := by decide +kernel
theorem dX8_joinOn_123 : decode cX8_joinOn 123 = .ok (.iconst 0, 1) := by decide +kernel
theorem dX8_joinOn_124 : decode cX8_joinOn 124 = .ok (.iastore, 1) := by decide +kernel
theorem dX8_joinOn_125 : decode cX8_joinOn 125 = .ok (.return_, 1) := by decide +kernel
theorem dX8_tenTo_0 : decode cX8_tenTo 0 = .ok (.lconst 1, 1) := by decide +kernel
theorem dX8_tenTo_1 : decode cX8_tenTo 1 = .ok (.lstore_n 1, 1) := by decide +kernel
theorem dX8_tenTo_2 : decode cX8_tenTo 2 = .ok (.iconst 0, 1) := by decide +kernel
theorem dX8_tenTo_3 : decode cX8_tenTo 3 = .ok (.istore_n 3, 1) := by decide +kernel
theorem dX8_tenTo_4 : decode cX8_tenTo 4 = .ok (.iload_n 3, 1) := by decide +kernel
theorem dX8_tenTo_5 : decode cX8_tenTo 5 = .ok (.iload_n 0, 1) := by decide +kernel
theorem dX8_tenTo_6 : decode cX8_tenTo 6 = .ok (.if_icmp .ge 15, 3) := by decide +kernel
theorem dX8_tenTo_9 : decode cX8_tenTo 9 = .ok (.lload_n 1, 1) := by decide +kernel
theorem dX8_tenTo_10 : decode cX8_tenTo 10 = .ok (.ldc2_w 136, 3) := by decide +kernel
theorem dX8_tenTo_13 : decode cX8_tenTo 13 = .ok (.lmul, 1) := by decide +kernel
theorem dX8_tenTo_14 : decode cX8_tenTo 14 = .ok (.lstore_n 1, 1) := by decide +kernel
theorem dX8_tenTo_15 : decode cX8_tenTo 15 = .ok (.iinc 3 1, 3) := by decide +kernel
theorem dX8_tenTo_18 : decode cX8_tenTo 18 = .ok (.goto (-14), 3) := by decide +kernel
theorem dX8_tenTo_21 : decode cX8_tenTo 21 = .ok (.lload_n 1, 1) := by decide +kernel
theorem dX8_tenTo_22 : decode cX8_tenTo 22 = .ok (.lreturn, 1) := by decide +kernel
theorem dX8_bed_0 : decode cX8_bed 0 = .ok (.iload_n 1, 1) := by decide +kernel
theorem dX8_bed_1 : decode cX8_bed 1 = .ok (.i2l, 1) := by decide +kernel
theorem dX8_bed_2 : decode cX8_bed 2 = .ok (.lconst 0, 1) := by decide +kernel
theorem dX8_bed_3 : decode cX8_bed 3 = .ok (.ldc2_w 138, 3) := by decide +kernel
theorem dX8_bed_6 : decode cX8_bed 6 = .ok (.invokestatic 52, 3) := by decide +kernel
theorem dX8_bed_9 : decode cX8_bed 9 = .ok (.ifCond .eq 17, 3) := by decide +kernel
theorem dX8_bed_12 : decode cX8_bed 12 = .ok (.lload_n 2, 1) := by decide +kernel
theorem dX8_bed_13 : decode cX8_bed 13 = .ok (.lconst 0, 1) := by decide +kernel
theorem dX8_bed_14 : decode cX8_bed 14 = .ok (.iload_n 1, 1) := by decide +kernel
theorem dX8_bed_15 : decode cX8_bed 15 = .ok (.invokestatic 140, 3) := by decide +kernel
theorem dX8_bed_18 : decode cX8_bed 18 = .ok (.lconst 1, 1) := by decide +kernel
theorem dX8_bed_19 : decode cX8_bed 19 = .ok (.lsub, 1) := by decide +kernel
theorem dX8_bed_20 : decode cX8_bed 20 = .ok (.invokestatic 52, 3) := by decide +kernel
theorem dX8_bed_23 : decode cX8_bed 23 = .ok (.ifCond .ne 6, 3) := by decide +kernel
theorem dX8_bed_26 : decode cX8_bed 26 = .ok (.bipush (-2), 2) := by decide +kernel
theorem dX8_bed_28 : decode cX8_bed 28 = .ok (.ireturn, 1) := by decide +kernel
theorem dX8_bed_29 : decode cX8_bed 29 = .ok (.iconst 0, 1) := by decide +kernel
theorem dX8_bed_30 : decode cX8_bed 30 = .ok (.istore 4, 2) := by decide +kernel
theorem dX8_bed_32 : decode cX8_bed 32 = .ok (.iload 4, 2) := by decide +kernel
theorem dX8_bed_34 : decode cX8_bed 34 = .ok (.iload_n 1, 1) := by decide +kernel
theorem dX8_bed_35 : decode cX8_bed 35 = .ok (.if_icmp .ge 37, 3) := by decide +kernel
theorem dX8_bed_38 : decode cX8_bed 38 = .ok (.lload_n 2, 1) := by decide +kernel
theorem dX8_bed_39 : decode cX8_bed 39 = .ok (.iload_n 1, 1) := by decide +kernel
theorem dX8_bed_40 : decode cX8_bed 40 = .ok (.iconst 1, 1) := by decide +kernel
theorem dX8_bed_41 : decode cX8_bed 41 = .ok (.isub, 1) := by decide +kernel
theorem dX8_bed_42 : decode cX8_bed 42 = .ok (.iload 4, 2) := by decide +kernel
theorem dX8_bed_44 : decode cX8_bed 44 = .ok (.isub, 1) := by decide +kernel
theorem dX8_bed_45 : decode cX8_bed 45 = .ok (.invokestatic 140, 3) := by decide +kernel
theorem dX8_bed_48 : decode cX8_bed 48 = .ok (.ldiv, 1) := by decide +kernel
theorem dX8_bed_49 : decode cX8_bed 49 = .ok (.ldc2_w 136, 3) := by decide +kernel
theorem dX8_bed_52 : decode cX8_bed 52 = .ok (.lrem, 1) := by decide +kernel
theorem dX8_bed_53 : decode cX8_bed 53 = .ok (.lconst 1, 1) := by decide +kernel
theorem dX8_bed_54 : decode cX8_bed 54 = .ok (.ldc2_w 144, 3) := by decide +kernel
theorem dX8_bed_57 : decode cX8_bed 57 = .ok (.invokestatic 52, 3) := by decide +kernel
theorem dX8_bed_60 : decode cX8_bed 60 = .ok (.ifCond .ne 6, 3) := by decide +kernel
theorem dX8_bed_63 : decode cX8_bed 63 = .ok (.bipush (-2), 2) := by decide +kernel
theorem dX8_bed_65 : decode cX8_bed 65 = .ok (.ireturn, 1) := by decide +kernel
theorem dX8_bed_66 : decode cX8_bed 66 = .ok (.iinc 4 1, 3) := by decide +kernel
theorem dX8_bed_69 : decode cX8_bed 69 = .ok (.goto (-37), 3) := by decide +kernel
theorem dX8_bed_72 : decode cX8_bed 72 = .ok (.aload_n 0, 1) := by decide +kernel
theorem dX8_bed_73 : decode cX8_bed 73 = .ok (.getfield 146, 3) := by decide +kernel
theorem dX8_bed_76 : decode cX8_bed 76 = .ok (.istore 4, 2) := by decide +kernel
theorem dX8_bed_78 : decode cX8_bed 78 = .ok (.aload_n 0, 1) := by decide +kernel
theorem dX8_bed_79 : decode cX8_bed 79 = .ok (.iload_n 1, 1) := by decide +kernel
theorem dX8_bed_80 : decode cX8_bed 80 = .ok (.putfield 146, 3) := by decide +kernel
theorem dX8_bed_83 : decode cX8_bed 83 = .ok (.iconst 0, 1) := by decide +kernel
theorem dX8_bed_84 : decode cX8_bed 84 = .ok (.istore 5, 2) := by decide +kernel
theorem dX8_bed_86 : decode cX8_bed 86 = .ok (.iload 5, 2) := by decide +kernel
theorem dX8_bed_88 : decode cX8_bed 88 = .ok (.iload_n 1, 1) := by decide +kernel
theorem dX8_bed_89 : decode cX8_bed 89 = .ok (.if_icmp .ge 32, 3) := by decide +kernel
theorem dX8_bed_92 : decode cX8_bed 92 = .ok (.aload_n 0, 1) := by decide +kernel
theorem dX8_bed_93 : decode cX8_bed 93 = .ok (.getfield 28, 3) := by decide +kernel
theorem dX8_bed_96 : decode cX8_bed 96 = .ok (.iload 5, 2) := by decide +kernel
theorem dX8_bed_98 : decode cX8_bed 98 = .ok (.lload_n 2, 1) := by decide +kernel
theorem dX8_bed_99 : decode cX8_bed 99 = .ok (.iload_n 1, 1) := by decide +kernel
theorem dX8_bed_100 : decode cX8_bed 100 = .ok (.iconst 1, 1) := by decide +kernel
theorem dX8_bed_101 : decode cX8_bed 101 = .ok (.isub, 1) := by decide +kernel
theorem dX8_bed_102 : decode cX8_bed 102 = .ok (.iload 5, 2) := by decide +kernel
theorem dX8_bed_104 : decode cX8_bed 104 = .ok (.isub, 1) := by decide +kernel
theorem dX8_bed_105 : decode cX8_bed 105 = .ok (.invokestatic 140, 3) := by decide +kernel
theorem dX8_bed_108 : decode cX8_bed 108 = .ok (.ldiv, 1) := by decide +kernel
theorem dX8_bed_109 : decode cX8_bed 109 = .ok (.ldc2_w 136, 3) := by decide +kernel
theorem dX8_bed_112 : decode cX8_bed 112 = .ok (.lrem, 1) := by decide +kernel
theorem dX8_bed_113 : decode cX8_bed 113 = .ok (.l2i, 1) := by decide +kernel
theorem dX8_bed_114 : decode cX8_bed 114 = .ok (.iastore, 1) := by decide +kernel
theorem dX8_bed_115 : decode cX8_bed 115 = .ok (.iinc 5 1, 3) := by decide +kernel
theorem dX8_bed_118 : decode cX8_bed 118 = .ok (.goto (-32), 3) := by decide +kernel
theorem dX8_bed_121 : decode cX8_bed 121 = .ok (.iload 4, 2) := by decide +kernel
theorem dX8_bed_123 : decode cX8_bed 123 = .ok (.ireturn, 1) := by decide +kernel
theorem dX8_liesAt_0 : decode cX8_liesAt 0 = .ok (.aload_n 0, 1) := by decide +kernel
theorem dX8_liesAt_1 : decode cX8_liesAt 1 = .ok (.getfield 13, 3) := by decide +kernel
theorem dX8_liesAt_4 : decode cX8_liesAt 4 = .ok (.bipush 57, 2) := by decide +kernel
theorem dX8_liesAt_6 : decode cX8_liesAt 6 = .ok (.iload_n 1, 1) := by decide +kernel
theorem dX8_liesAt_7 : decode cX8_liesAt 7 = .ok (.imul, 1) := by decide +kernel
theorem dX8_liesAt_8 : decode cX8_liesAt 8 = .ok (.iconst 4, 1) := by decide +kernel
theorem dX8_liesAt_9 : decode cX8_liesAt 9 = .ok (.iadd, 1) := by decide +kernel
theorem dX8_liesAt_10 : decode cX8_liesAt 10 = .ok (.iload_n 2, 1) := by decide +kernel
theorem dX8_liesAt_11 : decode cX8_liesAt 11 = .ok (.iadd, 1) := by decide +kernel
theorem dX8_liesAt_12 : decode cX8_liesAt 12 = .ok (.iaload, 1) := by decide +kernel
theorem dX8_liesAt_13 : decode cX8_liesAt 13 = .ok (.istore 4, 2) := by decide +kernel
theorem dX8_liesAt_15 : decode cX8_liesAt 15 = .ok (.iload_n 3, 1) := by decide +kernel
theorem dX8_liesAt_16 : decode cX8_liesAt 16 = .ok (.iload 4, 2) := by decide +kernel
theorem dX8_liesAt_18 : decode cX8_liesAt 18 = .ok (.iadd, 1) := by decide +kernel
theorem dX8_liesAt_19 : decode cX8_liesAt 19 = .ok (.aload_n 0, 1) := by decide +kernel
theorem dX8_liesAt_20 : decode cX8_liesAt 20 = .ok (.getfield 146, 3) := by decide +kernel
theorem dX8_liesAt_23 : decode cX8_liesAt 23 = .ok (.if_icmp .gt 7, 3) := by decide +kernel
theorem dX8_liesAt_26 : decode cX8_liesAt 26 = .ok (.iconst 1, 1) := by decide +kernel
theorem dX8_liesAt_27 : decode cX8_liesAt 27 = .ok (.goto 4, 3) := by decide +kernel
theorem dX8_liesAt_30 : decode cX8_liesAt 30 = .ok (.iconst 0, 1) := by decide +kernel
theorem dX8_liesAt_31 : decode cX8_liesAt 31 = .ok (.istore 5, 2) := by decide +kernel
theorem dX8_liesAt_33 : decode cX8_liesAt 33 = .ok (.iconst 0, 1) := by decide +kernel
theorem dX8_liesAt_34 : decode cX8_liesAt 34 = .ok (.istore 6, 2) := by decide +kernel
theorem dX8_liesAt_36 : decode cX8_liesAt 36 = .ok (.iload 6, 2) := by decide +kernel
theorem dX8_liesAt_38 : decode cX8_liesAt 38 = .ok (.iload 4, 2) := by decide +kernel
theorem dX8_liesAt_40 : decode cX8_liesAt 40 = .ok (.if_icmp .ge 41, 3) := by decide +kernel
theorem dX8_liesAt_43 : decode cX8_liesAt 43 = .ok (.iload 5, 2) := by decide +kernel
theorem dX8_liesAt_45 : decode cX8_liesAt 45 = .ok (.ifCond .eq 36, 3) := by decide +kernel
theorem dX8_liesAt_48 : decode cX8_liesAt 48 = .ok (.aload_n 0, 1) := by decide +kernel
theorem dX8_liesAt_49 : decode cX8_liesAt 49 = .ok (.getfield 28, 3) := by decide +kernel
theorem dX8_liesAt_52 : decode cX8_liesAt 52 = .ok (.iload_n 3, 1) := by decide +kernel
theorem dX8_liesAt_53 : decode cX8_liesAt 53 = .ok (.iload 6, 2) := by decide +kernel
theorem dX8_liesAt_55 : decode cX8_liesAt 55 = .ok (.iadd, 1) := by decide +kernel
theorem dX8_liesAt_56 : decode cX8_liesAt 56 = .ok (.iaload, 1) := by decide +kernel
theorem dX8_liesAt_57 : decode cX8_liesAt 57 = .ok (.aload_n 0, 1) := by decide +kernel
theorem dX8_liesAt_58 : decode cX8_liesAt 58 = .ok (.iload_n 1, 1) := by decide +kernel
theorem dX8_liesAt_59 : decode cX8_liesAt 59 = .ok (.iload_n 2, 1) := by decide +kernel
theorem dX8_liesAt_60 : decode cX8_liesAt 60 = .ok (.iload 6, 2) := by decide +kernel
theorem dX8_liesAt_62 : decode cX8_liesAt 62 = .ok (.invokevirtual 122, 3) := by decide +kernel
theorem dX8_liesAt_65 : decode cX8_liesAt 65 = .ok (.if_icmp .ne 7, 3) := by decide +kernel
theorem dX8_liesAt_68 : decode cX8_liesAt 68 = .ok (.iconst 1, 1) := by decide +kernel
theorem dX8_liesAt_69 : decode cX8_liesAt 69 = .ok (.goto 4, 3) := by decide +kernel
theorem dX8_liesAt_72 : decode cX8_liesAt 72 = .ok (.iconst 0, 1) := by decide +kernel
theorem dX8_liesAt_73 : decode cX8_liesAt 73 = .ok (.istore 5, 2) := by decide +kernel
theorem dX8_liesAt_75 : decode cX8_liesAt 75 = .ok (.iinc 6 1, 3) := by decide +kernel
theorem dX8_liesAt_78 : decode cX8_liesAt 78 = .ok (.goto (-42), 3) := by decide +kernel
theorem dX8_liesAt_81 : decode cX8_liesAt 81 = .ok (.iload 5, 2) := by decide +kernel
theorem dX8_liesAt_83 : decode cX8_liesAt 83 = .ok (.ireturn, 1) := by decide +kernel
theorem dX8_firstPlace_0 : decode cX8_firstPlace 0 = .ok (.iconst 0, 1) := by decide +kernel
theorem dX8_firstPlace_1 : decode cX8_firstPlace 1 = .ok (.istore_n 3, 1) := by decide +kernel
theorem dX8_firstPlace_2 : decode cX8_firstPlace 2 = .ok (.iload_n 3, 1) := by decide +kernel
theorem dX8_firstPlace_3 : decode cX8_firstPlace 3 = .ok (.aload_n 0, 1) := by decide +kernel
theorem dX8_firstPlace_4 : decode cX8_firstPlace 4 = .ok (.getfield 146, 3) := by decide +kernel
theorem dX8_firstPlace_7 : decode cX8_firstPlace 7 = .ok (.if_icmp .ge 21, 3) := by decide +kernel
theorem dX8_firstPlace_10 : decode cX8_firstPlace 10 = .ok (.aload_n 0, 1) := by decide +kernel
theorem dX8_firstPlace_11 : decode cX8_firstPlace 11 = .ok (.iload_n 1, 1) := by decide +kernel
theorem dX8_firstPlace_12 : decode cX8_firstPlace 12 = .ok (.iload_n 2, 1) := by decide +kernel
theorem dX8_firstPlace_13 : decode cX8_firstPlace 13 = .ok (.iload_n 3, 1) := by decide +kernel
theorem dX8_firstPlace_14 : decode cX8_firstPlace 14 = .ok (.invokevirtual 149, 3) := by decide +kernel
theorem dX8_firstPlace_17 : decode cX8_firstPlace 17 = .ok (.ifCond .eq 5, 3) := by decide +kernel
theorem dX8_firstPlace_20 : decode cX8_firstPlace 20 = .ok (.iload_n 3, 1) := by decide +kernel
theorem dX8_firstPlace_21 : decode cX8_firstPlace 21 = .ok (.ireturn, 1) := by decide +kernel
theorem dX8_firstPlace_22 : decode cX8_firstPlace 22 = .ok (.iinc 3 1, 3) := by decide +kernel
theorem dX8_firstPlace_25 : decode cX8_firstPlace 25 = .ok (.goto (-23), 3) := by decide +kernel
theorem dX8_firstPlace_28 : decode cX8_firstPlace 28 = .ok (.bipush (-9), 2) := by decide +kernel
theorem dX8_firstPlace_30 : decode cX8_firstPlace 30 = .ok (.ireturn, 1) := by decide +kernel
theorem dX8_coverOf_0 : decode cX8_coverOf 0 = .ok (.iconst 0, 1) := by decide +kernel
theorem dX8_coverOf_1 : decode cX8_coverOf 1 = .ok (.istore_n 2, 1) := by decide +kernel
theorem dX8_coverOf_2 : decode cX8_coverOf 2 = .ok (.iconst 0, 1) := by decide +kernel
theorem dX8_coverOf_3 : decode cX8_coverOf 3 = .ok (.istore_n 3, 1) := by decide +kernel
theorem dX8_coverOf_4 : decode cX8_coverOf 4 = .ok (.iload_n 3, 1) := by decide +kernel
theorem dX8_coverOf_5 : decode cX8_coverOf 5 = .ok (.aload_n 0, 1) := by decide +kernel
theorem dX8_coverOf_6 : decode cX8_coverOf 6 = .ok (.getfield 89, 3) := by decide +kernel
theorem dX8_coverOf_9 : decode cX8_coverOf 9 = .ok (.if_icmp .ge 68, 3) := by decide +kernel
theorem dX8_coverOf_12 : decode cX8_coverOf 12 = .ok (.iconst 0, 1) := by decide +kernel
theorem dX8_coverOf_13 : decode cX8_coverOf 13 = .ok (.istore 4, 2) := by decide +kernel
theorem dX8_coverOf_15 : decode cX8_coverOf 15 = .ok (.iload 4, 2) := by decide +kernel
theorem dX8_coverOf_17 : decode cX8_coverOf 17 = .ok (.aload_n 0, 1) := by decide +kernel
theorem dX8_coverOf_18 : decode cX8_coverOf 18 = .ok (.getfield 146, 3) := by decide +kernel
theorem dX8_coverOf_21 : decode cX8_coverOf 21 = .ok (.if_icmp .ge 50, 3) := by decide +kernel
theorem dX8_coverOf_24 : decode cX8_coverOf 24 = .ok (.iload_n 1, 1) := by decide +kernel
theorem dX8_coverOf_25 : decode cX8_coverOf 25 = .ok (.iload_n 3, 1) := by decide +kernel
theorem dX8_coverOf_26 : decode cX8_coverOf 26 = .ok (.invokestatic 106, 3) := by decide +kernel
theorem dX8_coverOf_29 : decode cX8_coverOf 29 = .ok (.ifCond .eq 42, 3) := by decide +kernel
theorem dX8_coverOf_32 : decode cX8_coverOf 32 = .ok (.iload_n 2, 1) := by decide +kernel
theorem dX8_coverOf_33 : decode cX8_coverOf 33 = .ok (.aload_n 0, 1) := by decide +kernel
theorem dX8_coverOf_34 : decode cX8_coverOf 34 = .ok (.iconst 0, 1) := by decide +kernel
theorem dX8_coverOf_35 : decode cX8_coverOf 35 = .ok (.iload_n 3, 1) := by decide +kernel
theorem dX8_coverOf_36 : decode cX8_coverOf 36 = .ok (.iload 4, 2) := by decide +kernel
theorem dX8_coverOf_38 : decode cX8_coverOf 38 = .ok (.invokevirtual 149, 3) := by decide +kernel
theorem dX8_coverOf_41 : decode cX8_coverOf 41 = .ok (.ifCond .eq 21, 3) := by decide +kernel
theorem dX8_coverOf_44 : decode cX8_coverOf 44 = .ok (.iconst 1, 1) := by decide +kernel
theorem dX8_coverOf_45 : decode cX8_coverOf 45 = .ok (.aload_n 0, 1) := by decide +kernel
theorem dX8_coverOf_46 : decode cX8_coverOf 46 = .ok (.getfield 13, 3) := by decide +kernel
theorem dX8_coverOf_49 : decode cX8_coverOf 49 = .ok (.iconst 4, 1) := by decide +kernel
theorem dX8_coverOf_50 : decode cX8_coverOf 50 = .ok (.iload_n 3, 1) := by decide +kernel
theorem dX8_coverOf_51 : decode cX8_coverOf 51 = .ok (.iadd, 1) := by decide +kernel
theorem dX8_coverOf_52 : decode cX8_coverOf 52 = .ok (.iaload, 1) := by decide +kernel
theorem dX8_coverOf_53 : decode cX8_coverOf 53 = .ok (.ishl, 1) := by decide +kernel
theorem dX8_coverOf_54 : decode cX8_coverOf 54 = .ok (.iconst 1, 1) := by decide +kernel
theorem dX8_coverOf_55 : decode cX8_coverOf 55 = .ok (.isub, 1) := by decide +kernel
theorem dX8_coverOf_56 : decode cX8_coverOf 56 = .ok (.iload 4, 2) := by decide +kernel
theorem dX8_coverOf_58 : decode cX8_coverOf 58 = .ok (.ishl, 1) := by decide +kernel
theorem dX8_coverOf_59 : decode cX8_coverOf 59 = .ok (.goto 4, 3) := by decide +kernel
theorem dX8_coverOf_62 : decode cX8_coverOf 62 = .ok (.iconst 0, 1) := by decide +kernel
theorem dX8_coverOf_63 : decode cX8_coverOf 63 = .ok (.ior, 1) := by decide +kernel
theorem dX8_coverOf_64 : decode cX8_coverOf 64 = .ok (.istore_n 2, 1) := by decide +kernel
theorem dX8_coverOf_65 : decode cX8_coverOf 65 = .ok (.iinc 4 1, 3) := by decide +kernel
theorem dX8_coverOf_68 : decode cX8_coverOf 68 = .ok (.goto (-53), 3) := by decide +kernel
theorem dX8_coverOf_71 : decode cX8_coverOf 71 = .ok (.iinc 3 1, 3) := by decide +kernel
theorem dX8_coverOf_74 : decode cX8_coverOf 74 = .ok (.goto (-70), 3) := by decide +kernel
theorem dX8_coverOf_77 : decode cX8_coverOf 77 = .ok (.iload_n 2, 1) := by decide +kernel
theorem dX8_coverOf_78 : decode cX8_coverOf 78 = .ok (.ireturn, 1) := by decide +kernel
theorem dX8_strand_0 : decode cX8_strand 0 = .ok (.aload_n 0, 1) := by decide +kernel
theorem dX8_strand_1 : decode cX8_strand 1 = .ok (.iconst 0, 1) := by decide +kernel
theorem dX8_strand_2 : decode cX8_strand 2 = .ok (.iload_n 1, 1) := by decide +kernel
theorem dX8_strand_3 : decode cX8_strand 3 = .ok (.invokevirtual 99, 3) := by decide +kernel
theorem dX8_strand_6 : decode cX8_strand 6 = .ok (.ifCond .ne 5, 3) := by decide +kernel
theorem dX8_strand_9 : decode cX8_strand 9 = .ok (.iconst (-1), 1) := by decide +kernel
theorem dX8_strand_10 : decode cX8_strand 10 = .ok (.ireturn, 1) := by decide +kernel
theorem dX8_strand_11 : decode cX8_strand 11 = .ok (.iload_n 2, 1) := by decide +kernel
theorem dX8_strand_12 : decode cX8_strand 12 = .ok (.tableswitch 62 0 3 #[32, 39, 46, 55], 32) := by decide +kernel
theorem dX8_strand_44 : decode cX8_strand 44 = .ok (.aload_n 0, 1) := by decide +kernel
theorem dX8_strand_45 : decode cX8_strand 45 = .ok (.getfield 13, 3) := by decide +kernel
theorem dX8_strand_48 : decode cX8_strand 48 = .ok (.iload_n 1, 1) := by decide +kernel
theorem dX8_strand_49 : decode cX8_strand 49 = .ok (.iaload, 1) := by decide +kernel
theorem dX8_strand_50 : decode cX8_strand 50 = .ok (.ireturn, 1) := by decide +kernel
theorem dX8_strand_51 : decode cX8_strand 51 = .ok (.aload_n 0, 1) := by decide +kernel
theorem dX8_strand_52 : decode cX8_strand 52 = .ok (.getfield 7, 3) := by decide +kernel
theorem dX8_strand_55 : decode cX8_strand 55 = .ok (.iload_n 1, 1) := by decide +kernel
theorem dX8_strand_56 : decode cX8_strand 56 = .ok (.iaload, 1) := by decide +kernel
theorem dX8_strand_57 : decode cX8_strand 57 = .ok (.ireturn, 1) := by decide +kernel
theorem dX8_strand_58 : decode cX8_strand 58 = .ok (.aload_n 0, 1) := by decide +kernel
theorem dX8_strand_59 : decode cX8_strand 59 = .ok (.getfield 13, 3) := by decide +kernel
theorem dX8_strand_62 : decode cX8_strand 62 = .ok (.iconst 4, 1) := by decide +kernel
theorem dX8_strand_63 : decode cX8_strand 63 = .ok (.iload_n 1, 1) := by decide +kernel
theorem dX8_strand_64 : decode cX8_strand 64 = .ok (.iadd, 1) := by decide +kernel
theorem dX8_strand_65 : decode cX8_strand 65 = .ok (.iaload, 1) := by decide +kernel
theorem dX8_strand_66 : decode cX8_strand 66 = .ok (.ireturn, 1) := by decide +kernel
theorem dX8_strand_67 : decode cX8_strand 67 = .ok (.aload_n 0, 1) := by decide +kernel
theorem dX8_strand_68 : decode cX8_strand 68 = .ok (.iconst 0, 1) := by decide +kernel
theorem dX8_strand_69 : decode cX8_strand 69 = .ok (.iload_n 1, 1) := by decide +kernel
theorem dX8_strand_70 : decode cX8_strand 70 = .ok (.invokevirtual 152, 3) := by decide +kernel
theorem dX8_strand_73 : decode cX8_strand 73 = .ok (.ireturn, 1) := by decide +kernel
theorem dX8_strand_74 : decode cX8_strand 74 = .ok (.bipush (-2), 2) := by decide +kernel
theorem dX8_strand_76 : decode cX8_strand 76 = .ok (.ireturn, 1) := by decide +kernel
theorem dX8_bends_0 : decode cX8_bends 0 = .ok (.aload_n 0, 1) := by decide +kernel
theorem dX8_bends_1 : decode cX8_bends 1 = .ok (.iconst 0, 1) := by decide +kernel
theorem dX8_bends_2 : decode cX8_bends 2 = .ok (.iload_n 1, 1) := by decide +kernel
theorem dX8_bends_3 : decode cX8_bends 3 = .ok (.invokevirtual 99, 3) := by decide +kernel
theorem dX8_bends_6 : decode cX8_bends 6 = .ok (.ifCond .ne 7, 3) := by decide +kernel
theorem dX8_bends_9 : decode cX8_bends 9 = .ok (.ldc2_w 155, 3) := by decide +kernel
theorem dX8_bends_12 : decode cX8_bends 12 = .ok (.lreturn, 1) := by decide +kernel
theorem dX8_bends_13 : decode cX8_bends 13 = .ok (.lconst 0, 1) := by decide +kernel
theorem dX8_bends_14 : decode cX8_bends 14 = .ok (.lstore_n 2, 1) := by decide +kernel
theorem dX8_bends_15 : decode cX8_bends 15 = .ok (.iconst 0, 1) := by decide +kernel
theorem dX8_bends_16 : decode cX8_bends 16 = .ok (.istore 4, 2) := by decide +kernel
theorem dX8_bends_18 : decode cX8_bends 18 = .ok (.iload 4, 2) := by decide +kernel
theorem dX8_bends_20 : decode cX8_bends 20 = .ok (.aload_n 0, 1) := by decide +kernel
theorem dX8_bends_21 : decode cX8_bends 21 = .ok (.getfield 13, 3) := by decide +kernel
theorem dX8_bends_24 : decode cX8_bends 24 = .ok (.iconst 4, 1) := by decide +kernel
theorem dX8_bends_25 : decode cX8_bends 25 = .ok (.iload_n 1, 1) := by decide +kernel
theorem dX8_bends_26 : decode cX8_bends 26 = .ok (.iadd, 1) := by decide +kernel
theorem dX8_bends_27 : decode cX8_bends 27 = .ok (.iaload, 1) := by decide +kernel
theorem dX8_bends_28 : decode cX8_bends 28 = .ok (.if_icmp .ge 25, 3) := by decide +kernel
theorem dX8_bends_31 : decode cX8_bends 31 = .ok (.ldc2_w 136, 3) := by decide +kernel
theorem dX8_bends_34 : decode cX8_bends 34 = .ok (.lload_n 2, 1) := by decide +kernel
theorem dX8_bends_35 : decode cX8_bends 35 = .ok (.lmul, 1) := by decide +kernel
theorem dX8_bends_36 : decode cX8_bends 36 = .ok (.aload_n 0, 1) := by decide +kernel
theorem dX8_bends_37 : decode cX8_bends 37 = .ok (.iconst 0, 1) := by decide +kernel
theorem dX8_bends_38 : decode cX8_bends 38 = .ok (.iload_n 1, 1) := by decide +kernel
theorem dX8_bends_39 : decode cX8_bends 39 = .ok (.iload 4, 2) := by decide +kernel
theorem dX8_bends_41 : decode cX8_bends 41 = .ok (.invokevirtual 122, 3) := by decide +kernel
theorem dX8_bends_44 : decode cX8_bends 44 = .ok (.i2l, 1) := by decide +kernel
theorem dX8_bends_45 : decode cX8_bends 45 = .ok (.ladd, 1) := by decide +kernel
theorem dX8_bends_46 : decode cX8_bends 46 = .ok (.lstore_n 2, 1) := by decide +kernel
theorem dX8_bends_47 : decode cX8_bends 47 = .ok (.iinc 4 1, 3) := by decide +kernel
theorem dX8_bends_50 : decode cX8_bends 50 = .ok (.goto (-32), 3) := by decide +kernel
theorem dX8_bends_53 : decode cX8_bends 53 = .ok (.lload_n 2, 1) := by decide +kernel
theorem dX8_bends_54 : decode cX8_bends 54 = .ok (.lreturn, 1) := by decide +kernel
theorem dX8_keepAct_0 : decode cX8_keepAct 0 = .ok (.iconst 0, 1) := by decide +kernel
theorem dX8_keepAct_1 : decode cX8_keepAct 1 = .ok (.istore_n 1, 1) := by decide +kernel
theorem dX8_keepAct_2 : decode cX8_keepAct 2 = .ok (.iload_n 1, 1) := by decide +kernel
theorem dX8_keepAct_3 : decode cX8_keepAct 3 = .ok (.bipush 57, 2) := by decide +kernel
theorem dX8_keepAct_5 : decode cX8_keepAct 5 = .ok (.if_icmp .ge 29, 3) := by decide +kernel
theorem dX8_keepAct_8 : decode cX8_keepAct 8 = .ok (.aload_n 0, 1) := by decide +kernel
theorem dX8_keepAct_9 : decode cX8_keepAct 9 = .ok (.getfield 31, 3) := by decide +kernel
theorem dX8_keepAct_12 : decode cX8_keepAct 12 = .ok (.bipush 57, 2) := by decide +kernel
theorem dX8_keepAct_14 : decode cX8_keepAct 14 = .ok (.aload_n 0, 1) := by decide +kernel
theorem dX8_keepAct_15 : decode cX8_keepAct 15 = .ok (.getfield 157, 3) := by decide +kernel
theorem dX8_keepAct_18 : decode cX8_keepAct 18 = .ok (.imul, 1) := by decide +kernel
theorem dX8_keepAct_19 : decode cX8_keepAct 19 = .ok (.iload_n 1, 1) := by decide +kernel
theorem dX8_keepAct_20 : decode cX8_keepAct 20 = .ok (.iadd, 1) := by decide +kernel
theorem dX8_keepAct_21 : decode cX8_keepAct 21 = .ok (.aload_n 0, 1) := by decide +kernel
theorem dX8_keepAct_22 : decode cX8_keepAct 22 = .ok (.getfield 13, 3) := by decide +kernel
theorem dX8_keepAct_25 : decode cX8_keepAct 25 = .ok (.iload_n 1, 1) := by decide +kernel
theorem dX8_keepAct_26 : decode cX8_keepAct 26 = .ok (.iaload, 1) := by decide +kernel
theorem dX8_keepAct_27 : decode cX8_keepAct 27 = .ok (.iastore, 1) := by decide +kernel
theorem dX8_keepAct_28 : decode cX8_keepAct 28 = .ok (.iinc 1 1, 3) := by decide +kernel
theorem dX8_keepAct_31 : decode cX8_keepAct 31 = .ok (.goto (-29), 3) := by decide +kernel
theorem dX8_keepAct_34 : decode cX8_keepAct 34 = .ok (.aload_n 0, 1) := by decide +kernel
theorem dX8_keepAct_35 : decode cX8_keepAct 35 = .ok (.aload_n 0, 1) := by decide +kernel
theorem dX8_keepAct_36 : decode cX8_keepAct 36 = .ok (.getfield 157, 3) := by decide +kernel
theorem dX8_keepAct_39 : decode cX8_keepAct 39 = .ok (.iconst 1, 1) := by decide +kernel
theorem dX8_keepAct_40 : decode cX8_keepAct 40 = .ok (.iadd, 1) := by decide +kernel
theorem dX8_keepAct_41 : decode cX8_keepAct 41 = .ok (.bipush 14, 2) := by decide +kernel
theorem dX8_keepAct_43 : decode cX8_keepAct 43 = .ok (.irem, 1) := by decide +kernel
theorem dX8_keepAct_44 : decode cX8_keepAct 44 = .ok (.putfield 157, 3) := by decide +kernel
theorem dX8_keepAct_47 : decode cX8_keepAct 47 = .ok (.aload_n 0, 1) := by decide +kernel
theorem dX8_keepAct_48 : decode cX8_keepAct 48 = .ok (.aload_n 0, 1) := by decide +kernel
theorem dX8_keepAct_49 : decode cX8_keepAct 49 = .ok (.getfield 92, 3) := by decide +kernel
theorem dX8_keepAct_52 : decode cX8_keepAct 52 = .ok (.bipush 14, 2) := by decide +kernel
theorem dX8_keepAct_54 : decode cX8_keepAct 54 = .ok (.if_icmp .ge 12, 3) := by decide +kernel
theorem dX8_keepAct_57 : decode cX8_keepAct 57 = .ok (.aload_n 0, 1) := by decide +kernel
theorem dX8_keepAct_58 : decode cX8_keepAct 58 = .ok (.getfield 92, 3) := by decide +kernel
theorem dX8_keepAct_61 : decode cX8_keepAct 61 = .ok (.iconst 1, 1) := by decide +kernel
theorem dX8_keepAct_62 : decode cX8_keepAct 62 = .ok (.iadd, 1) := by decide +kernel
theorem dX8_keepAct_63 : decode cX8_keepAct 63 = .ok (.goto 5, 3) := by decide +kernel
theorem dX8_keepAct_66 : decode cX8_keepAct 66 = .ok (.bipush 14, 2) := by decide +kernel
theorem dX8_keepAct_68 : decode cX8_keepAct 68 = .ok (.putfield 92, 3) := by decide +kernel
theorem dX8_keepAct_71 : decode cX8_keepAct 71 = .ok (.return_, 1) := by decide +kernel
theorem dX8_winter_0 : decode cX8_winter 0 = .ok (.aload_n 0, 1) := by decide +kernel
theorem dX8_winter_1 : decode cX8_winter 1 = .ok (.invokevirtual 160, 3) := by decide +kernel
theorem dX8_winter_4 : decode cX8_winter 4 = .ok (.aload_n 0, 1) := by decide +kernel
theorem dX8_winter_5 : decode cX8_winter 5 = .ok (.iconst 0, 1) := by decide +kernel
theorem dX8_winter_6 : decode cX8_winter 6 = .ok (.invokevirtual 163, 3) := by decide +kernel
theorem dX8_winter_9 : decode cX8_winter 9 = .ok (.ireturn, 1) := by decide +kernel
theorem dX8_hang_0 : decode cX8_hang 0 = .ok (.aload_n 0, 1) := by decide +kernel
theorem dX8_hang_1 : decode cX8_hang 1 = .ok (.iconst 0, 1) := by decide +kernel
theorem dX8_hang_2 : decode cX8_hang 2 = .ok (.iload_n 1, 1) := by decide +kernel
theorem dX8_hang_3 : decode cX8_hang 3 = .ok (.invokevirtual 99, 3) := by decide +kernel
theorem dX8_hang_6 : decode cX8_hang 6 = .ok (.ifCond .eq 15, 3) := by decide +kernel
theorem dX8_hang_9 : decode cX8_hang 9 = .ok (.iload_n 2, 1) := by decide +kernel
theorem dX8_hang_10 : decode cX8_hang 10 = .ok (.i2l, 1) := by decide +kernel
theorem dX8_hang_11 : decode cX8_hang 11 = .ok (.lconst 0, 1) := by decide +kernel
theorem dX8_hang_12 : decode cX8_hang 12 = .ok (.ldc2_w 166, 3) := by decide +kernel
theorem dX8_hang_15 : decode cX8_hang 15 = .ok (.invokestatic 52, 3) := by decide +kernel
theorem dX8_hang_18 : decode cX8_hang 18 = .ok (.ifCond .ne 5, 3) := by decide +kernel
theorem dX8_hang_21 : decode cX8_hang 21 = .ok (.iconst (-1), 1) := by decide +kernel
theorem dX8_hang_22 : decode cX8_hang 22 = .ok (.ireturn, 1) := by decide +kernel
theorem dX8_hang_23 : decode cX8_hang 23 = .ok (.aload_n 0, 1) := by decide +kernel
theorem dX8_hang_24 : decode cX8_hang 24 = .ok (.getfield 13, 3) := by decide +kernel
theorem dX8_hang_27 : decode cX8_hang 27 = .ok (.iload_n 1, 1) := by decide +kernel
theorem dX8_hang_28 : decode cX8_hang 28 = .ok (.iaload, 1) := by decide +kernel
theorem dX8_hang_29 : decode cX8_hang 29 = .ok (.iload_n 2, 1) := by decide +kernel
theorem dX8_hang_30 : decode cX8_hang 30 = .ok (.if_icmp .ne 6, 3) := by decide +kernel
theorem dX8_hang_33 : decode cX8_hang 33 = .ok (.bipush (-3), 2) := by decide +kernel
theorem dX8_hang_35 : decode cX8_hang 35 = .ok (.ireturn, 1) := by decide +kernel
theorem dX8_hang_36 : decode cX8_hang 36 = .ok (.aload_n 0, 1) := by decide +kernel
theorem dX8_hang_37 : decode cX8_hang 37 = .ok (.invokevirtual 160, 3) := by decide +kernel
theorem dX8_hang_40 : decode cX8_hang 40 = .ok (.aload_n 0, 1) := by decide +kernel
theorem dX8_hang_41 : decode cX8_hang 41 = .ok (.getfield 13, 3) := by decide +kernel
theorem dX8_hang_44 : decode cX8_hang 44 = .ok (.iload_n 1, 1) := by decide +kernel
theorem dX8_hang_45 : decode cX8_hang 45 = .ok (.iload_n 2, 1) := by decide +kernel
theorem dX8_hang_46 : decode cX8_hang 46 = .ok (.iastore, 1) := by decide +kernel
theorem dX8_hang_47 : decode cX8_hang 47 = .ok (.aload_n 0, 1) := by decide +kernel
theorem dX8_hang_48 : decode cX8_hang 48 = .ok (.iconst 0, 1) := by decide +kernel
theorem dX8_hang_49 : decode cX8_hang 49 = .ok (.iload_n 2, 1) := by decide +kernel
theorem dX8_hang_50 : decode cX8_hang 50 = .ok (.invokevirtual 103, 3) := by decide +kernel
theorem dX8_hang_53 : decode cX8_hang 53 = .ok (.invokestatic 112, 3) := by decide +kernel
theorem dX8_hang_56 : decode cX8_hang 56 = .ok (.ireturn, 1) := by decide +kernel
theorem dX8_turn_0 : decode cX8_turn 0 = .ok (.aload_n 0, 1) := by decide +kernel
theorem dX8_turn_1 : decode cX8_turn 1 = .ok (.iconst 0, 1) := by decide +kernel
theorem dX8_turn_2 : decode cX8_turn 2 = .ok (.iload_n 1, 1) := by decide +kernel
theorem dX8_turn_3 : decode cX8_turn 3 = .ok (.invokevirtual 99, 3) := by decide +kernel
theorem dX8_turn_6 : decode cX8_turn 6 = .ok (.ifCond .ne 5, 3) := by decide +kernel
theorem dX8_turn_9 : decode cX8_turn 9 = .ok (.iconst (-1), 1) := by decide +kernel
theorem dX8_turn_10 : decode cX8_turn 10 = .ok (.ireturn, 1) := by decide +kernel
theorem dX8_turn_11 : decode cX8_turn 11 = .ok (.aload_n 0, 1) := by decide +kernel
theorem dX8_turn_12 : decode cX8_turn 12 = .ok (.invokevirtual 160, 3) := by decide +kernel
theorem dX8_turn_15 : decode cX8_turn 15 = .ok (.aload_n 0, 1) := by decide +kernel
theorem dX8_turn_16 : decode cX8_turn 16 = .ok (.iconst 0, 1) := by decide +kernel
theorem dX8_turn_17 : decode cX8_turn 17 = .ok (.iload_n 1, 1) := by decide +kernel
theorem dX8_turn_18 : decode cX8_turn 18 = .ok (.invokevirtual 168, 3) := by decide +kernel
theorem dX8_turn_21 : decode cX8_turn 21 = .ok (.aload_n 0, 1) := by decide +kernel
theorem dX8_turn_22 : decode cX8_turn 22 = .ok (.iconst 0, 1) := by decide +kernel
theorem dX8_turn_23 : decode cX8_turn 23 = .ok (.iload_n 1, 1) := by decide +kernel
theorem dX8_turn_24 : decode cX8_turn 24 = .ok (.iconst 0, 1) := by decide +kernel
theorem dX8_turn_25 : decode cX8_turn 25 = .ok (.invokevirtual 122, 3) := by decide +kernel
theorem dX8_turn_28 : decode cX8_turn 28 = .ok (.ireturn, 1) := by decide +kernel
theorem dX8_snip_0 : decode cX8_snip 0 = .ok (.aload_n 0, 1) := by decide +kernel
theorem dX8_snip_1 : decode cX8_snip 1 = .ok (.iconst 0, 1) := by decide +kernel
theorem dX8_snip_2 : decode cX8_snip 2 = .ok (.iload_n 1, 1) := by decide +kernel
theorem dX8_snip_3 : decode cX8_snip 3 = .ok (.invokevirtual 99, 3) := by decide +kernel
theorem dX8_snip_6 : decode cX8_snip 6 = .ok (.ifCond .ne 5, 3) := by decide +kernel
theorem dX8_snip_9 : decode cX8_snip 9 = .ok (.iconst (-1), 1) := by decide +kernel
theorem dX8_snip_10 : decode cX8_snip 10 = .ok (.ireturn, 1) := by decide +kernel
theorem dX8_snip_11 : decode cX8_snip 11 = .ok (.aload_n 0, 1) := by decide +kernel
theorem dX8_snip_12 : decode cX8_snip 12 = .ok (.getfield 13, 3) := by decide +kernel
theorem dX8_snip_15 : decode cX8_snip 15 = .ok (.iconst 4, 1) := by decide +kernel
theorem dX8_snip_16 : decode cX8_snip 16 = .ok (.iload_n 1, 1) := by decide +kernel
theorem dX8_snip_17 : decode cX8_snip 17 = .ok (.iadd, 1) := by decide +kernel
theorem dX8_snip_18 : decode cX8_snip 18 = .ok (.iaload, 1) := by decide +kernel
theorem dX8_snip_19 : decode cX8_snip 19 = .ok (.iconst 1, 1) := by decide +kernel
theorem dX8_snip_20 : decode cX8_snip 20 = .ok (.if_icmp .ne 6, 3) := by decide +kernel
theorem dX8_snip_23 : decode cX8_snip 23 = .ok (.bipush (-3), 2) := by decide +kernel
theorem dX8_snip_25 : decode cX8_snip 25 = .ok (.ireturn, 1) := by decide +kernel
theorem dX8_snip_26 : decode cX8_snip 26 = .ok (.aload_n 0, 1) := by decide +kernel
theorem dX8_snip_27 : decode cX8_snip 27 = .ok (.invokevirtual 160, 3) := by decide +kernel
theorem dX8_snip_30 : decode cX8_snip 30 = .ok (.aload_n 0, 1) := by decide +kernel
theorem dX8_snip_31 : decode cX8_snip 31 = .ok (.iconst 0, 1) := by decide +kernel
theorem dX8_snip_32 : decode cX8_snip 32 = .ok (.iload_n 1, 1) := by decide +kernel
theorem dX8_snip_33 : decode cX8_snip 33 = .ok (.invokevirtual 95, 3) := by decide +kernel
theorem dX8_snip_36 : decode cX8_snip 36 = .ok (.aload_n 0, 1) := by decide +kernel
theorem dX8_snip_37 : decode cX8_snip 37 = .ok (.iconst 0, 1) := by decide +kernel
theorem dX8_snip_38 : decode cX8_snip 38 = .ok (.iload_n 1, 1) := by decide +kernel
theorem dX8_snip_39 : decode cX8_snip 39 = .ok (.aload_n 0, 1) := by decide +kernel
theorem dX8_snip_40 : decode cX8_snip 40 = .ok (.getfield 13, 3) := by decide +kernel
theorem dX8_snip_43 : decode cX8_snip 43 = .ok (.iconst 4, 1) := by decide +kernel
theorem dX8_snip_44 : decode cX8_snip 44 = .ok (.iload_n 1, 1) := by decide +kernel
theorem dX8_snip_45 : decode cX8_snip 45 = .ok (.iadd, 1) := by decide +kernel
theorem dX8_snip_46 : decode cX8_snip 46 = .ok (.iaload, 1) := by decide +kernel
theorem dX8_snip_47 : decode cX8_snip 47 = .ok (.invokevirtual 122, 3) := by decide +kernel
theorem dX8_snip_50 : decode cX8_snip 50 = .ok (.ireturn, 1) := by decide +kernel
theorem dX8_join_0 : decode cX8_join 0 = .ok (.aload_n 0, 1) := by decide +kernel
theorem dX8_join_1 : decode cX8_join 1 = .ok (.iconst 0, 1) := by decide +kernel
theorem dX8_join_2 : decode cX8_join 2 = .ok (.iload_n 1, 1) := by decide +kernel
theorem dX8_join_3 : decode cX8_join 3 = .ok (.invokevirtual 99, 3) := by decide +kernel
theorem dX8_join_6 : decode cX8_join 6 = .ok (.ifCond .eq 12, 3) := by decide +kernel
theorem dX8_join_9 : decode cX8_join 9 = .ok (.aload_n 0, 1) := by decide +kernel
theorem dX8_join_10 : decode cX8_join 10 = .ok (.iconst 0, 1) := by decide +kernel
theorem dX8_join_11 : decode cX8_join 11 = .ok (.iload_n 2, 1) := by decide +kernel
theorem dX8_join_12 : decode cX8_join 12 = .ok (.invokevirtual 99, 3) := by decide +kernel
theorem dX8_join_15 : decode cX8_join 15 = .ok (.ifCond .ne 5, 3) := by decide +kernel
theorem dX8_join_18 : decode cX8_join 18 = .ok (.iconst (-1), 1) := by decide +kernel
theorem dX8_join_19 : decode cX8_join 19 = .ok (.ireturn, 1) := by decide +kernel
theorem dX8_join_20 : decode cX8_join 20 = .ok (.iload_n 1, 1) := by decide +kernel
theorem dX8_join_21 : decode cX8_join 21 = .ok (.iload_n 2, 1) := by decide +kernel
theorem dX8_join_22 : decode cX8_join 22 = .ok (.if_icmp .ne 6, 3) := by decide +kernel
theorem dX8_join_25 : decode cX8_join 25 = .ok (.bipush (-2), 2) := by decide +kernel
theorem dX8_join_27 : decode cX8_join 27 = .ok (.ireturn, 1) := by decide +kernel
theorem dX8_join_28 : decode cX8_join 28 = .ok (.aload_n 0, 1) := by decide +kernel
theorem dX8_join_29 : decode cX8_join 29 = .ok (.iconst 0, 1) := by decide +kernel
theorem dX8_join_30 : decode cX8_join 30 = .ok (.iload_n 1, 1) := by decide +kernel
theorem dX8_join_31 : decode cX8_join 31 = .ok (.iload_n 2, 1) := by decide +kernel
theorem dX8_join_32 : decode cX8_join 32 = .ok (.invokevirtual 129, 3) := by decide +kernel
theorem dX8_join_35 : decode cX8_join 35 = .ok (.ifCond .ne 6, 3) := by decide +kernel
theorem dX8_join_38 : decode cX8_join 38 = .ok (.bipush (-3), 2) := by decide +kernel
theorem dX8_join_40 : decode cX8_join 40 = .ok (.ireturn, 1) := by decide +kernel
theorem dX8_join_41 : decode cX8_join 41 = .ok (.aload_n 0, 1) := by decide +kernel
theorem dX8_join_42 : decode cX8_join 42 = .ok (.iconst 0, 1) := by decide +kernel
theorem dX8_join_43 : decode cX8_join 43 = .ok (.iload_n 1, 1) := by decide +kernel
theorem dX8_join_44 : decode cX8_join 44 = .ok (.iload_n 2, 1) := by decide +kernel
theorem dX8_join_45 : decode cX8_join 45 = .ok (.invokevirtual 171, 3) := by decide +kernel
theorem dX8_join_48 : decode cX8_join 48 = .ok (.ifCond .ne 6, 3) := by decide +kernel
theorem dX8_join_51 : decode cX8_join 51 = .ok (.bipush (-4), 2) := by decide +kernel
theorem dX8_join_53 : decode cX8_join 53 = .ok (.ireturn, 1) := by decide +kernel
theorem dX8_join_54 : decode cX8_join 54 = .ok (.aload_n 0, 1) := by decide +kernel
theorem dX8_join_55 : decode cX8_join 55 = .ok (.invokevirtual 160, 3) := by decide +kernel
theorem dX8_join_58 : decode cX8_join 58 = .ok (.aload_n 0, 1) := by decide +kernel
theorem dX8_join_59 : decode cX8_join 59 = .ok (.iconst 0, 1) := by decide +kernel
theorem dX8_join_60 : decode cX8_join 60 = .ok (.iload_n 1, 1) := by decide +kernel
theorem dX8_join_61 : decode cX8_join 61 = .ok (.iload_n 2, 1) := by decide +kernel
theorem dX8_join_62 : decode cX8_join 62 = .ok (.invokevirtual 174, 3) := by decide +kernel
theorem dX8_join_65 : decode cX8_join 65 = .ok (.aload_n 0, 1) := by decide +kernel
theorem dX8_join_66 : decode cX8_join 66 = .ok (.getfield 13, 3) := by decide +kernel
theorem dX8_join_69 : decode cX8_join 69 = .ok (.iconst 4, 1) := by decide +kernel
theorem dX8_join_70 : decode cX8_join 70 = .ok (.iload_n 1, 1) := by decide +kernel
theorem dX8_join_71 : decode cX8_join 71 = .ok (.iadd, 1) := by decide +kernel
theorem dX8_join_72 : decode cX8_join 72 = .ok (.iaload, 1) := by decide +kernel
theorem dX8_join_73 : decode cX8_join 73 = .ok (.ireturn, 1) := by decide +kernel
theorem dX8_undo_0 : decode cX8_undo 0 = .ok (.aload_n 0, 1) := by decide +kernel
theorem dX8_undo_1 : decode cX8_undo 1 = .ok (.getfield 92, 3) := by decide +kernel
theorem dX8_undo_4 : decode cX8_undo 4 = .ok (.ifCond .ne 6, 3) := by decide +kernel
theorem dX8_undo_7 : decode cX8_undo 7 = .ok (.bipush (-3), 2) := by decide +kernel
theorem dX8_undo_9 : decode cX8_undo 9 = .ok (.ireturn, 1) := by decide +kernel
theorem dX8_undo_10 : decode cX8_undo 10 = .ok (.aload_n 0, 1) := by decide +kernel
theorem dX8_undo_11 : decode cX8_undo 11 = .ok (.dup, 1) := by decide +kernel
theorem dX8_undo_12 : decode cX8_undo 12 = .ok (.getfield 92, 3) := by decide +kernel
theorem dX8_undo_15 : decode cX8_undo 15 = .ok (.iconst 1, 1) := by decide +kernel
theorem dX8_undo_16 : decode cX8_undo 16 = .ok (.isub, 1) := by decide +kernel
theorem dX8_undo_17 : decode cX8_undo 17 = .ok (.putfield 92, 3) := by decide +kernel
theorem dX8_undo_20 : decode cX8_undo 20 = .ok (.aload_n 0, 1) := by decide +kernel
theorem dX8_undo_21 : decode cX8_undo 21 = .ok (.aload_n 0, 1) := by decide +kernel
theorem dX8_undo_22 : decode cX8_undo 22 = .ok (.getfield 157, 3) := by decide +kernel
theorem dX8_undo_25 : decode cX8_undo 25 = .ok (.bipush 13, 2) := by decide +kernel
theorem dX8_undo_27 : decode cX8_undo 27 = .ok (.iadd, 1) := by decide +kernel
theorem dX8_undo_28 : decode cX8_undo 28 = .ok (.bipush 14, 2) := by decide +kernel
theorem dX8_undo_30 : decode cX8_undo 30 = .ok (.irem, 1) := by decide +kernel
theorem dX8_undo_31 : decode cX8_undo 31 = .ok (.putfield 157, 3) := by decide +kernel
theorem dX8_undo_34 : decode cX8_undo 34 = .ok (.iconst 0, 1) := by decide +kernel
theorem dX8_undo_35 : decode cX8_undo 35 = .ok (.istore_n 1, 1) := by decide +kernel
theorem dX8_undo_36 : decode cX8_undo 36 = .ok (.iload_n 1, 1) := by decide +kernel
theorem dX8_undo_37 : decode cX8_undo 37 = .ok (.bipush 57, 2) := by decide +kernel
theorem dX8_undo_39 : decode cX8_undo 39 = .ok (.if_icmp .ge 29, 3) := by decide +kernel
theorem dX8_undo_42 : decode cX8_undo 42 = .ok (.aload_n 0, 1) := by decide +kernel
theorem dX8_undo_43 : decode cX8_undo 43 = .ok (.getfield 13, 3) := by decide +kernel
theorem dX8_undo_46 : decode cX8_undo 46 = .ok (.iload_n 1, 1) := by decide +kernel
theorem dX8_undo_47 : decode cX8_undo 47 = .ok (.aload_n 0, 1) := by decide +kernel
theorem dX8_undo_48 : decode cX8_undo 48 = .ok (.getfield 31, 3) := by decide +kernel
theorem dX8_undo_51 : decode cX8_undo 51 = .ok (.bipush 57, 2) := by decide +kernel
theorem dX8_undo_53 : decode cX8_undo 53 = .ok (.aload_n 0, 1) := by decide +kernel
theorem dX8_undo_54 : decode cX8_undo 54 = .ok (.getfield 157, 3) := by decide +kernel
theorem dX8_undo_57 : decode cX8_undo 57 = .ok (.imul, 1) := by decide +kernel
theorem dX8_undo_58 : decode cX8_undo 58 = .ok (.iload_n 1, 1) := by decide +kernel
theorem dX8_undo_59 : decode cX8_undo 59 = .ok (.iadd, 1) := by decide +kernel
theorem dX8_undo_60 : decode cX8_undo 60 = .ok (.iaload, 1) := by decide +kernel
theorem dX8_undo_61 : decode cX8_undo 61 = .ok (.iastore, 1) := by decide +kernel
theorem dX8_undo_62 : decode cX8_undo 62 = .ok (.iinc 1 1, 3) := by decide +kernel
theorem dX8_undo_65 : decode cX8_undo 65 = .ok (.goto (-29), 3) := by decide +kernel
theorem dX8_undo_68 : decode cX8_undo 68 = .ok (.aload_n 0, 1) := by decide +kernel
theorem dX8_undo_69 : decode cX8_undo 69 = .ok (.getfield 92, 3) := by decide +kernel
theorem dX8_undo_72 : decode cX8_undo 72 = .ok (.ireturn, 1) := by decide +kernel
theorem dX8_layTrial_0 : decode cX8_layTrial 0 = .ok (.iconst 0, 1) := by decide +kernel
theorem dX8_layTrial_1 : decode cX8_layTrial 1 = .ok (.istore_n 1, 1) := by decide +kernel
theorem dX8_layTrial_2 : decode cX8_layTrial 2 = .ok (.iload_n 1, 1) := by decide +kernel
theorem dX8_layTrial_3 : decode cX8_layTrial 3 = .ok (.bipush 57, 2) := by decide +kernel
theorem dX8_layTrial_5 : decode cX8_layTrial 5 = .ok (.if_icmp .ge 24, 3) := by decide +kernel
theorem dX8_layTrial_8 : decode cX8_layTrial 8 = .ok (.aload_n 0, 1) := by decide +kernel
theorem dX8_layTrial_9 : decode cX8_layTrial 9 = .ok (.getfield 13, 3) := by decide +kernel
theorem dX8_layTrial_12 : decode cX8_layTrial 12 = .ok (.bipush 57, 2) := by decide +kernel
theorem dX8_layTrial_14 : decode cX8_layTrial 14 = .ok (.iload_n 1, 1) := by decide +kernel
theorem dX8_layTrial_15 : decode cX8_layTrial 15 = .ok (.iadd, 1) := by decide +kernel
theorem dX8_layTrial_16 : decode cX8_layTrial 16 = .ok (.aload_n 0, 1) := by decide +kernel
theorem dX8_layTrial_17 : decode cX8_layTrial 17 = .ok (.getfield 13, 3) := by decide +kernel
theorem dX8_layTrial_20 : decode cX8_layTrial 20 = .ok (.iload_n 1, 1) := by decide +kernel
theorem dX8_layTrial_21 : decode cX8_layTrial 21 = .ok (.iaload, 1) := by decide +kernel
theorem dX8_layTrial_22 : decode cX8_layTrial 22 = .ok (.iastore, 1) := by decide +kernel
theorem dX8_layTrial_23 : decode cX8_layTrial 23 = .ok (.iinc 1 1, 3) := by decide +kernel
theorem dX8_layTrial_26 : decode cX8_layTrial 26 = .ok (.goto (-24), 3) := by decide +kernel
theorem dX8_layTrial_29 : decode cX8_layTrial 29 = .ok (.return_, 1) := by decide +kernel
theorem dX8_later_0 : decode cX8_later 0 = .ok (.aload_n 0, 1) := by decide +kernel
theorem dX8_later_1 : decode cX8_later 1 = .ok (.iconst 0, 1) := by decide +kernel
theorem dX8_later_2 : decode cX8_later 2 = .ok (.iload_n 1, 1) := by decide +kernel
theorem dX8_later_3 : decode cX8_later 3 = .ok (.invokevirtual 99, 3) := by decide +kernel
theorem dX8_later_6 : decode cX8_later 6 = .ok (.ifCond .ne 5, 3) := by decide +kernel
theorem dX8_later_9 : decode cX8_later 9 = .ok (.iconst (-1), 1) := by decide +kernel
theorem dX8_later_10 : decode cX8_later 10 = .ok (.ireturn, 1) := by decide +kernel
theorem dX8_later_11 : decode cX8_later 11 = .ok (.iload_n 2, 1) := by decide +kernel
theorem dX8_later_12 : decode cX8_later 12 = .ok (.i2l, 1) := by decide +kernel
theorem dX8_later_13 : decode cX8_later 13 = .ok (.lconst 0, 1) := by decide +kernel
theorem dX8_later_14 : decode cX8_later 14 = .ok (.ldc2_w 178, 3) := by decide +kernel
theorem dX8_later_17 : decode cX8_later 17 = .ok (.invokestatic 52, 3) := by decide +kernel
theorem dX8_later_20 : decode cX8_later 20 = .ok (.ifCond .ne 6, 3) := by decide +kernel
theorem dX8_later_23 : decode cX8_later 23 = .ok (.bipush (-2), 2) := by decide +kernel
theorem dX8_later_25 : decode cX8_later 25 = .ok (.ireturn, 1) := by decide +kernel
theorem dX8_later_26 : decode cX8_later 26 = .ok (.aload_n 0, 1) := by decide +kernel
theorem dX8_later_27 : decode cX8_later 27 = .ok (.invokevirtual 180, 3) := by decide +kernel
theorem dX8_later_30 : decode cX8_later 30 = .ok (.iconst 0, 1) := by decide +kernel
theorem dX8_later_31 : decode cX8_later 31 = .ok (.istore_n 3, 1) := by decide +kernel
theorem dX8_later_32 : decode cX8_later 32 = .ok (.iload_n 3, 1) := by decide +kernel
theorem dX8_later_33 : decode cX8_later 33 = .ok (.iload_n 2, 1) := by decide +kernel
theorem dX8_later_34 : decode cX8_later 34 = .ok (.if_icmp .ge 15, 3) := by decide +kernel
theorem dX8_later_37 : decode cX8_later 37 = .ok (.aload_n 0, 1) := by decide +kernel
theorem dX8_later_38 : decode cX8_later 38 = .ok (.iconst 1, 1) := by decide +kernel
theorem dX8_later_39 : decode cX8_later 39 = .ok (.invokevirtual 163, 3) := by decide +kernel
theorem dX8_later_42 : decode cX8_later 42 = .ok (.pop, 1) := by decide +kernel
theorem dX8_later_43 : decode cX8_later 43 = .ok (.iinc 3 1, 3) := by decide +kernel
theorem dX8_later_46 : decode cX8_later 46 = .ok (.goto (-14), 3) := by decide +kernel
theorem dX8_later_49 : decode cX8_later 49 = .ok (.aload_n 0, 1) := by decide +kernel
theorem dX8_later_50 : decode cX8_later 50 = .ok (.getfield 13, 3) := by decide +kernel
theorem dX8_later_53 : decode cX8_later 53 = .ok (.bipush 61, 2) := by decide +kernel
theorem dX8_later_55 : decode cX8_later 55 = .ok (.iload_n 1, 1) := by decide +kernel
theorem dX8_later_56 : decode cX8_later 56 = .ok (.iadd, 1) := by decide +kernel
theorem dX8_later_57 : decode cX8_later 57 = .ok (.iaload, 1) := by decide +kernel
theorem dX8_later_58 : decode cX8_later 58 = .ok (.ireturn, 1) := by decide +kernel
theorem dX8_lasts_0 : decode cX8_lasts 0 = .ok (.aload_n 0, 1) := by decide +kernel
theorem dX8_lasts_1 : decode cX8_lasts 1 = .ok (.iconst 0, 1) := by decide +kernel
theorem dX8_lasts_2 : decode cX8_lasts 2 = .ok (.iload_n 1, 1) := by decide +kernel
theorem dX8_lasts_3 : decode cX8_lasts 3 = .ok (.invokevirtual 99, 3) := by decide +kernel
theorem dX8_lasts_6 : decode cX8_lasts 6 = .ok (.ifCond .ne 5, 3) := by decide +kernel
theorem dX8_lasts_9 : decode cX8_lasts 9 = .ok (.iconst (-1), 1) := by decide +kernel
theorem dX8_lasts_10 : decode cX8_lasts 10 = .ok (.ireturn, 1) := by decide +kernel
theorem dX8_lasts_11 : decode cX8_lasts 11 = .ok (.aload_n 0, 1) := by decide +kernel
theorem dX8_lasts_12 : decode cX8_lasts 12 = .ok (.invokevirtual 180, 3) := by decide +kernel
theorem dX8_lasts_15 : decode cX8_lasts 15 = .ok (.iconst 1, 1) := by decide +kernel
theorem dX8_lasts_16 : decode cX8_lasts 16 = .ok (.istore_n 2, 1) := by decide +kernel
theorem dX8_lasts_17 : decode cX8_lasts 17 = .ok (.iload_n 2, 1) := by decide +kernel
theorem dX8_lasts_18 : decode cX8_lasts 18 = .ok (.bipush 21, 2) := by decide +kernel
theorem dX8_lasts_20 : decode cX8_lasts 20 = .ok (.if_icmp .ge 26, 3) := by decide +kernel
theorem dX8_lasts_23 : decode cX8_lasts 23 = .ok (.aload_n 0, 1) := by decide +kernel
theorem dX8_lasts_24 : decode cX8_lasts 24 = .ok (.iconst 1, 1) := by decide +kernel
theorem dX8_lasts_25 : decode cX8_lasts 25 = .ok (.invokevirtual 163, 3) := by decide +kernel
theorem dX8_lasts_28 : decode cX8_lasts 28 = .ok (.pop, 1) := by decide +kernel
theorem dX8_lasts_29 : decode cX8_lasts 29 = .ok (.aload_n 0, 1) := by decide +kernel
theorem dX8_lasts_30 : decode cX8_lasts 30 = .ok (.iconst 1, 1) := by decide +kernel
theorem dX8_lasts_31 : decode cX8_lasts 31 = .ok (.iload_n 1, 1) := by decide +kernel
theorem dX8_lasts_32 : decode cX8_lasts 32 = .ok (.invokevirtual 99, 3) := by decide +kernel
theorem dX8_lasts_35 : decode cX8_lasts 35 = .ok (.ifCond .ne 5, 3) := by decide +kernel
theorem dX8_lasts_38 : decode cX8_lasts 38 = .ok (.iload_n 2, 1) := by decide +kernel
theorem dX8_lasts_39 : decode cX8_lasts 39 = .ok (.ireturn, 1) := by decide +kernel
theorem dX8_lasts_40 : decode cX8_lasts 40 = .ok (.iinc 2 1, 3) := by decide +kernel
theorem dX8_lasts_43 : decode cX8_lasts 43 = .ok (.goto (-26), 3) := by decide +kernel
theorem dX8_lasts_46 : decode cX8_lasts 46 = .ok (.bipush (-9), 2) := by decide +kernel
theorem dX8_lasts_48 : decode cX8_lasts 48 = .ok (.ireturn, 1) := by decide +kernel
theorem dX8_overlap_0 : decode cX8_overlap 0 = .ok (.aload_n 0, 1) := by decide +kernel
theorem dX8_overlap_1 : decode cX8_overlap 1 = .ok (.iconst 0, 1) := by decide +kernel
theorem dX8_overlap_2 : decode cX8_overlap 2 = .ok (.iload_n 1, 1) := by decide +kernel
theorem dX8_overlap_3 : decode cX8_overlap 3 = .ok (.invokevirtual 99, 3) := by decide +kernel
theorem dX8_overlap_6 : decode cX8_overlap 6 = .ok (.ifCond .eq 12, 3) := by decide +kernel
theorem dX8_overlap_9 : decode cX8_overlap 9 = .ok (.aload_n 0, 1) := by decide +kernel
theorem dX8_overlap_10 : decode cX8_overlap 10 = .ok (.iconst 0, 1) := by decide +kernel
theorem dX8_overlap_11 : decode cX8_overlap 11 = .ok (.iload_n 2, 1) := by decide +kernel
theorem dX8_overlap_12 : decode cX8_overlap 12 = .ok (.invokevirtual 99, 3) := by decide +kernel
theorem dX8_overlap_15 : decode cX8_overlap 15 = .ok (.ifCond .ne 5, 3) := by decide +kernel
theorem dX8_overlap_18 : decode cX8_overlap 18 = .ok (.iconst (-1), 1) := by decide +kernel
theorem dX8_overlap_19 : decode cX8_overlap 19 = .ok (.ireturn, 1) := by decide +kernel
theorem dX8_overlap_20 : decode cX8_overlap 20 = .ok (.iload_n 1, 1) := by decide +kernel
theorem dX8_overlap_21 : decode cX8_overlap 21 = .ok (.iload_n 2, 1) := by decide +kernel
theorem dX8_overlap_22 : decode cX8_overlap 22 = .ok (.if_icmp .ne 8, 3) := by decide +kernel
theorem dX8_overlap_25 : decode cX8_overlap 25 = .ok (.bipush (-2), 2) := by decide +kernel
theorem dX8_overlap_27 : decode cX8_overlap 27 = .ok (.goto 10, 3) := by decide +kernel
theorem dX8_overlap_30 : decode cX8_overlap 30 = .ok (.aload_n 0, 1) := by decide +kernel
theorem dX8_overlap_31 : decode cX8_overlap 31 = .ok (.iconst 0, 1) := by decide +kernel
theorem dX8_overlap_32 : decode cX8_overlap 32 = .ok (.iload_n 1, 1) := by decide +kernel
theorem dX8_overlap_33 : decode cX8_overlap 33 = .ok (.iload_n 2, 1) := by decide +kernel
theorem dX8_overlap_34 : decode cX8_overlap 34 = .ok (.invokevirtual 126, 3) := by decide +kernel
theorem dX8_overlap_37 : decode cX8_overlap 37 = .ok (.ireturn, 1) := by decide +kernel
theorem dX8_flowOn_0 : decode cX8_flowOn 0 = .ok (.aload_n 0, 1) := by decide +kernel
theorem dX8_flowOn_1 : decode cX8_flowOn 1 = .ok (.getfield 13, 3) := by decide +kernel
theorem dX8_flowOn_4 : decode cX8_flowOn 4 = .ok (.iconst 4, 1) := by decide +kernel
theorem dX8_flowOn_5 : decode cX8_flowOn 5 = .ok (.iload_n 1, 1) := by decide +kernel
theorem dX8_flowOn_6 : decode cX8_flowOn 6 = .ok (.iadd, 1) := by decide +kernel
theorem dX8_flowOn_7 : decode cX8_flowOn 7 = .ok (.iaload, 1) := by decide +kernel
theorem dX8_flowOn_8 : decode cX8_flowOn 8 = .ok (.istore_n 2, 1) := by decide +kernel
theorem dX8_flowOn_9 : decode cX8_flowOn 9 = .ok (.aload_n 0, 1) := by decide +kernel
theorem dX8_flowOn_10 : decode cX8_flowOn 10 = .ok (.getfield 183, 3) := by decide +kernel
theorem dX8_flowOn_13 : decode cX8_flowOn 13 = .ok (.iload_n 2, 1) := by decide +kernel
theorem dX8_flowOn_14 : decode cX8_flowOn 14 = .ok (.if_icmp .ge 10, 3) := by decide +kernel
theorem dX8_flowOn_17 : decode cX8_flowOn 17 = .ok (.aload_n 0, 1) := by decide +kernel
theorem dX8_flowOn_18 : decode cX8_flowOn 18 = .ok (.getfield 183, 3) := by decide +kernel
