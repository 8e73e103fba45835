theorem dX6_floodFrom_15 : decode cX6_floodFrom 15 = .ok (.aload_n 0, 1) := by decide +kernel
theorem dX6_floodFrom_16 : decode cX6_floodFrom 16 = .ok (.getfield 11, 3) := by decide +kernel
theorem dX6_floodFrom_19 : decode cX6_floodFrom 19 = .ok (.iload_n 2, 1) := by decide +kernel
theorem dX6_floodFrom_20 : decode cX6_floodFrom 20 = .ok (.aaload, 1) := by decide +kernel
theorem dX6_floodFrom_21 : decode cX6_floodFrom 21 = .ok (.getfield 29, 3) := by decide +kernel
theorem dX6_floodFrom_24 : decode cX6_floodFrom 24 = .ok (.aload_n 0, 1) := by decide +kernel
theorem dX6_floodFrom_25 : decode cX6_floodFrom 25 = .ok (.getfield 11, 3) := by decide +kernel
theorem dX6_floodFrom_28 : decode cX6_floodFrom 28 = .ok (.iload_n 1, 1) := by decide +kernel
theorem dX6_floodFrom_29 : decode cX6_floodFrom 29 = .ok (.aaload, 1) := by decide +kernel
theorem dX6_floodFrom_30 : decode cX6_floodFrom 30 = .ok (.getfield 29, 3) := by decide +kernel
theorem dX6_floodFrom_33 : decode cX6_floodFrom 33 = .ok (.if_icmp .ne 15, 3) := by decide +kernel
theorem dX6_floodFrom_36 : decode cX6_floodFrom 36 = .ok (.aload_n 0, 1) := by decide +kernel
theorem dX6_floodFrom_37 : decode cX6_floodFrom 37 = .ok (.getfield 11, 3) := by decide +kernel
theorem dX6_floodFrom_40 : decode cX6_floodFrom 40 = .ok (.iload_n 2, 1) := by decide +kernel
theorem dX6_floodFrom_41 : decode cX6_floodFrom 41 = .ok (.aaload, 1) := by decide +kernel
theorem dX6_floodFrom_42 : decode cX6_floodFrom 42 = .ok (.getfield 35, 3) := by decide +kernel
theorem dX6_floodFrom_45 : decode cX6_floodFrom 45 = .ok (.invokevirtual 83, 3) := by decide +kernel
theorem dX6_floodFrom_48 : decode cX6_floodFrom 48 = .ok (.iinc 2 1, 3) := by decide +kernel
theorem dX6_floodFrom_51 : decode cX6_floodFrom 51 = .ok (.goto (-49), 3) := by decide +kernel
theorem dX6_floodFrom_54 : decode cX6_floodFrom 54 = .ok (.return_, 1) := by decide +kernel
theorem dX6_hangIn_0 : decode cX6_hangIn 0 = .ok (.aload_n 0, 1) := by decide +kernel
theorem dX6_hangIn_1 : decode cX6_hangIn 1 = .ok (.iload_n 1, 1) := by decide +kernel
theorem dX6_hangIn_2 : decode cX6_hangIn 2 = .ok (.invokevirtual 51, 3) := by decide +kernel
theorem dX6_hangIn_5 : decode cX6_hangIn 5 = .ok (.ifCond .eq 12, 3) := by decide +kernel
theorem dX6_hangIn_8 : decode cX6_hangIn 8 = .ok (.iload_n 2, 1) := by decide +kernel
theorem dX6_hangIn_9 : decode cX6_hangIn 9 = .ok (.ifCond .lt 8, 3) := by decide +kernel
theorem dX6_hangIn_12 : decode cX6_hangIn 12 = .ok (.iload_n 2, 1) := by decide +kernel
theorem dX6_hangIn_13 : decode cX6_hangIn 13 = .ok (.iconst 4, 1) := by decide +kernel
theorem dX6_hangIn_14 : decode cX6_hangIn 14 = .ok (.if_icmp .lt 5, 3) := by decide +kernel
theorem dX6_hangIn_17 : decode cX6_hangIn 17 = .ok (.iconst (-1), 1) := by decide +kernel
theorem dX6_hangIn_18 : decode cX6_hangIn 18 = .ok (.ireturn, 1) := by decide +kernel
theorem dX6_hangIn_19 : decode cX6_hangIn 19 = .ok (.aload_n 0, 1) := by decide +kernel
theorem dX6_hangIn_20 : decode cX6_hangIn 20 = .ok (.getfield 11, 3) := by decide +kernel
theorem dX6_hangIn_23 : decode cX6_hangIn 23 = .ok (.iload_n 1, 1) := by decide +kernel
theorem dX6_hangIn_24 : decode cX6_hangIn 24 = .ok (.aaload, 1) := by decide +kernel
theorem dX6_hangIn_25 : decode cX6_hangIn 25 = .ok (.getfield 29, 3) := by decide +kernel
theorem dX6_hangIn_28 : decode cX6_hangIn 28 = .ok (.iload_n 2, 1) := by decide +kernel
theorem dX6_hangIn_29 : decode cX6_hangIn 29 = .ok (.if_icmp .ne 6, 3) := by decide +kernel
theorem dX6_hangIn_32 : decode cX6_hangIn 32 = .ok (.bipush (-3), 2) := by decide +kernel
theorem dX6_hangIn_34 : decode cX6_hangIn 34 = .ok (.ireturn, 1) := by decide +kernel
theorem dX6_hangIn_35 : decode cX6_hangIn 35 = .ok (.aload_n 0, 1) := by decide +kernel
theorem dX6_hangIn_36 : decode cX6_hangIn 36 = .ok (.getfield 11, 3) := by decide +kernel
theorem dX6_hangIn_39 : decode cX6_hangIn 39 = .ok (.iload_n 1, 1) := by decide +kernel
theorem dX6_hangIn_40 : decode cX6_hangIn 40 = .ok (.aaload, 1) := by decide +kernel
theorem dX6_hangIn_41 : decode cX6_hangIn 41 = .ok (.iload_n 2, 1) := by decide +kernel
theorem dX6_hangIn_42 : decode cX6_hangIn 42 = .ok (.putfield 29, 3) := by decide +kernel
theorem dX6_hangIn_45 : decode cX6_hangIn 45 = .ok (.aload_n 0, 1) := by decide +kernel
theorem dX6_hangIn_46 : decode cX6_hangIn 46 = .ok (.iload_n 2, 1) := by decide +kernel
theorem dX6_hangIn_47 : decode cX6_hangIn 47 = .ok (.invokevirtual 77, 3) := by decide +kernel
theorem dX6_hangIn_50 : decode cX6_hangIn 50 = .ok (.ireturn, 1) := by decide +kernel
theorem dX6_turnAbout_0 : decode cX6_turnAbout 0 = .ok (.aload_n 0, 1) := by decide +kernel
theorem dX6_turnAbout_1 : decode cX6_turnAbout 1 = .ok (.iload_n 1, 1) := by decide +kernel
theorem dX6_turnAbout_2 : decode cX6_turnAbout 2 = .ok (.invokevirtual 51, 3) := by decide +kernel
theorem dX6_turnAbout_5 : decode cX6_turnAbout 5 = .ok (.ifCond .ne 5, 3) := by decide +kernel
theorem dX6_turnAbout_8 : decode cX6_turnAbout 8 = .ok (.iconst (-1), 1) := by decide +kernel
theorem dX6_turnAbout_9 : decode cX6_turnAbout 9 = .ok (.ireturn, 1) := by decide +kernel
theorem dX6_turnAbout_10 : decode cX6_turnAbout 10 = .ok (.aload_n 0, 1) := by decide +kernel
theorem dX6_turnAbout_11 : decode cX6_turnAbout 11 = .ok (.getfield 11, 3) := by decide +kernel
theorem dX6_turnAbout_14 : decode cX6_turnAbout 14 = .ok (.iload_n 1, 1) := by decide +kernel
theorem dX6_turnAbout_15 : decode cX6_turnAbout 15 = .ok (.aaload, 1) := by decide +kernel
theorem dX6_turnAbout_16 : decode cX6_turnAbout 16 = .ok (.getfield 35, 3) := by decide +kernel
theorem dX6_turnAbout_19 : decode cX6_turnAbout 19 = .ok (.invokevirtual 86, 3) := by decide +kernel
theorem dX6_turnAbout_22 : decode cX6_turnAbout 22 = .ok (.aload_n 0, 1) := by decide +kernel
theorem dX6_turnAbout_23 : decode cX6_turnAbout 23 = .ok (.getfield 11, 3) := by decide +kernel
theorem dX6_turnAbout_26 : decode cX6_turnAbout 26 = .ok (.iload_n 1, 1) := by decide +kernel
theorem dX6_turnAbout_27 : decode cX6_turnAbout 27 = .ok (.aaload, 1) := by decide +kernel
theorem dX6_turnAbout_28 : decode cX6_turnAbout 28 = .ok (.getfield 35, 3) := by decide +kernel
theorem dX6_turnAbout_31 : decode cX6_turnAbout 31 = .ok (.getfield 89, 3) := by decide +kernel
theorem dX6_turnAbout_34 : decode cX6_turnAbout 34 = .ok (.iconst 0, 1) := by decide +kernel
theorem dX6_turnAbout_35 : decode cX6_turnAbout 35 = .ok (.iaload, 1) := by decide +kernel
theorem dX6_turnAbout_36 : decode cX6_turnAbout 36 = .ok (.ireturn, 1) := by decide +kernel
theorem dX6_snipEnd_0 : decode cX6_snipEnd 0 = .ok (.aload_n 0, 1) := by decide +kernel
theorem dX6_snipEnd_1 : decode cX6_snipEnd 1 = .ok (.iload_n 1, 1) := by decide +kernel
theorem dX6_snipEnd_2 : decode cX6_snipEnd 2 = .ok (.invokevirtual 51, 3) := by decide +kernel
theorem dX6_snipEnd_5 : decode cX6_snipEnd 5 = .ok (.ifCond .ne 5, 3) := by decide +kernel
theorem dX6_snipEnd_8 : decode cX6_snipEnd 8 = .ok (.iconst (-1), 1) := by decide +kernel
theorem dX6_snipEnd_9 : decode cX6_snipEnd 9 = .ok (.ireturn, 1) := by decide +kernel
theorem dX6_snipEnd_10 : decode cX6_snipEnd 10 = .ok (.aload_n 0, 1) := by decide +kernel
theorem dX6_snipEnd_11 : decode cX6_snipEnd 11 = .ok (.getfield 11, 3) := by decide +kernel
theorem dX6_snipEnd_14 : decode cX6_snipEnd 14 = .ok (.iload_n 1, 1) := by decide +kernel
theorem dX6_snipEnd_15 : decode cX6_snipEnd 15 = .ok (.aaload, 1) := by decide +kernel
theorem dX6_snipEnd_16 : decode cX6_snipEnd 16 = .ok (.getfield 35, 3) := by decide +kernel
theorem dX6_snipEnd_19 : decode cX6_snipEnd 19 = .ok (.astore_n 2, 1) := by decide +kernel
theorem dX6_snipEnd_20 : decode cX6_snipEnd 20 = .ok (.aload_n 2, 1) := by decide +kernel
theorem dX6_snipEnd_21 : decode cX6_snipEnd 21 = .ok (.getfield 48, 3) := by decide +kernel
theorem dX6_snipEnd_24 : decode cX6_snipEnd 24 = .ok (.iconst 2, 1) := by decide +kernel
theorem dX6_snipEnd_25 : decode cX6_snipEnd 25 = .ok (.if_icmp .ge 6, 3) := by decide +kernel
theorem dX6_snipEnd_28 : decode cX6_snipEnd 28 = .ok (.bipush (-3), 2) := by decide +kernel
theorem dX6_snipEnd_30 : decode cX6_snipEnd 30 = .ok (.ireturn, 1) := by decide +kernel
theorem dX6_snipEnd_31 : decode cX6_snipEnd 31 = .ok (.aload_n 2, 1) := by decide +kernel
theorem dX6_snipEnd_32 : decode cX6_snipEnd 32 = .ok (.invokevirtual 80, 3) := by decide +kernel
theorem dX6_snipEnd_35 : decode cX6_snipEnd 35 = .ok (.aload_n 2, 1) := by decide +kernel
theorem dX6_snipEnd_36 : decode cX6_snipEnd 36 = .ok (.getfield 89, 3) := by decide +kernel
theorem dX6_snipEnd_39 : decode cX6_snipEnd 39 = .ok (.aload_n 2, 1) := by decide +kernel
theorem dX6_snipEnd_40 : decode cX6_snipEnd 40 = .ok (.getfield 48, 3) := by decide +kernel
theorem dX6_snipEnd_43 : decode cX6_snipEnd 43 = .ok (.iaload, 1) := by decide +kernel
theorem dX6_snipEnd_44 : decode cX6_snipEnd 44 = .ok (.ireturn, 1) := by decide +kernel
theorem dX6_joinTo_0 : decode cX6_joinTo 0 = .ok (.aload_n 0, 1) := by decide +kernel
theorem dX6_joinTo_1 : decode cX6_joinTo 1 = .ok (.iload_n 1, 1) := by decide +kernel
theorem dX6_joinTo_2 : decode cX6_joinTo 2 = .ok (.invokevirtual 51, 3) := by decide +kernel
theorem dX6_joinTo_5 : decode cX6_joinTo 5 = .ok (.ifCond .eq 11, 3) := by decide +kernel
theorem dX6_joinTo_8 : decode cX6_joinTo 8 = .ok (.aload_n 0, 1) := by decide +kernel
theorem dX6_joinTo_9 : decode cX6_joinTo 9 = .ok (.iload_n 2, 1) := by decide +kernel
theorem dX6_joinTo_10 : decode cX6_joinTo 10 = .ok (.invokevirtual 51, 3) := by decide +kernel
theorem dX6_joinTo_13 : decode cX6_joinTo 13 = .ok (.ifCond .ne 5, 3) := by decide +kernel
theorem dX6_joinTo_16 : decode cX6_joinTo 16 = .ok (.iconst (-1), 1) := by decide +kernel
theorem dX6_joinTo_17 : decode cX6_joinTo 17 = .ok (.ireturn, 1) := by decide +kernel
theorem dX6_joinTo_18 : decode cX6_joinTo 18 = .ok (.iload_n 1, 1) := by decide +kernel
theorem dX6_joinTo_19 : decode cX6_joinTo 19 = .ok (.iload_n 2, 1) := by decide +kernel
theorem dX6_joinTo_20 : decode cX6_joinTo 20 = .ok (.if_icmp .ne 6, 3) := by decide +kernel
theorem dX6_joinTo_23 : decode cX6_joinTo 23 = .ok (.bipush (-2), 2) := by decide +kernel
theorem dX6_joinTo_25 : decode cX6_joinTo 25 = .ok (.ireturn, 1) := by decide +kernel
theorem dX6_joinTo_26 : decode cX6_joinTo 26 = .ok (.aload_n 0, 1) := by decide +kernel
theorem dX6_joinTo_27 : decode cX6_joinTo 27 = .ok (.getfield 11, 3) := by decide +kernel
theorem dX6_joinTo_30 : decode cX6_joinTo 30 = .ok (.iload_n 1, 1) := by decide +kernel
theorem dX6_joinTo_31 : decode cX6_joinTo 31 = .ok (.aaload, 1) := by decide +kernel
theorem dX6_joinTo_32 : decode cX6_joinTo 32 = .ok (.getfield 29, 3) := by decide +kernel
theorem dX6_joinTo_35 : decode cX6_joinTo 35 = .ok (.aload_n 0, 1) := by decide +kernel
theorem dX6_joinTo_36 : decode cX6_joinTo 36 = .ok (.getfield 11, 3) := by decide +kernel
theorem dX6_joinTo_39 : decode cX6_joinTo 39 = .ok (.iload_n 2, 1) := by decide +kernel
theorem dX6_joinTo_40 : decode cX6_joinTo 40 = .ok (.aaload, 1) := by decide +kernel
theorem dX6_joinTo_41 : decode cX6_joinTo 41 = .ok (.getfield 29, 3) := by decide +kernel
theorem dX6_joinTo_44 : decode cX6_joinTo 44 = .ok (.if_icmp .eq 6, 3) := by decide +kernel
theorem dX6_joinTo_47 : decode cX6_joinTo 47 = .ok (.bipush (-3), 2) := by decide +kernel
theorem dX6_joinTo_49 : decode cX6_joinTo 49 = .ok (.ireturn, 1) := by decide +kernel
theorem dX6_joinTo_50 : decode cX6_joinTo 50 = .ok (.aload_n 0, 1) := by decide +kernel
theorem dX6_joinTo_51 : decode cX6_joinTo 51 = .ok (.getfield 11, 3) := by decide +kernel
theorem dX6_joinTo_54 : decode cX6_joinTo 54 = .ok (.iload_n 1, 1) := by decide +kernel
theorem dX6_joinTo_55 : decode cX6_joinTo 55 = .ok (.aaload, 1) := by decide +kernel
theorem dX6_joinTo_56 : decode cX6_joinTo 56 = .ok (.getfield 35, 3) := by decide +kernel
theorem dX6_joinTo_59 : decode cX6_joinTo 59 = .ok (.astore_n 3, 1) := by decide +kernel
theorem dX6_joinTo_60 : decode cX6_joinTo 60 = .ok (.aload_n 0, 1) := by decide +kernel
theorem dX6_joinTo_61 : decode cX6_joinTo 61 = .ok (.getfield 11, 3) := by decide +kernel
theorem dX6_joinTo_64 : decode cX6_joinTo 64 = .ok (.iload_n 2, 1) := by decide +kernel
theorem dX6_joinTo_65 : decode cX6_joinTo 65 = .ok (.aaload, 1) := by decide +kernel
theorem dX6_joinTo_66 : decode cX6_joinTo 66 = .ok (.getfield 35, 3) := by decide +kernel
theorem dX6_joinTo_69 : decode cX6_joinTo 69 = .ok (.astore 4, 2) := by decide +kernel
theorem dX6_joinTo_71 : decode cX6_joinTo 71 = .ok (.aload_n 3, 1) := by decide +kernel
theorem dX6_joinTo_72 : decode cX6_joinTo 72 = .ok (.getfield 48, 3) := by decide +kernel
theorem dX6_joinTo_75 : decode cX6_joinTo 75 = .ok (.aload 4, 2) := by decide +kernel
theorem dX6_joinTo_77 : decode cX6_joinTo 77 = .ok (.getfield 48, 3) := by decide +kernel
theorem dX6_joinTo_80 : decode cX6_joinTo 80 = .ok (.iadd, 1) := by decide +kernel
theorem dX6_joinTo_81 : decode cX6_joinTo 81 = .ok (.aload_n 3, 1) := by decide +kernel
theorem dX6_joinTo_82 : decode cX6_joinTo 82 = .ok (.aload 4, 2) := by decide +kernel
theorem dX6_joinTo_84 : decode cX6_joinTo 84 = .ok (.invokevirtual 93, 3) := by decide +kernel
theorem dX6_joinTo_87 : decode cX6_joinTo 87 = .ok (.isub, 1) := by decide +kernel
theorem dX6_joinTo_88 : decode cX6_joinTo 88 = .ok (.bipush 12, 2) := by decide +kernel
theorem dX6_joinTo_90 : decode cX6_joinTo 90 = .ok (.if_icmp .le 6, 3) := by decide +kernel
theorem dX6_joinTo_93 : decode cX6_joinTo 93 = .ok (.bipush (-4), 2) := by decide +kernel
theorem dX6_joinTo_95 : decode cX6_joinTo 95 = .ok (.ireturn, 1) := by decide +kernel
theorem dX6_joinTo_96 : decode cX6_joinTo 96 = .ok (.aload_n 3, 1) := by decide +kernel
theorem dX6_joinTo_97 : decode cX6_joinTo 97 = .ok (.aload 4, 2) := by decide +kernel
theorem dX6_joinTo_99 : decode cX6_joinTo 99 = .ok (.invokevirtual 97, 3) := by decide +kernel
theorem dX6_joinTo_102 : decode cX6_joinTo 102 = .ok (.aload 4, 2) := by decide +kernel
theorem dX6_joinTo_104 : decode cX6_joinTo 104 = .ok (.invokevirtual 39, 3) := by decide +kernel
theorem dX6_joinTo_107 : decode cX6_joinTo 107 = .ok (.aload_n 3, 1) := by decide +kernel
theorem dX6_joinTo_108 : decode cX6_joinTo 108 = .ok (.getfield 48, 3) := by decide +kernel
theorem dX6_joinTo_111 : decode cX6_joinTo 111 = .ok (.ireturn, 1) := by decide +kernel
theorem dX7_init_0 : decode cX7_init 0 = .ok (.aload_n 0, 1) := by decide +kernel
theorem dX7_init_1 : decode cX7_init 1 = .ok (.invokespecial 1, 3) := by decide +kernel
theorem dX7_init_4 : decode cX7_init 4 = .ok (.aload_n 0, 1) := by decide +kernel
theorem dX7_init_5 : decode cX7_init 5 = .ok (.new 7, 3) := by decide +kernel
theorem dX7_init_8 : decode cX7_init 8 = .ok (.dup, 1) := by decide +kernel
theorem dX7_init_9 : decode cX7_init 9 = .ok (.invokespecial 9, 3) := by decide +kernel
theorem dX7_init_12 : decode cX7_init 12 = .ok (.putfield 10, 3) := by decide +kernel
theorem dX7_init_15 : decode cX7_init 15 = .ok (.aload_n 0, 1) := by decide +kernel
theorem dX7_init_16 : decode cX7_init 16 = .ok (.new 16, 3) := by decide +kernel
theorem dX7_init_19 : decode cX7_init 19 = .ok (.dup, 1) := by decide +kernel
theorem dX7_init_20 : decode cX7_init 20 = .ok (.invokespecial 18, 3) := by decide +kernel
theorem dX7_init_23 : decode cX7_init 23 = .ok (.putfield 19, 3) := by decide +kernel
theorem dX7_init_26 : decode cX7_init 26 = .ok (.aload_n 0, 1) := by decide +kernel
theorem dX7_init_27 : decode cX7_init 27 = .ok (.new 16, 3) := by decide +kernel
theorem dX7_init_30 : decode cX7_init 30 = .ok (.dup, 1) := by decide +kernel
theorem dX7_init_31 : decode cX7_init 31 = .ok (.invokespecial 18, 3) := by decide +kernel
theorem dX7_init_34 : decode cX7_init 34 = .ok (.putfield 23, 3) := by decide +kernel
theorem dX7_init_37 : decode cX7_init 37 = .ok (.aload_n 0, 1) := by decide +kernel
theorem dX7_init_38 : decode cX7_init 38 = .ok (.new 26, 3) := by decide +kernel
theorem dX7_init_41 : decode cX7_init 41 = .ok (.dup, 1) := by decide +kernel
theorem dX7_init_42 : decode cX7_init 42 = .ok (.invokespecial 28, 3) := by decide +kernel
theorem dX7_init_45 : decode cX7_init 45 = .ok (.putfield 29, 3) := by decide +kernel
theorem dX7_init_48 : decode cX7_init 48 = .ok (.aload_n 0, 1) := by decide +kernel
theorem dX7_init_49 : decode cX7_init 49 = .ok (.new 33, 3) := by decide +kernel
theorem dX7_init_52 : decode cX7_init 52 = .ok (.dup, 1) := by decide +kernel
theorem dX7_init_53 : decode cX7_init 53 = .ok (.invokespecial 35, 3) := by decide +kernel
theorem dX7_init_56 : decode cX7_init 56 = .ok (.putfield 36, 3) := by decide +kernel
theorem dX7_init_59 : decode cX7_init 59 = .ok (.aload_n 0, 1) := by decide +kernel
theorem dX7_init_60 : decode cX7_init 60 = .ok (.new 40, 3) := by decide +kernel
theorem dX7_init_63 : decode cX7_init 63 = .ok (.dup, 1) := by decide +kernel
theorem dX7_init_64 : decode cX7_init 64 = .ok (.invokespecial 42, 3) := by decide +kernel
theorem dX7_init_67 : decode cX7_init 67 = .ok (.putfield 43, 3) := by decide +kernel
theorem dX7_init_70 : decode cX7_init 70 = .ok (.aload_n 0, 1) := by decide +kernel
theorem dX7_init_71 : decode cX7_init 71 = .ok (.new 47, 3) := by decide +kernel
theorem dX7_init_74 : decode cX7_init 74 = .ok (.dup, 1) := by decide +kernel
theorem dX7_init_75 : decode cX7_init 75 = .ok (.bipush 12, 2) := by decide +kernel
theorem dX7_init_77 : decode cX7_init 77 = .ok (.invokespecial 49, 3) := by decide +kernel
theorem dX7_init_80 : decode cX7_init 80 = .ok (.putfield 52, 3) := by decide +kernel
theorem dX7_init_83 : decode cX7_init 83 = .ok (.aload_n 0, 1) := by decide +kernel
theorem dX7_init_84 : decode cX7_init 84 = .ok (.new 47, 3) := by decide +kernel
theorem dX7_init_87 : decode cX7_init 87 = .ok (.dup, 1) := by decide +kernel
theorem dX7_init_88 : decode cX7_init 88 = .ok (.bipush 48, 2) := by decide +kernel
theorem dX7_init_90 : decode cX7_init 90 = .ok (.invokespecial 49, 3) := by decide +kernel
theorem dX7_init_93 : decode cX7_init 93 = .ok (.putfield 56, 3) := by decide +kernel
theorem dX7_init_96 : decode cX7_init 96 = .ok (.aload_n 0, 1) := by decide +kernel
theorem dX7_init_97 : decode cX7_init 97 = .ok (.new 47, 3) := by decide +kernel
theorem dX7_init_100 : decode cX7_init 100 = .ok (.dup, 1) := by decide +kernel
theorem dX7_init_101 : decode cX7_init 101 = .ok (.bipush 12, 2) := by decide +kernel
theorem dX7_init_103 : decode cX7_init 103 = .ok (.invokespecial 49, 3) := by decide +kernel
theorem dX7_init_106 : decode cX7_init 106 = .ok (.putfield 59, 3) := by decide +kernel
theorem dX7_init_109 : decode cX7_init 109 = .ok (.aload_n 0, 1) := by decide +kernel
theorem dX7_init_110 : decode cX7_init 110 = .ok (.iconst 4, 1) := by decide +kernel
theorem dX7_init_111 : decode cX7_init 111 = .ok (.newarray .int, 2) := by decide +kernel
theorem dX7_init_113 : decode cX7_init 113 = .ok (.putfield 62, 3) := by decide +kernel
theorem dX7_init_116 : decode cX7_init 116 = .ok (.aload_n 0, 1) := by decide +kernel
theorem dX7_init_117 : decode cX7_init 117 = .ok (.bipush 16, 2) := by decide +kernel
theorem dX7_init_119 : decode cX7_init 119 = .ok (.newarray .int, 2) := by decide +kernel
theorem dX7_init_121 : decode cX7_init 121 = .ok (.putfield 66, 3) := by decide +kernel
theorem dX7_init_124 : decode cX7_init 124 = .ok (.aload_n 0, 1) := by decide +kernel
theorem dX7_init_125 : decode cX7_init 125 = .ok (.bipush 16, 2) := by decide +kernel
theorem dX7_init_127 : decode cX7_init 127 = .ok (.newarray .int, 2) := by decide +kernel
theorem dX7_init_129 : decode cX7_init 129 = .ok (.putfield 69, 3) := by decide +kernel
theorem dX7_init_132 : decode cX7_init 132 = .ok (.aload_n 0, 1) := by decide +kernel
theorem dX7_init_133 : decode cX7_init 133 = .ok (.lconst 0, 1) := by decide +kernel
theorem dX7_init_134 : decode cX7_init 134 = .ok (.putfield 72, 3) := by decide +kernel
theorem dX7_init_137 : decode cX7_init 137 = .ok (.return_, 1) := by decide +kernel
theorem dX7_write_0 : decode cX7_write 0 = .ok (.iload_n 1, 1) := by decide +kernel
theorem dX7_write_1 : decode cX7_write 1 = .ok (.ifCond .lt 10, 3) := by decide +kernel
theorem dX7_write_4 : decode cX7_write 4 = .ok (.iload_n 1, 1) := by decide +kernel
theorem dX7_write_5 : decode cX7_write 5 = .ok (.sipush 255, 3) := by decide +kernel
theorem dX7_write_8 : decode cX7_write 8 = .ok (.if_icmp .le 6, 3) := by decide +kernel
theorem dX7_write_11 : decode cX7_write 11 = .ok (.bipush (-2), 2) := by decide +kernel
theorem dX7_write_13 : decode cX7_write 13 = .ok (.ireturn, 1) := by decide +kernel
theorem dX7_write_14 : decode cX7_write 14 = .ok (.aload_n 0, 1) := by decide +kernel
theorem dX7_write_15 : decode cX7_write 15 = .ok (.getfield 10, 3) := by decide +kernel
theorem dX7_write_18 : decode cX7_write 18 = .ok (.iload_n 1, 1) := by decide +kernel
theorem dX7_write_19 : decode cX7_write 19 = .ok (.invokevirtual 76, 3) := by decide +kernel
theorem dX7_write_22 : decode cX7_write 22 = .ok (.ireturn, 1) := by decide +kernel
theorem dX7_wipe_0 : decode cX7_wipe 0 = .ok (.aload_n 0, 1) := by decide +kernel
theorem dX7_wipe_1 : decode cX7_wipe 1 = .ok (.getfield 10, 3) := by decide +kernel
theorem dX7_wipe_4 : decode cX7_wipe 4 = .ok (.invokevirtual 80, 3) := by decide +kernel
theorem dX7_wipe_7 : decode cX7_wipe 7 = .ok (.ireturn, 1) := by decide +kernel
theorem dX7_fault_0 : decode cX7_fault 0 = .ok (.aload_n 0, 1) := by decide +kernel
theorem dX7_fault_1 : decode cX7_fault 1 = .ok (.getfield 10, 3) := by decide +kernel
theorem dX7_fault_4 : decode cX7_fault 4 = .ok (.invokevirtual 84, 3) := by decide +kernel
theorem dX7_fault_7 : decode cX7_fault 7 = .ok (.ireturn, 1) := by decide +kernel
theorem dX7_valley_0 : decode cX7_valley 0 = .ok (.aload_n 0, 1) := by decide +kernel
theorem dX7_valley_1 : decode cX7_valley 1 = .ok (.getfield 10, 3) := by decide +kernel
theorem dX7_valley_4 : decode cX7_valley 4 = .ok (.invokevirtual 84, 3) := by decide +kernel
theorem dX7_valley_7 : decode cX7_valley 7 = .ok (.bipush (-9), 2) := by decide +kernel
theorem dX7_valley_9 : decode cX7_valley 9 = .ok (.if_icmp .eq 6, 3) := by decide +kernel
theorem dX7_valley_12 : decode cX7_valley 12 = .ok (.bipush (-3), 2) := by decide +kernel
theorem dX7_valley_14 : decode cX7_valley 14 = .ok (.ireturn, 1) := by decide +kernel
theorem dX7_valley_15 : decode cX7_valley 15 = .ok (.aload_n 0, 1) := by decide +kernel
theorem dX7_valley_16 : decode cX7_valley 16 = .ok (.getfield 10, 3) := by decide +kernel
theorem dX7_valley_19 : decode cX7_valley 19 = .ok (.aload_n 0, 1) := by decide +kernel
theorem dX7_valley_20 : decode cX7_valley 20 = .ok (.getfield 19, 3) := by decide +kernel
theorem dX7_valley_23 : decode cX7_valley 23 = .ok (.invokevirtual 87, 3) := by decide +kernel
theorem dX7_valley_26 : decode cX7_valley 26 = .ok (.aload_n 0, 1) := by decide +kernel
theorem dX7_valley_27 : decode cX7_valley 27 = .ok (.getfield 29, 3) := by decide +kernel
theorem dX7_valley_30 : decode cX7_valley 30 = .ok (.invokevirtual 91, 3) := by decide +kernel
theorem dX7_valley_33 : decode cX7_valley 33 = .ok (.aload_n 0, 1) := by decide +kernel
theorem dX7_valley_34 : decode cX7_valley 34 = .ok (.getfield 36, 3) := by decide +kernel
theorem dX7_valley_37 : decode cX7_valley 37 = .ok (.invokevirtual 93, 3) := by decide +kernel
theorem dX7_valley_40 : decode cX7_valley 40 = .ok (.aload_n 0, 1) := by decide +kernel
theorem dX7_valley_41 : decode cX7_valley 41 = .ok (.getfield 19, 3) := by decide +kernel
theorem dX7_valley_44 : decode cX7_valley 44 = .ok (.getfield 94, 3) := by decide +kernel
theorem dX7_valley_47 : decode cX7_valley 47 = .ok (.ireturn, 1) := by decide +kernel
theorem dX7_bed_0 : decode cX7_bed 0 = .ok (.iload_n 1, 1) := by decide +kernel
theorem dX7_bed_1 : decode cX7_bed 1 = .ok (.ifCond .lt 17, 3) := by decide +kernel
theorem dX7_bed_4 : decode cX7_bed 4 = .ok (.iload_n 1, 1) := by decide +kernel
theorem dX7_bed_5 : decode cX7_bed 5 = .ok (.bipush 12, 2) := by decide +kernel
theorem dX7_bed_7 : decode cX7_bed 7 = .ok (.if_icmp .gt 11, 3) := by decide +kernel
theorem dX7_bed_10 : decode cX7_bed 10 = .ok (.iload_n 1, 1) := by decide +kernel
theorem dX7_bed_11 : decode cX7_bed 11 = .ok (.lload_n 2, 1) := by decide +kernel
theorem dX7_bed_12 : decode cX7_bed 12 = .ok (.invokestatic 98, 3) := by decide +kernel
theorem dX7_bed_15 : decode cX7_bed 15 = .ok (.ifCond .ne 6, 3) := by decide +kernel
theorem dX7_bed_18 : decode cX7_bed 18 = .ok (.bipush (-2), 2) := by decide +kernel
theorem dX7_bed_20 : decode cX7_bed 20 = .ok (.ireturn, 1) := by decide +kernel
theorem dX7_bed_21 : decode cX7_bed 21 = .ok (.aload_n 0, 1) := by decide +kernel
theorem dX7_bed_22 : decode cX7_bed 22 = .ok (.getfield 52, 3) := by decide +kernel
theorem dX7_bed_25 : decode cX7_bed 25 = .ok (.getfield 102, 3) := by decide +kernel
theorem dX7_bed_28 : decode cX7_bed 28 = .ok (.istore 4, 2) := by decide +kernel
theorem dX7_bed_30 : decode cX7_bed 30 = .ok (.aload_n 0, 1) := by decide +kernel
theorem dX7_bed_31 : decode cX7_bed 31 = .ok (.getfield 52, 3) := by decide +kernel
theorem dX7_bed_34 : decode cX7_bed 34 = .ok (.iload_n 1, 1) := by decide +kernel
theorem dX7_bed_35 : decode cX7_bed 35 = .ok (.lload_n 2, 1) := by decide +kernel
theorem dX7_bed_36 : decode cX7_bed 36 = .ok (.invokevirtual 105, 3) := by decide +kernel
theorem dX7_bed_39 : decode cX7_bed 39 = .ok (.iload 4, 2) := by decide +kernel
theorem dX7_bed_41 : decode cX7_bed 41 = .ok (.ireturn, 1) := by decide +kernel
theorem dX7_strand_0 : decode cX7_strand 0 = .ok (.aload_n 0, 1) := by decide +kernel
theorem dX7_strand_1 : decode cX7_strand 1 = .ok (.getfield 19, 3) := by decide +kernel
theorem dX7_strand_4 : decode cX7_strand 4 = .ok (.iload_n 1, 1) := by decide +kernel
theorem dX7_strand_5 : decode cX7_strand 5 = .ok (.invokevirtual 109, 3) := by decide +kernel
theorem dX7_strand_8 : decode cX7_strand 8 = .ok (.ifCond .ne 5, 3) := by decide +kernel
theorem dX7_strand_11 : decode cX7_strand 11 = .ok (.iconst (-1), 1) := by decide +kernel
theorem dX7_strand_12 : decode cX7_strand 12 = .ok (.ireturn, 1) := by decide +kernel
theorem dX7_strand_13 : decode cX7_strand 13 = .ok (.aload_n 0, 1) := by decide +kernel
theorem dX7_strand_14 : decode cX7_strand 14 = .ok (.getfield 19, 3) := by decide +kernel
theorem dX7_strand_17 : decode cX7_strand 17 = .ok (.getfield 113, 3) := by decide +kernel
theorem dX7_strand_20 : decode cX7_strand 20 = .ok (.iload_n 1, 1) := by decide +kernel
theorem dX7_strand_21 : decode cX7_strand 21 = .ok (.aaload, 1) := by decide +kernel
theorem dX7_strand_22 : decode cX7_strand 22 = .ok (.astore_n 3, 1) := by decide +kernel
theorem dX7_strand_23 : decode cX7_strand 23 = .ok (.iload_n 2, 1) := by decide +kernel
theorem dX7_strand_24 : decode cX7_strand 24 = .ok (.tableswitch 62 0 3 #[32, 37, 42, 50], 32) := by decide +kernel
theorem dX7_strand_56 : decode cX7_strand 56 = .ok (.aload_n 3, 1) := by decide +kernel
theorem dX7_strand_57 : decode cX7_strand 57 = .ok (.getfield 117, 3) := by decide +kernel
theorem dX7_strand_60 : decode cX7_strand 60 = .ok (.ireturn, 1) := by decide +kernel
theorem dX7_strand_61 : decode cX7_strand 61 = .ok (.aload_n 3, 1) := by decide +kernel
theorem dX7_strand_62 : decode cX7_strand 62 = .ok (.getfield 122, 3) := by decide +kernel
theorem dX7_strand_65 : decode cX7_strand 65 = .ok (.ireturn, 1) := by decide +kernel
theorem dX7_strand_66 : decode cX7_strand 66 = .ok (.aload_n 3, 1) := by decide +kernel
theorem dX7_strand_67 : decode cX7_strand 67 = .ok (.getfield 125, 3) := by decide +kernel
theorem dX7_strand_70 : decode cX7_strand 70 = .ok (.getfield 102, 3) := by decide +kernel
theorem dX7_strand_73 : decode cX7_strand 73 = .ok (.ireturn, 1) := by decide +kernel
theorem dX7_strand_74 : decode cX7_strand 74 = .ok (.aload_n 0, 1) := by decide +kernel
theorem dX7_strand_75 : decode cX7_strand 75 = .ok (.getfield 52, 3) := by decide +kernel
theorem dX7_strand_78 : decode cX7_strand 78 = .ok (.aload_n 3, 1) := by decide +kernel
theorem dX7_strand_79 : decode cX7_strand 79 = .ok (.getfield 125, 3) := by decide +kernel
theorem dX7_strand_82 : decode cX7_strand 82 = .ok (.invokevirtual 128, 3) := by decide +kernel
theorem dX7_strand_85 : decode cX7_strand 85 = .ok (.ireturn, 1) := by decide +kernel
theorem dX7_strand_86 : decode cX7_strand 86 = .ok (.bipush (-2), 2) := by decide +kernel
theorem dX7_strand_88 : decode cX7_strand 88 = .ok (.ireturn, 1) := by decide +kernel
theorem dX7_bends_0 : decode cX7_bends 0 = .ok (.aload_n 0, 1) := by decide +kernel
theorem dX7_bends_1 : decode cX7_bends 1 = .ok (.getfield 19, 3) := by decide +kernel
theorem dX7_bends_4 : decode cX7_bends 4 = .ok (.iload_n 1, 1) := by decide +kernel
theorem dX7_bends_5 : decode cX7_bends 5 = .ok (.invokevirtual 109, 3) := by decide +kernel
theorem dX7_bends_8 : decode cX7_bends 8 = .ok (.ifCond .eq 21, 3) := by decide +kernel
theorem dX7_bends_11 : decode cX7_bends 11 = .ok (.aload_n 0, 1) := by decide +kernel
theorem dX7_bends_12 : decode cX7_bends 12 = .ok (.getfield 19, 3) := by decide +kernel
theorem dX7_bends_15 : decode cX7_bends 15 = .ok (.getfield 113, 3) := by decide +kernel
theorem dX7_bends_18 : decode cX7_bends 18 = .ok (.iload_n 1, 1) := by decide +kernel
theorem dX7_bends_19 : decode cX7_bends 19 = .ok (.aaload, 1) := by decide +kernel
theorem dX7_bends_20 : decode cX7_bends 20 = .ok (.getfield 125, 3) := by decide +kernel
theorem dX7_bends_23 : decode cX7_bends 23 = .ok (.invokevirtual 132, 3) := by decide +kernel
theorem dX7_bends_26 : decode cX7_bends 26 = .ok (.goto 6, 3) := by decide +kernel
theorem dX7_bends_29 : decode cX7_bends 29 = .ok (.ldc2_w 136, 3) := by decide +kernel
theorem dX7_bends_32 : decode cX7_bends 32 = .ok (.lreturn, 1) := by decide +kernel
theorem dX7_isRowOfBends_0 : decode cX7_isRowOfBends 0 = .ok (.lload_n 1, 1) := by decide +kernel
theorem dX7_isRowOfBends_1 : decode cX7_isRowOfBends 1 = .ok (.lstore_n 3, 1) := by decide +kernel
theorem dX7_isRowOfBends_2 : decode cX7_isRowOfBends 2 = .ok (.iconst 0, 1) := by decide +kernel
theorem dX7_isRowOfBends_3 : decode cX7_isRowOfBends 3 = .ok (.istore 5, 2) := by decide +kernel
theorem dX7_isRowOfBends_5 : decode cX7_isRowOfBends 5 = .ok (.iload 5, 2) := by decide +kernel
theorem dX7_isRowOfBends_7 : decode cX7_isRowOfBends 7 = .ok (.iload_n 0, 1) := by decide +kernel
theorem dX7_isRowOfBends_8 : decode cX7_isRowOfBends 8 = .ok (.if_icmp .ge 40, 3) := by decide +kernel
theorem dX7_isRowOfBends_11 : decode cX7_isRowOfBends 11 = .ok (.lload_n 3, 1) := by decide +kernel
theorem dX7_isRowOfBends_12 : decode cX7_isRowOfBends 12 = .ok (.ldc2_w 138, 3) := by decide +kernel
theorem dX7_isRowOfBends_15 : decode cX7_isRowOfBends 15 = .ok (.lrem, 1) := by decide +kernel
theorem dX7_isRowOfBends_16 : decode cX7_isRowOfBends 16 = .ok (.lstore 6, 2) := by decide +kernel
theorem dX7_isRowOfBends_18 : decode cX7_isRowOfBends 18 = .ok (.lload 6, 2) := by decide +kernel
theorem dX7_isRowOfBends_20 : decode cX7_isRowOfBends 20 = .ok (.lconst 1, 1) := by decide +kernel
theorem dX7_isRowOfBends_21 : decode cX7_isRowOfBends 21 = .ok (.lcmp, 1) := by decide +kernel
theorem dX7_isRowOfBends_22 : decode cX7_isRowOfBends 22 = .ok (.ifCond .lt 12, 3) := by decide +kernel
theorem dX7_isRowOfBends_25 : decode cX7_isRowOfBends 25 = .ok (.lload 6, 2) := by decide +kernel
theorem dX7_isRowOfBends_27 : decode cX7_isRowOfBends 27 = .ok (.ldc2_w 140, 3) := by decide +kernel
theorem dX7_isRowOfBends_30 : decode cX7_isRowOfBends 30 = .ok (.lcmp, 1) := by decide +kernel
theorem dX7_isRowOfBends_31 : decode cX7_isRowOfBends 31 = .ok (.ifCond .le 5, 3) := by decide +kernel
theorem dX7_isRowOfBends_34 : decode cX7_isRowOfBends 34 = .ok (.iconst 0, 1) := by decide +kernel
theorem dX7_isRowOfBends_35 : decode cX7_isRowOfBends 35 = .ok (.ireturn, 1) := by decide +kernel
theorem dX7_isRowOfBends_36 : decode cX7_isRowOfBends 36 = .ok (.lload_n 3, 1) := by decide +kernel
theorem dX7_isRowOfBends_37 : decode cX7_isRowOfBends 37 = .ok (.ldc2_w 138, 3) := by decide +kernel
theorem dX7_isRowOfBends_40 : decode cX7_isRowOfBends 40 = .ok (.ldiv, 1) := by decide +kernel
theorem dX7_isRowOfBends_41 : decode cX7_isRowOfBends 41 = .ok (.lstore_n 3, 1) := by decide +kernel
theorem dX7_isRowOfBends_42 : decode cX7_isRowOfBends 42 = .ok (.iinc 5 1, 3) := by decide +kernel
theorem dX7_isRowOfBends_45 : decode cX7_isRowOfBends 45 = .ok (.goto (-40), 3) := by decide +kernel
theorem dX7_isRowOfBends_48 : decode cX7_isRowOfBends 48 = .ok (.lload_n 3, 1) := by decide +kernel
theorem dX7_isRowOfBends_49 : decode cX7_isRowOfBends 49 = .ok (.lconst 0, 1) := by decide +kernel
theorem dX7_isRowOfBends_50 : decode cX7_isRowOfBends 50 = .ok (.lcmp, 1) := by decide +kernel
theorem dX7_isRowOfBends_51 : decode cX7_isRowOfBends 51 = .ok (.ifCond .ne 7, 3) := by decide +kernel
theorem dX7_isRowOfBends_54 : decode cX7_isRowOfBends 54 = .ok (.iconst 1, 1) := by decide +kernel
theorem dX7_isRowOfBends_55 : decode cX7_isRowOfBends 55 = .ok (.goto 4, 3) := by decide +kernel
theorem dX7_isRowOfBends_58 : decode cX7_isRowOfBends 58 = .ok (.iconst 0, 1) := by decide +kernel
theorem dX7_isRowOfBends_59 : decode cX7_isRowOfBends 59 = .ok (.ireturn, 1) := by decide +kernel
theorem dX7_winter_0 : decode cX7_winter 0 = .ok (.aload_n 0, 1) := by decide +kernel
theorem dX7_winter_1 : decode cX7_winter 1 = .ok (.getfield 23, 3) := by decide +kernel
theorem dX7_winter_4 : decode cX7_winter 4 = .ok (.aload_n 0, 1) := by decide +kernel
theorem dX7_winter_5 : decode cX7_winter 5 = .ok (.getfield 19, 3) := by decide +kernel
theorem dX7_winter_8 : decode cX7_winter 8 = .ok (.invokevirtual 142, 3) := by decide +kernel
theorem dX7_winter_11 : decode cX7_winter 11 = .ok (.aload_n 0, 1) := by decide +kernel
theorem dX7_winter_12 : decode cX7_winter 12 = .ok (.aload_n 0, 1) := by decide +kernel
theorem dX7_winter_13 : decode cX7_winter 13 = .ok (.getfield 23, 3) := by decide +kernel
theorem dX7_winter_16 : decode cX7_winter 16 = .ok (.invokevirtual 145, 3) := by decide +kernel
theorem dX7_winter_19 : decode cX7_winter 19 = .ok (.invokevirtual 148, 3) := by decide +kernel
theorem dX7_winter_22 : decode cX7_winter 22 = .ok (.ireturn, 1) := by decide +kernel
theorem dX7_hang_0 : decode cX7_hang 0 = .ok (.aload_n 0, 1) := by decide +kernel
theorem dX7_hang_1 : decode cX7_hang 1 = .ok (.getfield 23, 3) := by decide +kernel
theorem dX7_hang_4 : decode cX7_hang 4 = .ok (.aload_n 0, 1) := by decide +kernel
theorem dX7_hang_5 : decode cX7_hang 5 = .ok (.getfield 19, 3) := by decide +kernel
theorem dX7_hang_8 : decode cX7_hang 8 = .ok (.invokevirtual 142, 3) := by decide +kernel
theorem dX7_hang_11 : decode cX7_hang 11 = .ok (.aload_n 0, 1) := by decide +kernel
theorem dX7_hang_12 : decode cX7_hang 12 = .ok (.aload_n 0, 1) := by decide +kernel
theorem dX7_hang_13 : decode cX7_hang 13 = .ok (.getfield 23, 3) := by decide +kernel
theorem dX7_hang_16 : decode cX7_hang 16 = .ok (.iload_n 1, 1) := by decide +kernel
theorem dX7_hang_17 : decode cX7_hang 17 = .ok (.iload_n 2, 1) := by decide +kernel
theorem dX7_hang_18 : decode cX7_hang 18 = .ok (.invokevirtual 151, 3) := by decide +kernel
theorem dX7_hang_21 : decode cX7_hang 21 = .ok (.invokevirtual 148, 3) := by decide +kernel
theorem dX7_hang_24 : decode cX7_hang 24 = .ok (.ireturn, 1) := by decide +kernel
theorem dX7_turn_0 : decode cX7_turn 0 = .ok (.aload_n 0, 1) := by decide +kernel
theorem dX7_turn_1 : decode cX7_turn 1 = .ok (.getfield 23, 3) := by decide +kernel
theorem dX7_turn_4 : decode cX7_turn 4 = .ok (.aload_n 0, 1) := by decide +kernel
theorem dX7_turn_5 : decode cX7_turn 5 = .ok (.getfield 19, 3) := by decide +kernel
theorem dX7_turn_8 : decode cX7_turn 8 = .ok (.invokevirtual 142, 3) := by decide +kernel
theorem dX7_turn_11 : decode cX7_turn 11 = .ok (.aload_n 0, 1) := by decide +kernel
theorem dX7_turn_12 : decode cX7_turn 12 = .ok (.aload_n 0, 1) := by decide +kernel
theorem dX7_turn_13 : decode cX7_turn 13 = .ok (.getfield 23, 3) := by decide +kernel
theorem dX7_turn_16 : decode cX7_turn 16 = .ok (.iload_n 1, 1) := by decide +kernel
theorem dX7_turn_17 : decode cX7_turn 17 = .ok (.invokevirtual 155, 3) := by decide +kernel
theorem dX7_turn_20 : decode cX7_turn 20 = .ok (.invokevirtual 148, 3) := by decide +kernel
theorem dX7_turn_23 : decode cX7_turn 23 = .ok (.ireturn, 1) := by decide +kernel
theorem dX7_snip_0 : decode cX7_snip 0 = .ok (.aload_n 0, 1) := by decide +kernel
theorem dX7_snip_1 : decode cX7_snip 1 = .ok (.getfield 23, 3) := by decide +kernel
theorem dX7_snip_4 : decode cX7_snip 4 = .ok (.aload_n 0, 1) := by decide +kernel
theorem dX7_snip_5 : decode cX7_snip 5 = .ok (.getfield 19, 3) := by decide +kernel
theorem dX7_snip_8 : decode cX7_snip 8 = .ok (.invokevirtual 142, 3) := by decide +kernel
theorem dX7_snip_11 : decode cX7_snip 11 = .ok (.aload_n 0, 1) := by decide +kernel
theorem dX7_snip_12 : decode cX7_snip 12 = .ok (.aload_n 0, 1) := by decide +kernel
theorem dX7_snip_13 : decode cX7_snip 13 = .ok (.getfield 23, 3) := by decide +kernel
theorem dX7_snip_16 : decode cX7_snip 16 = .ok (.iload_n 1, 1) := by decide +kernel
theorem dX7_snip_17 : decode cX7_snip 17 = .ok (.invokevirtual 158, 3) := by decide +kernel
theorem dX7_snip_20 : decode cX7_snip 20 = .ok (.invokevirtual 148, 3) := by decide +kernel
theorem dX7_snip_23 : decode cX7_snip 23 = .ok (.ireturn, 1) := by decide +kernel
theorem dX7_join_0 : decode cX7_join 0 = .ok (.aload_n 0, 1) := by decide +kernel
theorem dX7_join_1 : decode cX7_join 1 = .ok (.getfield 23, 3) := by decide +kernel
theorem dX7_join_4 : decode cX7_join 4 = .ok (.aload_n 0, 1) := by decide +kernel
theorem dX7_join_5 : decode cX7_join 5 = .ok (.getfield 19, 3) := by decide +kernel
theorem dX7_join_8 : decode cX7_join 8 = .ok (.invokevirtual 142, 3) := by decide +kernel
theorem dX7_join_11 : decode cX7_join 11 = .ok (.aload_n 0, 1) := by decide +kernel
theorem dX7_join_12 : decode cX7_join 12 = .ok (.aload_n 0, 1) := by decide +kernel
theorem dX7_join_13 : decode cX7_join 13 = .ok (.getfield 23, 3) := by decide +kernel
theorem dX7_join_16 : decode cX7_join 16 = .ok (.iload_n 1, 1) := by decide +kernel
theorem dX7_join_17 : decode cX7_join 17 = .ok (.iload_n 2, 1) := by decide +kernel
theorem dX7_join_18 : decode cX7_join 18 = .ok (.invokevirtual 161, 3) := by decide +kernel
theorem dX7_join_21 : decode cX7_join 21 = .ok (.invokevirtual 148, 3) := by decide +kernel
theorem dX7_join_24 : decode cX7_join 24 = .ok (.ireturn, 1) := by decide +kernel
theorem dX7_undo_0 : decode cX7_undo 0 = .ok (.aload_n 0, 1) := by decide +kernel
theorem dX7_undo_1 : decode cX7_undo 1 = .ok (.getfield 29, 3) := by decide +kernel
theorem dX7_undo_4 : decode cX7_undo 4 = .ok (.aload_n 0, 1) := by decide +kernel
theorem dX7_undo_5 : decode cX7_undo 5 = .ok (.getfield 19, 3) := by decide +kernel
theorem dX7_undo_8 : decode cX7_undo 8 = .ok (.invokevirtual 164, 3) := by decide +kernel
theorem dX7_undo_11 : decode cX7_undo 11 = .ok (.ireturn, 1) := by decide +kernel
theorem dX7_take_0 : decode cX7_take 0 = .ok (.iload_n 1, 1) := by decide +kernel
theorem dX7_take_1 : decode cX7_take 1 = .ok (.ifCond .lt 25, 3) := by decide +kernel
theorem dX7_take_4 : decode cX7_take 4 = .ok (.aload_n 0, 1) := by decide +kernel
theorem dX7_take_5 : decode cX7_take 5 = .ok (.getfield 29, 3) := by decide +kernel
theorem dX7_take_8 : decode cX7_take 8 = .ok (.aload_n 0, 1) := by decide +kernel
theorem dX7_take_9 : decode cX7_take 9 = .ok (.getfield 19, 3) := by decide +kernel
theorem dX7_take_12 : decode cX7_take 12 = .ok (.invokevirtual 168, 3) := by decide +kernel
theorem dX7_take_15 : decode cX7_take 15 = .ok (.aload_n 0, 1) := by decide +kernel
theorem dX7_take_16 : decode cX7_take 16 = .ok (.getfield 19, 3) := by decide +kernel
theorem dX7_take_19 : decode cX7_take 19 = .ok (.aload_n 0, 1) := by decide +kernel
theorem dX7_take_20 : decode cX7_take 20 = .ok (.getfield 23, 3) := by decide +kernel
theorem dX7_take_23 : decode cX7_take 23 = .ok (.invokevirtual 142, 3) := by decide +kernel
theorem dX7_take_26 : decode cX7_take 26 = .ok (.iload_n 1, 1) := by decide +kernel
theorem dX7_take_27 : decode cX7_take 27 = .ok (.ireturn, 1) := by decide +kernel
theorem dX7_later_0 : decode cX7_later 0 = .ok (.aload_n 0, 1) := by decide +kernel
theorem dX7_later_1 : decode cX7_later 1 = .ok (.getfield 19, 3) := by decide +kernel
theorem dX7_later_4 : decode cX7_later 4 = .ok (.iload_n 1, 1) := by decide +kernel
theorem dX7_later_5 : decode cX7_later 5 = .ok (.invokevirtual 109, 3) := by decide +kernel
theorem dX7_later_8 : decode cX7_later 8 = .ok (.ifCond .ne 5, 3) := by decide +kernel
theorem dX7_later_11 : decode cX7_later 11 = .ok (.iconst (-1), 1) := by decide +kernel
theorem dX7_later_12 : decode cX7_later 12 = .ok (.ireturn, 1) := by decide +kernel
theorem dX7_later_13 : decode cX7_later 13 = .ok (.iload_n 2, 1) := by decide +kernel
theorem dX7_later_14 : decode cX7_later 14 = .ok (.ifCond .lt 9, 3) := by decide +kernel
theorem dX7_later_17 : decode cX7_later 17 = .ok (.iload_n 2, 1) := by decide +kernel
theorem dX7_later_18 : decode cX7_later 18 = .ok (.bipush 20, 2) := by decide +kernel
theorem dX7_later_20 : decode cX7_later 20 = .ok (.if_icmp .le 6, 3) := by decide +kernel
theorem dX7_later_23 : decode cX7_later 23 = .ok (.bipush (-2), 2) := by decide +kernel
theorem dX7_later_25 : decode cX7_later 25 = .ok (.ireturn, 1) := by decide +kernel
theorem dX7_later_26 : decode cX7_later 26 = .ok (.aload_n 0, 1) := by decide +kernel
theorem dX7_later_27 : decode cX7_later 27 = .ok (.getfield 23, 3) := by decide +kernel
theorem dX7_later_30 : decode cX7_later 30 = .ok (.aload_n 0, 1) := by decide +kernel
theorem dX7_later_31 : decode cX7_later 31 = .ok (.getfield 19, 3) := by decide +kernel
theorem dX7_later_34 : decode cX7_later 34 = .ok (.invokevirtual 142, 3) := by decide +kernel
theorem dX7_later_37 : decode cX7_later 37 = .ok (.iconst 0, 1) := by decide +kernel
theorem dX7_later_38 : decode cX7_later 38 = .ok (.istore_n 3, 1) := by decide +kernel
theorem dX7_later_39 : decode cX7_later 39 = .ok (.iload_n 3, 1) := by decide +kernel
theorem dX7_later_40 : decode cX7_later 40 = .ok (.iload_n 2, 1) := by decide +kernel
theorem dX7_later_41 : decode cX7_later 41 = .ok (.if_icmp .ge 17, 3) := by decide +kernel
theorem dX7_later_44 : decode cX7_later 44 = .ok (.aload_n 0, 1) := by decide +kernel
theorem dX7_later_45 : decode cX7_later 45 = .ok (.getfield 23, 3) := by decide +kernel
theorem dX7_later_48 : decode cX7_later 48 = .ok (.invokevirtual 145, 3) := by decide +kernel
theorem dX7_later_51 : decode cX7_later 51 = .ok (.pop, 1) := by decide +kernel
theorem dX7_later_52 : decode cX7_later 52 = .ok (.iinc 3 1, 3) := by decide +kernel
theorem dX7_later_55 : decode cX7_later 55 = .ok (.goto (-16), 3) := by decide +kernel
theorem dX7_later_58 : decode cX7_later 58 = .ok (.aload_n 0, 1) := by decide +kernel
theorem dX7_later_59 : decode cX7_later 59 = .ok (.getfield 23, 3) := by decide +kernel
theorem dX7_later_62 : decode cX7_later 62 = .ok (.getfield 113, 3) := by decide +kernel
theorem dX7_later_65 : decode cX7_later 65 = .ok (.iload_n 1, 1) := by decide +kernel
theorem dX7_later_66 : decode cX7_later 66 = .ok (.aaload, 1) := by decide +kernel
theorem dX7_later_67 : decode cX7_later 67 = .ok (.getfield 125, 3) := by decide +kernel
theorem dX7_later_70 : decode cX7_later 70 = .ok (.getfield 102, 3) := by decide +kernel
theorem dX7_later_73 : decode cX7_later 73 = .ok (.ireturn, 1) := by decide +kernel
theorem dX7_lasts_0 : decode cX7_lasts 0 = .ok (.aload_n 0, 1) := by decide +kernel
theorem dX7_lasts_1 : decode cX7_lasts 1 = .ok (.getfield 19, 3) := by decide +kernel
theorem dX7_lasts_4 : decode cX7_lasts 4 = .ok (.iload_n 1, 1) := by decide +kernel
theorem dX7_lasts_5 : decode cX7_lasts 5 = .ok (.invokevirtual 109, 3) := by decide +kernel
theorem dX7_lasts_8 : decode cX7_lasts 8 = .ok (.ifCond .ne 5, 3) := by decide +kernel
theorem dX7_lasts_11 : decode cX7_lasts 11 = .ok (.iconst (-1), 1) := by decide +kernel
theorem dX7_lasts_12 : decode cX7_lasts 12 = .ok (.ireturn, 1) := by decide +kernel
theorem dX7_lasts_13 : decode cX7_lasts 13 = .ok (.aload_n 0, 1) := by decide +kernel
theorem dX7_lasts_14 : decode cX7_lasts 14 = .ok (.getfield 23, 3) := by decide +kernel
theorem dX7_lasts_17 : decode cX7_lasts 17 = .ok (.aload_n 0, 1) := by decide +kernel
theorem dX7_lasts_18 : decode cX7_lasts 18 = .ok (.getfield 19, 3) := by decide +kernel
theorem dX7_lasts_21 : decode cX7_lasts 21 = .ok (.invokevirtual 142, 3) := by decide +kernel
theorem dX7_lasts_24 : decode cX7_lasts 24 = .ok (.iconst 1, 1) := by decide +kernel
theorem dX7_lasts_25 : decode cX7_lasts 25 = .ok (.istore_n 2, 1) := by decide +kernel
theorem dX7_lasts_26 : decode cX7_lasts 26 = .ok (.iload_n 2, 1) := by decide +kernel
theorem dX7_lasts_27 : decode cX7_lasts 27 = .ok (.bipush 20, 2) := by decide +kernel
theorem dX7_lasts_29 : decode cX7_lasts 29 = .ok (.if_icmp .gt 30, 3) := by decide +kernel
theorem dX7_lasts_32 : decode cX7_lasts 32 = .ok (.aload_n 0, 1) := by decide +kernel
theorem dX7_lasts_33 : decode cX7_lasts 33 = .ok (.getfield 23, 3) := by decide +kernel
theorem dX7_lasts_36 : decode cX7_lasts 36 = .ok (.invokevirtual 145, 3) := by decide +kernel
theorem dX7_lasts_39 : decode cX7_lasts 39 = .ok (.pop, 1) := by decide +kernel
theorem dX7_lasts_40 : decode cX7_lasts 40 = .ok (.aload_n 0, 1) := by decide +kernel
theorem dX7_lasts_41 : decode cX7_lasts 41 = .ok (.getfield 23, 3) := by decide +kernel
theorem dX7_lasts_44 : decode cX7_lasts 44 = .ok (.iload_n 1, 1) := by decide +kernel
theorem dX7_lasts_45 : decode cX7_lasts 45 = .ok (.invokevirtual 109, 3) := by decide +kernel
theorem dX7_lasts_48 : decode cX7_lasts 48 = .ok (.ifCond .ne 5, 3) := by decide +kernel
theorem dX7_lasts_51 : decode cX7_lasts 51 = .ok (.iload_n 2, 1) := by decide +kernel
theorem dX7_lasts_52 : decode cX7_lasts 52 = .ok (.ireturn, 1) := by decide +kernel
theorem dX7_lasts_53 : decode cX7_lasts 53 = .ok (.iinc 2 1, 3) := by decide +kernel
theorem dX7_lasts_56 : decode cX7_lasts 56 = .ok (.goto (-30), 3) := by decide +kernel
theorem dX7_lasts_59 : decode cX7_lasts 59 = .ok (.bipush (-9), 2) := by decide +kernel
theorem dX7_lasts_61 : decode cX7_lasts 61 = .ok (.ireturn, 1) := by decide +kernel
theorem dX7_overlap_0 : decode cX7_overlap 0 = .ok (.aload_n 0, 1) := by decide +kernel
theorem dX7_overlap_1 : decode cX7_overlap 1 = .ok (.getfield 19, 3) := by decide +kernel
theorem dX7_overlap_4 : decode cX7_overlap 4 = .ok (.iload_n 1, 1) := by decide +kernel
theorem dX7_overlap_5 : decode cX7_overlap 5 = .ok (.invokevirtual 109, 3) := by decide +kernel
theorem dX7_overlap_8 : decode cX7_overlap 8 = .ok (.ifCond .eq 14, 3) := by decide +kernel
theorem dX7_overlap_11 : decode cX7_overlap 11 = .ok (.aload_n 0, 1) := by decide +kernel
theorem dX7_overlap_12 : decode cX7_overlap 12 = .ok (.getfield 19, 3) := by decide +kernel
theorem dX7_overlap_15 : decode cX7_overlap 15 = .ok (.iload_n 2, 1) := by decide +kernel
theorem dX7_overlap_16 : decode cX7_overlap 16 = .ok (.invokevirtual 109, 3) := by decide +kernel
theorem dX7_overlap_19 : decode cX7_overlap 19 = .ok (.ifCond .ne 5, 3) := by decide +kernel
theorem dX7_overlap_22 : decode cX7_overlap 22 = .ok (.iconst (-1), 1) := by decide +kernel
theorem dX7_overlap_23 : decode cX7_overlap 23 = .ok (.ireturn, 1) := by decide +kernel
theorem dX7_overlap_24 : decode cX7_overlap 24 = .ok (.iload_n 1, 1) := by decide +kernel
theorem dX7_overlap_25 : decode cX7_overlap 25 = .ok (.iload_n 2, 1) := by decide +kernel
theorem dX7_overlap_26 : decode cX7_overlap 26 = .ok (.if_icmp .ne 6, 3) := by decide +kernel
theorem dX7_overlap_29 : decode cX7_overlap 29 = .ok (.bipush (-2), 2) := by decide +kernel
theorem dX7_overlap_31 : decode cX7_overlap 31 = .ok (.ireturn, 1) := by decide +kernel
theorem dX7_overlap_32 : decode cX7_overlap 32 = .ok (.aload_n 0, 1) := by decide +kernel
theorem dX7_overlap_33 : decode cX7_overlap 33 = .ok (.getfield 19, 3) := by decide +kernel
theorem dX7_overlap_36 : decode cX7_overlap 36 = .ok (.getfield 113, 3) := by decide +kernel
theorem dX7_overlap_39 : decode cX7_overlap 39 = .ok (.iload_n 1, 1) := by decide +kernel
theorem dX7_overlap_40 : decode cX7_overlap 40 = .ok (.aaload, 1) := by decide +kernel
theorem dX7_overlap_41 : decode cX7_overlap 41 = .ok (.getfield 125, 3) := by decide +kernel
theorem dX7_overlap_44 : decode cX7_overlap 44 = .ok (.aload_n 0, 1) := by decide +kernel
theorem dX7_overlap_45 : decode cX7_overlap 45 = .ok (.getfield 19, 3) := by decide +kernel
theorem dX7_overlap_48 : decode cX7_overlap 48 = .ok (.getfield 113, 3) := by decide +kernel
theorem dX7_overlap_51 : decode cX7_overlap 51 = .ok (.iload_n 2, 1) := by decide +kernel
theorem dX7_overlap_52 : decode cX7_overlap 52 = .ok (.aaload, 1) := by decide +kernel
theorem dX7_overlap_53 : decode cX7_overlap 53 = .ok (.getfield 125, 3) := by decide +kernel
theorem dX7_overlap_56 : decode cX7_overlap 56 = .ok (.invokevirtual 171, 3) := by decide +kernel
theorem dX7_overlap_59 : decode cX7_overlap 59 = .ok (.ireturn, 1) := by decide +kernel
theorem dX7_river_0 : decode cX7_river 0 = .ok (.iload_n 1, 1) := by decide +kernel
theorem dX7_river_1 : decode cX7_river 1 = .ok (.ifCond .eq 11, 3) := by decide +kernel
theorem dX7_river_4 : decode cX7_river 4 = .ok (.iload_n 1, 1) := by decide +kernel
theorem dX7_river_5 : decode cX7_river 5 = .ok (.iconst 1, 1) := by decide +kernel
theorem dX7_river_6 : decode cX7_river 6 = .ok (.if_icmp .eq 6, 3) := by decide +kernel
theorem dX7_river_9 : decode cX7_river 9 = .ok (.bipush (-2), 2) := by decide +kernel
theorem dX7_river_11 : decode cX7_river 11 = .ok (.ireturn, 1) := by decide +kernel
theorem dX7_river_12 : decode cX7_river 12 = .ok (.aload_n 0, 1) := by decide +kernel
theorem dX7_river_13 : decode cX7_river 13 = .ok (.getfield 19, 3) := by decide +kernel
theorem dX7_river_16 : decode cX7_river 16 = .ok (.invokevirtual 174, 3) := by decide +kernel
theorem dX7_river_19 : decode cX7_river 19 = .ok (.invokestatic 177, 3) := by decide +kernel
theorem dX7_river_22 : decode cX7_river 22 = .ok (.istore_n 2, 1) := by decide +kernel
theorem dX7_river_23 : decode cX7_river 23 = .ok (.iconst (-1), 1) := by decide +kernel
theorem dX7_river_24 : decode cX7_river 24 = .ok (.istore_n 3, 1) := by decide +kernel
theorem dX7_river_25 : decode cX7_river 25 = .ok (.iconst 0, 1) := by decide +kernel
theorem dX7_river_26 : decode cX7_river 26 = .ok (.istore 4, 2) := by decide +kernel
theorem dX7_river_28 : decode cX7_river 28 = .ok (.iconst 0, 1) := by decide +kernel
theorem dX7_river_29 : decode cX7_river 29 = .ok (.istore 5, 2) := by decide +kernel
theorem dX7_river_31 : decode cX7_river 31 = .ok (.iload 5, 2) := by decide +kernel
theorem dX7_river_33 : decode cX7_river 33 = .ok (.iconst 1, 1) := by decide +kernel
theorem dX7_river_34 : decode cX7_river 34 = .ok (.iconst 2, 1) := by decide +kernel
theorem dX7_river_35 : decode cX7_river 35 = .ok (.iload_n 2, 1) := by decide +kernel
theorem dX7_river_36 : decode cX7_river 36 = .ok (.imul, 1) := by decide +kernel
theorem dX7_river_37 : decode cX7_river 37 = .ok (.ishl, 1) := by decide +kernel
theorem dX7_river_38 : decode cX7_river 38 = .ok (.if_icmp .ge 58, 3) := by decide +kernel
theorem dX7_river_41 : decode cX7_river 41 = .ok (.aload_n 0, 1) := by decide +kernel
theorem dX7_river_42 : decode cX7_river 42 = .ok (.iload 5, 2) := by decide +kernel
theorem dX7_river_44 : decode cX7_river 44 = .ok (.iload_n 2, 1) := by decide +kernel
theorem dX7_river_45 : decode cX7_river 45 = .ok (.invokevirtual 182, 3) := by decide +kernel
theorem dX7_river_48 : decode cX7_river 48 = .ok (.ifCond .ne 6, 3) := by decide +kernel
theorem dX7_river_51 : decode cX7_river 51 = .ok (.goto 39, 3) := by decide +kernel
theorem dX7_river_54 : decode cX7_river 54 = .ok (.aload_n 0, 1) := by decide +kernel
theorem dX7_river_55 : decode cX7_river 55 = .ok (.iload 5, 2) := by decide +kernel
theorem dX7_river_57 : decode cX7_river 57 = .ok (.iload_n 2, 1) := by decide +kernel
theorem dX7_river_58 : decode cX7_river 58 = .ok (.invokevirtual 186, 3) := by decide +kernel
theorem dX7_river_61 : decode cX7_river 61 = .ok (.istore 6, 2) := by decide +kernel
theorem dX7_river_63 : decode cX7_river 63 = .ok (.iload_n 3, 1) := by decide +kernel
theorem dX7_river_64 : decode cX7_river 64 = .ok (.ifCond .lt 14, 3) := by decide +kernel
theorem dX7_river_67 : decode cX7_river 67 = .ok (.aload_n 0, 1) := by decide +kernel
theorem dX7_river_68 : decode cX7_river 68 = .ok (.getfield 56, 3) := by decide +kernel
theorem dX7_river_71 : decode cX7_river 71 = .ok (.getfield 102, 3) := by decide +kernel
theorem dX7_river_74 : decode cX7_river 74 = .ok (.iload_n 3, 1) := by decide +kernel
theorem dX7_river_75 : decode cX7_river 75 = .ok (.if_icmp .ge 15, 3) := by decide +kernel
theorem dX7_river_78 : decode cX7_river 78 = .ok (.aload_n 0, 1) := by decide +kernel
theorem dX7_river_79 : decode cX7_river 79 = .ok (.getfield 56, 3) := by decide +kernel
theorem dX7_river_82 : decode cX7_river 82 = .ok (.getfield 102, 3) := by decide +kernel
theorem dX7_river_85 : decode cX7_river 85 = .ok (.istore_n 3, 1) := by decide +kernel
theorem dX7_river_86 : decode cX7_river 86 = .ok (.iload 6, 2) := by decide +kernel
theorem dX7_river_88 : decode cX7_river 88 = .ok (.istore 4, 2) := by decide +kernel
theorem dX7_river_90 : decode cX7_river 90 = .ok (.iinc 5 1, 3) := by decide +kernel
theorem dX7_river_93 : decode cX7_river 93 = .ok (.goto (-62), 3) := by decide +kernel
theorem dX7_river_96 : decode cX7_river 96 = .ok (.iload_n 1, 1) := by decide +kernel
theorem dX7_river_97 : decode cX7_river 97 = .ok (.ifCond .ne 7, 3) := by decide +kernel
theorem dX7_river_100 : decode cX7_river 100 = .ok (.iload_n 3, 1) := by decide +kernel
theorem dX7_river_101 : decode cX7_river 101 = .ok (.goto 5, 3) := by decide +kernel
theorem dX7_river_104 : decode cX7_river 104 = .ok (.iload 4, 2) := by decide +kernel
theorem dX7_river_106 : decode cX7_river 106 = .ok (.ireturn, 1) := by decide +kernel
theorem dX7_isOrder_0 : decode cX7_isOrder 0 = .ok (.iconst 0, 1) := by decide +kernel
theorem dX7_isOrder_1 : decode cX7_isOrder 1 = .ok (.istore_n 3, 1) := by decide +kernel
theorem dX7_isOrder_2 : decode cX7_isOrder 2 = .ok (.iconst 0, 1) := by decide +kernel
theorem dX7_isOrder_3 : decode cX7_isOrder 3 = .ok (.istore 4, 2) := by decide +kernel
theorem dX7_isOrder_5 : decode cX7_isOrder 5 = .ok (.iload 4, 2) := by decide +kernel
theorem dX7_isOrder_7 : decode cX7_isOrder 7 = .ok (.iload_n 2, 1) := by decide +kernel
theorem dX7_isOrder_8 : decode cX7_isOrder 8 = .ok (.if_icmp .ge 21, 3) := by decide +kernel
theorem dX7_isOrder_11 : decode cX7_isOrder 11 = .ok (.iload_n 3, 1) := by decide +kernel
theorem dX7_isOrder_12 : decode cX7_isOrder 12 = .ok (.iconst 1, 1) := by decide +kernel
theorem dX7_isOrder_13 : decode cX7_isOrder 13 = .ok (.iload_n 1, 1) := by decide +kernel
theorem dX7_isOrder_14 : decode cX7_isOrder 14 = .ok (.iload_n 2, 1) := by decide +kernel
theorem dX7_isOrder_15 : decode cX7_isOrder 15 = .ok (.iload 4, 2) := by decide +kernel
theorem dX7_isOrder_17 : decode cX7_isOrder 17 = .ok (.invokestatic 189, 3) := by decide +kernel
theorem dX7_isOrder_20 : decode cX7_isOrder 20 = .ok (.ishl, 1) := by decide +kernel
theorem dX7_isOrder_21 : decode cX7_isOrder 21 = .ok (.ior, 1) := by decide +kernel
theorem dX7_isOrder_22 : decode cX7_isOrder 22 = .ok (.istore_n 3, 1) := by decide +kernel
theorem dX7_isOrder_23 : decode cX7_isOrder 23 = .ok (.iinc 4 1, 3) := by decide +kernel
theorem dX7_isOrder_26 : decode cX7_isOrder 26 = .ok (.goto (-21), 3) := by decide +kernel
theorem dX7_isOrder_29 : decode cX7_isOrder 29 = .ok (.iload_n 3, 1) := by decide +kernel
theorem dX7_isOrder_30 : decode cX7_isOrder 30 = .ok (.aload_n 0, 1) := by decide +kernel
theorem dX7_isOrder_31 : decode cX7_isOrder 31 = .ok (.getfield 19, 3) := by decide +kernel
theorem dX7_isOrder_34 : decode cX7_isOrder 34 = .ok (.invokevirtual 174, 3) := by decide +kernel
theorem dX7_isOrder_37 : decode cX7_isOrder 37 = .ok (.if_icmp .ne 7, 3) := by decide +kernel
theorem dX7_isOrder_40 : decode cX7_isOrder 40 = .ok (.iconst 1, 1) := by decide +kernel
theorem dX7_isOrder_41 : decode cX7_isOrder 41 = .ok (.goto 4, 3) := by decide +kernel
theorem dX7_isOrder_44 : decode cX7_isOrder 44 = .ok (.iconst 0, 1) := by decide +kernel
theorem dX7_isOrder_45 : decode cX7_isOrder 45 = .ok (.ireturn, 1) := by decide +kernel
theorem dX7_flow_0 : decode cX7_flow 0 = .ok (.iconst 0, 1) := by decide +kernel
theorem dX7_flow_1 : decode cX7_flow 1 = .ok (.istore_n 3, 1) := by decide +kernel
theorem dX7_flow_2 : decode cX7_flow 2 = .ok (.aload_n 0, 1) := by decide +kernel
theorem dX7_flow_3 : decode cX7_flow 3 = .ok (.getfield 56, 3) := by decide +kernel
theorem dX7_flow_6 : decode cX7_flow 6 = .ok (.invokevirtual 193, 3) := by decide +kernel
theorem dX7_flow_9 : decode cX7_flow 9 = .ok (.iconst 0, 1) := by decide +kernel
theorem dX7_flow_10 : decode cX7_flow 10 = .ok (.istore 4, 2) := by decide +kernel
theorem dX7_flow_12 : decode cX7_flow 12 = .ok (.iload 4, 2) := by decide +kernel
theorem dX7_flow_14 : decode cX7_flow 14 = .ok (.iload_n 2, 1) := by decide +kernel
theorem dX7_flow_15 : decode cX7_flow 15 = .ok (.if_icmp .ge 48, 3) := by decide +kernel
theorem dX7_flow_18 : decode cX7_flow 18 = .ok (.iload_n 1, 1) := by decide +kernel
theorem dX7_flow_19 : decode cX7_flow 19 = .ok (.iload_n 2, 1) := by decide +kernel
theorem dX7_flow_20 : decode cX7_flow 20 = .ok (.iload 4, 2) := by decide +kernel
theorem dX7_flow_22 : decode cX7_flow 22 = .ok (.invokestatic 189, 3) := by decide +kernel
theorem dX7_flow_25 : decode cX7_flow 25 = .ok (.istore 5, 2) := by decide +kernel
theorem dX7_flow_27 : decode cX7_flow 27 = .ok (.aload_n 0, 1) := by decide +kernel
theorem dX7_flow_28 : decode cX7_flow 28 = .ok (.getfield 56, 3) := by decide +kernel
theorem dX7_flow_31 : decode cX7_flow 31 = .ok (.aload_n 0, 1) := by decide +kernel
theorem dX7_flow_32 : decode cX7_flow 32 = .ok (.getfield 19, 3) := by decide +kernel
theorem dX7_flow_35 : decode cX7_flow 35 = .ok (.getfield 113, 3) := by decide +kernel
theorem dX7_flow_38 : decode cX7_flow 38 = .ok (.iload 5, 2) := by decide +kernel
theorem dX7_flow_40 : decode cX7_flow 40 = .ok (.aaload, 1) := by decide +kernel
theorem dX7_flow_41 : decode cX7_flow 41 = .ok (.getfield 125, 3) := by decide +kernel
theorem dX7_flow_44 : decode cX7_flow 44 = .ok (.invokevirtual 194, 3) := by decide +kernel
theorem dX7_flow_47 : decode cX7_flow 47 = .ok (.bipush 10, 2) := by decide +kernel
theorem dX7_flow_49 : decode cX7_flow 49 = .ok (.iload_n 3, 1) := by decide +kernel
theorem dX7_flow_50 : decode cX7_flow 50 = .ok (.imul, 1) := by decide +kernel
theorem dX7_flow_51 : decode cX7_flow 51 = .ok (.iload 5, 2) := by decide +kernel
theorem dX7_flow_53 : decode cX7_flow 53 = .ok (.iadd, 1) := by decide +kernel
theorem dX7_flow_54 : decode cX7_flow 54 = .ok (.iconst 1, 1) := by decide +kernel
theorem dX7_flow_55 : decode cX7_flow 55 = .ok (.iadd, 1) := by decide +kernel
theorem dX7_flow_56 : decode cX7_flow 56 = .ok (.istore_n 3, 1) := by decide +kernel
theorem dX7_flow_57 : decode cX7_flow 57 = .ok (.iinc 4 1, 3) := by decide +kernel
theorem dX7_flow_60 : decode cX7_flow 60 = .ok (.goto (-48), 3) := by decide +kernel
theorem dX7_flow_63 : decode cX7_flow 63 = .ok (.iload_n 3, 1) := by decide +kernel
theorem dX7_flow_64 : decode cX7_flow 64 = .ok (.ireturn, 1) := by decide +kernel
theorem dX7_figureOf_0 : decode cX7_figureOf 0 = .ok (.iload_n 0, 1) := by decide +kernel
theorem dX7_figureOf_1 : decode cX7_figureOf 1 = .ok (.iconst 2, 1) := by decide +kernel
theorem dX7_figureOf_2 : decode cX7_figureOf 2 = .ok (.iload_n 1, 1) := by decide +kernel
theorem dX7_figureOf_3 : decode cX7_figureOf 3 = .ok (.iconst 1, 1) := by decide +kernel
theorem dX7_figureOf_4 : decode cX7_figureOf 4 = .ok (.isub, 1) := by decide +kernel
theorem dX7_figureOf_5 : decode cX7_figureOf 5 = .ok (.iload_n 2, 1) := by decide +kernel
theorem dX7_figureOf_6 : decode cX7_figureOf 6 = .ok (.isub, 1) := by decide +kernel
theorem dX7_figureOf_7 : decode cX7_figureOf 7 = .ok (.imul, 1) := by decide +kernel
theorem dX7_figureOf_8 : decode cX7_figureOf 8 = .ok (.ishr, 1) := by decide +kernel
theorem dX7_figureOf_9 : decode cX7_figureOf 9 = .ok (.iconst 3, 1) := by decide +kernel
theorem dX7_figureOf_10 : decode cX7_figureOf 10 = .ok (.iand, 1) := by decide +kernel
theorem dX7_figureOf_11 : decode cX7_figureOf 11 = .ok (.ireturn, 1) := by decide +kernel
theorem dX7_covered_0 : decode cX7_covered 0 = .ok (.aload_n 0, 1) := by decide +kernel
theorem dX7_covered_1 : decode cX7_covered 1 = .ok (.invokevirtual 198, 3) := by decide +kernel
theorem dX7_covered_4 : decode cX7_covered 4 = .ok (.iconst 0, 1) := by decide +kernel
theorem dX7_covered_5 : decode cX7_covered 5 = .ok (.istore_n 1, 1) := by decide +kernel
theorem dX7_covered_6 : decode cX7_covered 6 = .ok (.iconst 0, 1) := by decide +kernel
theorem dX7_covered_7 : decode cX7_covered 7 = .ok (.istore_n 2, 1) := by decide +kernel
theorem dX7_covered_8 : decode cX7_covered 8 = .ok (.iload_n 2, 1) := by decide +kernel
theorem dX7_covered_9 : decode cX7_covered 9 = .ok (.iconst 4, 1) := by decide +kernel
theorem dX7_covered_10 : decode cX7_covered 10 = .ok (.if_icmp .ge 18, 3) := by decide +kernel
theorem dX7_covered_13 : decode cX7_covered 13 = .ok (.iload_n 1, 1) := by decide +kernel
theorem dX7_covered_14 : decode cX7_covered 14 = .ok (.aload_n 0, 1) := by decide +kernel
theorem dX7_covered_15 : decode cX7_covered 15 = .ok (.getfield 62, 3) := by decide +kernel
theorem dX7_covered_18 : decode cX7_covered 18 = .ok (.iload_n 2, 1) := by decide +kernel
theorem dX7_covered_19 : decode cX7_covered 19 = .ok (.iaload, 1) := by decide +kernel
theorem dX7_covered_20 : decode cX7_covered 20 = .ok (.ior, 1) := by decide +kernel
theorem dX7_covered_21 : decode cX7_covered 21 = .ok (.istore_n 1, 1) := by decide +kernel
theorem dX7_covered_22 : decode cX7_covered 22 = .ok (.iinc 2 1, 3) := by decide +kernel
theorem dX7_covered_25 : decode cX7_covered 25 = .ok (.goto (-17), 3) := by decide +kernel
theorem dX7_covered_28 : decode cX7_covered 28 = .ok (.iload_n 1, 1) := by decide +kernel
theorem dX7_covered_29 : decode cX7_covered 29 = .ok (.ireturn, 1) := by decide +kernel
theorem dX7_findCovers_0 : decode cX7_findCovers 0 = .ok (.iconst 0, 1) := by decide +kernel
theorem dX7_findCovers_1 : decode cX7_findCovers 1 = .ok (.istore_n 1, 1) := by decide +kernel
theorem dX7_findCovers_2 : decode cX7_findCovers 2 = .ok (.iload_n 1, 1) := by decide +kernel
theorem dX7_findCovers_3 : decode cX7_findCovers 3 = .ok (.iconst 4, 1) := by decide +kernel
theorem dX7_findCovers_4 : decode cX7_findCovers 4 = .ok (.if_icmp .ge 49, 3) := by decide +kernel
theorem dX7_findCovers_7 : decode cX7_findCovers 7 = .ok (.aload_n 0, 1) := by decide +kernel
theorem dX7_findCovers_8 : decode cX7_findCovers 8 = .ok (.getfield 62, 3) := by decide +kernel
theorem dX7_findCovers_11 : decode cX7_findCovers 11 = .ok (.iload_n 1, 1) := by decide +kernel
theorem dX7_findCovers_12 : decode cX7_findCovers 12 = .ok (.aload_n 0, 1) := by decide +kernel
theorem dX7_findCovers_13 : decode cX7_findCovers 13 = .ok (.getfield 19, 3) := by decide +kernel
theorem dX7_findCovers_16 : decode cX7_findCovers 16 = .ok (.iload_n 1, 1) := by decide +kernel
theorem dX7_findCovers_17 : decode cX7_findCovers 17 = .ok (.invokevirtual 109, 3) := by decide +kernel
theorem dX7_findCovers_20 : decode cX7_findCovers 20 = .ok (.ifCond .eq 25, 3) := by decide +kernel
theorem dX7_findCovers_23 : decode cX7_findCovers 23 = .ok (.aload_n 0, 1) := by decide +kernel
theorem dX7_findCovers_24 : decode cX7_findCovers 24 = .ok (.getfield 52, 3) := by decide +kernel
theorem dX7_findCovers_27 : decode cX7_findCovers 27 = .ok (.aload_n 0, 1) := by decide +kernel
theorem dX7_findCovers_28 : decode cX7_findCovers 28 = .ok (.getfield 19, 3) := by decide +kernel
theorem dX7_findCovers_31 : decode cX7_findCovers 31 = .ok (.getfield 113, 3) := by decide +kernel
theorem dX7_findCovers_34 : decode cX7_findCovers 34 = .ok (.iload_n 1, 1) := by decide +kernel
theorem dX7_findCovers_35 : decode cX7_findCovers 35 = .ok (.aaload, 1) := by decide +kernel
theorem dX7_findCovers_36 : decode cX7_findCovers 36 = .ok (.getfield 125, 3) := by decide +kernel
theorem dX7_findCovers_39 : decode cX7_findCovers 39 = .ok (.invokevirtual 201, 3) := by decide +kernel
theorem dX7_findCovers_42 : decode cX7_findCovers 42 = .ok (.goto 4, 3) := by decide +kernel
theorem dX7_findCovers_45 : decode cX7_findCovers 45 = .ok (.iconst 0, 1) := by decide +kernel
theorem dX7_findCovers_46 : decode cX7_findCovers 46 = .ok (.iastore, 1) := by decide +kernel
theorem dX7_findCovers_47 : decode cX7_findCovers 47 = .ok (.iinc 1 1, 3) := by decide +kernel
theorem dX7_findCovers_50 : decode cX7_findCovers 50 = .ok (.goto (-48), 3) := by decide +kernel
theorem dX7_findCovers_53 : decode cX7_findCovers 53 = .ok (.return_, 1) := by decide +kernel
theorem dX7_wholeBed_0 : decode cX7_wholeBed 0 = .ok (.iconst 1, 1) := by decide +kernel
theorem dX7_wholeBed_1 : decode cX7_wholeBed 1 = .ok (.aload_n 0, 1) := by decide +kernel
theorem dX7_wholeBed_2 : decode cX7_wholeBed 2 = .ok (.getfield 52, 3) := by decide +kernel
theorem dX7_wholeBed_5 : decode cX7_wholeBed 5 = .ok (.getfield 102, 3) := by decide +kernel
theorem dX7_wholeBed_8 : decode cX7_wholeBed 8 = .ok (.ishl, 1) := by decide +kernel
theorem dX7_wholeBed_9 : decode cX7_wholeBed 9 = .ok (.iconst 1, 1) := by decide +kernel
theorem dX7_wholeBed_10 : decode cX7_wholeBed 10 = .ok (.isub, 1) := by decide +kernel
theorem dX7_wholeBed_11 : decode cX7_wholeBed 11 = .ok (.ireturn, 1) := by decide +kernel
theorem dX7_ways_0 : decode cX7_ways 0 = .ok (.aload_n 0, 1) := by decide +kernel
theorem dX7_ways_1 : decode cX7_ways 1 = .ok (.getfield 19, 3) := by decide +kernel
theorem dX7_ways_4 : decode cX7_ways 4 = .ok (.aload_n 0, 1) := by decide +kernel
theorem dX7_ways_5 : decode cX7_ways 5 = .ok (.getfield 52, 3) := by decide +kernel
theorem dX7_ways_8 : decode cX7_ways 8 = .ok (.iconst 0, 1) := by decide +kernel
theorem dX7_ways_9 : decode cX7_ways 9 = .ok (.iconst 0, 1) := by decide +kernel
theorem dX7_ways_10 : decode cX7_ways 10 = .ok (.invokestatic 204, 3) := by decide +kernel
theorem dX7_ways_13 : decode cX7_ways 13 = .ok (.ireturn, 1) := by decide +kernel
theorem dX7_waysFrom_0 : decode cX7_waysFrom 0 = .ok (.iload_n 2, 1) := by decide +kernel
theorem dX7_waysFrom_1 : decode cX7_waysFrom 1 = .ok (.iconst 4, 1) := by decide +kernel
theorem dX7_waysFrom_2 : decode cX7_waysFrom 2 = .ok (.if_icmp .lt 20, 3) := by decide +kernel
theorem dX7_waysFrom_5 : decode cX7_waysFrom 5 = .ok (.iload_n 3, 1) := by decide +kernel
theorem dX7_waysFrom_6 : decode cX7_waysFrom 6 = .ok (.invokestatic 177, 3) := by decide +kernel
theorem dX7_waysFrom_9 : decode cX7_waysFrom 9 = .ok (.aload_n 1, 1) := by decide +kernel
theorem dX7_waysFrom_10 : decode cX7_waysFrom 10 = .ok (.getfield 102, 3) := by decide +kernel
theorem dX7_waysFrom_13 : decode cX7_waysFrom 13 = .ok (.if_icmp .ne 7, 3) := by decide +kernel
theorem dX7_waysFrom_16 : decode cX7_waysFrom 16 = .ok (.iconst 1, 1) := by decide +kernel
theorem dX7_waysFrom_17 : decode cX7_waysFrom 17 = .ok (.goto 4, 3) := by decide +kernel
theorem dX7_waysFrom_20 : decode cX7_waysFrom 20 = .ok (.iconst 0, 1) := by decide +kernel
theorem dX7_waysFrom_21 : decode cX7_waysFrom 21 = .ok (.ireturn, 1) := by decide +kernel
theorem dX7_waysFrom_22 : decode cX7_waysFrom 22 = .ok (.aload_n 0, 1) := by decide +kernel
theorem dX7_waysFrom_23 : decode cX7_waysFrom 23 = .ok (.iload_n 2, 1) := by decide +kernel
theorem dX7_waysFrom_24 : decode cX7_waysFrom 24 = .ok (.invokevirtual 109, 3) := by decide +kernel
theorem dX7_waysFrom_27 : decode cX7_waysFrom 27 = .ok (.ifCond .ne 13, 3) := by decide +kernel
theorem dX7_waysFrom_30 : decode cX7_waysFrom 30 = .ok (.aload_n 0, 1) := by decide +kernel
theorem dX7_waysFrom_31 : decode cX7_waysFrom 31 = .ok (.aload_n 1, 1) := by decide +kernel
theorem dX7_waysFrom_32 : decode cX7_waysFrom 32 = .ok (.iload_n 2, 1) := by decide +kernel
theorem dX7_waysFrom_33 : decode cX7_waysFrom 33 = .ok (.iconst 1, 1) := by decide +kernel
theorem dX7_waysFrom_34 : decode cX7_waysFrom 34 = .ok (.iadd, 1) := by decide +kernel
theorem dX7_waysFrom_35 : decode cX7_waysFrom 35 = .ok (.iload_n 3, 1) := by decide +kernel
theorem dX7_waysFrom_36 : decode cX7_waysFrom 36 = .ok (.invokestatic 204, 3) := by decide +kernel
theorem dX7_waysFrom_39 : decode cX7_waysFrom 39 = .ok (.ireturn, 1) := by decide +kernel
theorem dX7_waysFrom_40 : decode cX7_waysFrom 40 = .ok (.aload_n 1, 1) := by decide +kernel
theorem dX7_waysFrom_41 : decode cX7_waysFrom 41 = .ok (.getfield 102, 3) := by decide +kernel
theorem dX7_waysFrom_44 : decode cX7_waysFrom 44 = .ok (.iload_n 3, 1) := by decide +kernel
theorem dX7_waysFrom_45 : decode cX7_waysFrom 45 = .ok (.invokestatic 177, 3) := by decide +kernel
theorem dX7_waysFrom_48 : decode cX7_waysFrom 48 = .ok (.isub, 1) := by decide +kernel
theorem dX7_waysFrom_49 : decode cX7_waysFrom 49 = .ok (.aload_n 0, 1) := by decide +kernel
theorem dX7_waysFrom_50 : decode cX7_waysFrom 50 = .ok (.iload_n 2, 1) := by decide +kernel
theorem dX7_waysFrom_51 : decode cX7_waysFrom 51 = .ok (.invokevirtual 208, 3) := by decide +kernel
theorem dX7_waysFrom_54 : decode cX7_waysFrom 54 = .ok (.if_icmp .le 5, 3) := by decide +kernel
theorem dX7_waysFrom_57 : decode cX7_waysFrom 57 = .ok (.iconst 0, 1) := by decide +kernel
theorem dX7_waysFrom_58 : decode cX7_waysFrom 58 = .ok (.ireturn, 1) := by decide +kernel
theorem dX7_waysFrom_59 : decode cX7_waysFrom 59 = .ok (.aload_n 0, 1) := by decide +kernel
theorem dX7_waysFrom_60 : decode cX7_waysFrom 60 = .ok (.getfield 113, 3) := by decide +kernel
theorem dX7_waysFrom_63 : decode cX7_waysFrom 63 = .ok (.iload_n 2, 1) := by decide +kernel
theorem dX7_waysFrom_64 : decode cX7_waysFrom 64 = .ok (.aaload, 1) := by decide +kernel
theorem dX7_waysFrom_65 : decode cX7_waysFrom 65 = .ok (.getfield 125, 3) := by decide +kernel
theorem dX7_waysFrom_68 : decode cX7_waysFrom 68 = .ok (.astore 4, 2) := by decide +kernel
theorem dX7_waysFrom_70 : decode cX7_waysFrom 70 = .ok (.iconst 0, 1) := by decide +kernel
theorem dX7_waysFrom_71 : decode cX7_waysFrom 71 = .ok (.istore 5, 2) := by decide +kernel
theorem dX7_waysFrom_73 : decode cX7_waysFrom 73 = .ok (.iconst 0, 1) := by decide +kernel
theorem dX7_waysFrom_74 : decode cX7_waysFrom 74 = .ok (.istore 6, 2) := by decide +kernel
theorem dX7_waysFrom_76 : decode cX7_waysFrom 76 = .ok (.iload 6, 2) := by decide +kernel
theorem dX7_waysFrom_78 : decode cX7_waysFrom 78 = .ok (.aload 4, 2) := by decide +kernel
theorem dX7_waysFrom_80 : decode cX7_waysFrom 80 = .ok (.getfield 102, 3) := by decide +kernel
theorem dX7_waysFrom_83 : decode cX7_waysFrom 83 = .ok (.iadd, 1) := by decide +kernel
theorem dX7_waysFrom_84 : decode cX7_waysFrom 84 = .ok (.aload_n 1, 1) := by decide +kernel
theorem dX7_waysFrom_85 : decode cX7_waysFrom 85 = .ok (.getfield 102, 3) := by decide +kernel
theorem dX7_waysFrom_88 : decode cX7_waysFrom 88 = .ok (.if_icmp .gt 42, 3) := by decide +kernel
theorem dX7_waysFrom_91 : decode cX7_waysFrom 91 = .ok (.aload_n 1, 1) := by decide +kernel
theorem dX7_waysFrom_92 : decode cX7_waysFrom 92 = .ok (.iload 6, 2) := by decide +kernel
theorem dX7_waysFrom_94 : decode cX7_waysFrom 94 = .ok (.aload 4, 2) := by decide +kernel
theorem dX7_waysFrom_96 : decode cX7_waysFrom 96 = .ok (.invokevirtual 211, 3) := by decide +kernel
theorem dX7_waysFrom_99 : decode cX7_waysFrom 99 = .ok (.ifCond .eq 25, 3) := by decide +kernel
theorem dX7_waysFrom_102 : decode cX7_waysFrom 102 = .ok (.iload 5, 2) := by decide +kernel
theorem dX7_waysFrom_104 : decode cX7_waysFrom 104 = .ok (.aload_n 0, 1) := by decide +kernel
theorem dX7_waysFrom_105 : decode cX7_waysFrom 105 = .ok (.aload_n 1, 1) := by decide +kernel
theorem dX7_waysFrom_106 : decode cX7_waysFrom 106 = .ok (.iload_n 2, 1) := by decide +kernel
theorem dX7_waysFrom_107 : decode cX7_waysFrom 107 = .ok (.iconst 1, 1) := by decide +kernel
theorem dX7_waysFrom_108 : decode cX7_waysFrom 108 = .ok (.iadd, 1) := by decide +kernel
theorem dX7_waysFrom_109 : decode cX7_waysFrom 109 = .ok (.iload_n 3, 1) := by decide +kernel
theorem dX7_waysFrom_110 : decode cX7_waysFrom 110 = .ok (.aload 4, 2) := by decide +kernel
theorem dX7_waysFrom_112 : decode cX7_waysFrom 112 = .ok (.iload 6, 2) := by decide +kernel
theorem dX7_waysFrom_114 : decode cX7_waysFrom 114 = .ok (.invokevirtual 215, 3) := by decide +kernel
theorem dX7_waysFrom_117 : decode cX7_waysFrom 117 = .ok (.ior, 1) := by decide +kernel
theorem dX7_waysFrom_118 : decode cX7_waysFrom 118 = .ok (.invokestatic 204, 3) := by decide +kernel
theorem dX7_waysFrom_121 : decode cX7_waysFrom 121 = .ok (.iadd, 1) := by decide +kernel
theorem dX7_waysFrom_122 : decode cX7_waysFrom 122 = .ok (.istore 5, 2) := by decide +kernel
theorem dX7_waysFrom_124 : decode cX7_waysFrom 124 = .ok (.iinc 6 1, 3) := by decide +kernel
theorem dX7_waysFrom_127 : decode cX7_waysFrom 127 = .ok (.goto (-51), 3) := by decide +kernel
theorem dX7_waysFrom_130 : decode cX7_waysFrom 130 = .ok (.iload 5, 2) := by decide +kernel
theorem dX7_waysFrom_132 : decode cX7_waysFrom 132 = .ok (.ireturn, 1) := by decide +kernel
theorem dX7_judge_0 : decode cX7_judge 0 = .ok (.iload_n 1, 1) := by decide +kernel
theorem dX7_judge_1 : decode cX7_judge 1 = .ok (.iconst 1, 1) := by decide +kernel
theorem dX7_judge_2 : decode cX7_judge 2 = .ok (.if_icmp .lt 8, 3) := by decide +kernel
theorem dX7_judge_5 : decode cX7_judge 5 = .ok (.iload_n 1, 1) := by decide +kernel
theorem dX7_judge_6 : decode cX7_judge 6 = .ok (.iconst 4, 1) := by decide +kernel
theorem dX7_judge_7 : decode cX7_judge 7 = .ok (.if_icmp .le 6, 3) := by decide +kernel
theorem dX7_judge_10 : decode cX7_judge 10 = .ok (.bipush (-2), 2) := by decide +kernel
theorem dX7_judge_12 : decode cX7_judge 12 = .ok (.ireturn, 1) := by decide +kernel
theorem dX7_judge_13 : decode cX7_judge 13 = .ok (.lconst 1, 1) := by decide +kernel
theorem dX7_judge_14 : decode cX7_judge 14 = .ok (.lstore 4, 2) := by decide +kernel
theorem dX7_judge_16 : decode cX7_judge 16 = .ok (.iconst 0, 1) := by decide +kernel
theorem dX7_judge_17 : decode cX7_judge 17 = .ok (.istore 6, 2) := by decide +kernel
theorem dX7_judge_19 : decode cX7_judge 19 = .ok (.iload 6, 2) := by decide +kernel
theorem dX7_judge_21 : decode cX7_judge 21 = .ok (.iload_n 1, 1) := by decide +kernel
theorem dX7_judge_22 : decode cX7_judge 22 = .ok (.if_icmp .ge 17, 3) := by decide +kernel
theorem dX7_judge_25 : decode cX7_judge 25 = .ok (.lload 4, 2) := by decide +kernel
theorem dX7_judge_27 : decode cX7_judge 27 = .ok (.ldc2_w 218, 3) := by decide +kernel
theorem dX7_judge_30 : decode cX7_judge 30 = .ok (.lmul, 1) := by decide +kernel
theorem dX7_judge_31 : decode cX7_judge 31 = .ok (.lstore 4, 2) := by decide +kernel
theorem dX7_judge_33 : decode cX7_judge 33 = .ok (.iinc 6 1, 3) := by decide +kernel
theorem dX7_judge_36 : decode cX7_judge 36 = .ok (.goto (-17), 3) := by decide +kernel
theorem dX7_judge_39 : decode cX7_judge 39 = .ok (.lload_n 2, 1) := by decide +kernel
theorem dX7_judge_40 : decode cX7_judge 40 = .ok (.lconst 0, 1) := by decide +kernel
theorem dX7_judge_41 : decode cX7_judge 41 = .ok (.lcmp, 1) := by decide +kernel
theorem dX7_judge_42 : decode cX7_judge 42 = .ok (.ifCond .lt 10, 3) := by decide +kernel
theorem dX7_judge_45 : decode cX7_judge 45 = .ok (.lload_n 2, 1) := by decide +kernel
theorem dX7_judge_46 : decode cX7_judge 46 = .ok (.lload 4, 2) := by decide +kernel
theorem dX7_judge_48 : decode cX7_judge 48 = .ok (.lcmp, 1) := by decide +kernel
theorem dX7_judge_49 : decode cX7_judge 49 = .ok (.ifCond .lt 6, 3) := by decide +kernel
theorem dX7_judge_52 : decode cX7_judge 52 = .ok (.bipush (-2), 2) := by decide +kernel
theorem dX7_judge_54 : decode cX7_judge 54 = .ok (.ireturn, 1) := by decide +kernel
theorem dX7_judge_55 : decode cX7_judge 55 = .ok (.aload_n 0, 1) := by decide +kernel
theorem dX7_judge_56 : decode cX7_judge 56 = .ok (.getfield 23, 3) := by decide +kernel
theorem dX7_judge_59 : decode cX7_judge 59 = .ok (.aload_n 0, 1) := by decide +kernel
theorem dX7_judge_60 : decode cX7_judge 60 = .ok (.getfield 19, 3) := by decide +kernel
theorem dX7_judge_63 : decode cX7_judge 63 = .ok (.invokevirtual 142, 3) := by decide +kernel
theorem dX7_judge_66 : decode cX7_judge 66 = .ok (.lload_n 2, 1) := by decide +kernel
theorem dX7_judge_67 : decode cX7_judge 67 = .ok (.lstore 6, 2) := by decide +kernel
theorem dX7_judge_69 : decode cX7_judge 69 = .ok (.iconst 0, 1) := by decide +kernel
theorem dX7_judge_70 : decode cX7_judge 70 = .ok (.istore 8, 2) := by decide +kernel
theorem dX7_judge_72 : decode cX7_judge 72 = .ok (.iload 8, 2) := by decide +kernel
theorem dX7_judge_74 : decode cX7_judge 74 = .ok (.iload_n 1, 1) := by decide +kernel
theorem dX7_judge_75 : decode cX7_judge 75 = .ok (.if_icmp .ge 44, 3) := by decide +kernel
theorem dX7_judge_78 : decode cX7_judge 78 = .ok (.lload 4, 2) := by decide +kernel
theorem dX7_judge_80 : decode cX7_judge 80 = .ok (.ldc2_w 218, 3) := by decide +kernel
theorem dX7_judge_83 : decode cX7_judge 83 = .ok (.ldiv, 1) := by decide +kernel
theorem dX7_judge_84 : decode cX7_judge 84 = .ok (.lconst 1, 1) := by decide +kernel
theorem dX7_judge_85 : decode cX7_judge 85 = .ok (.invokestatic 220, 3) := by decide +kernel
theorem dX7_judge_88 : decode cX7_judge 88 = .ok (.lstore 4, 2) := by decide +kernel
theorem dX7_judge_90 : decode cX7_judge 90 = .ok (.aload_n 0, 1) := by decide +kernel
theorem dX7_judge_91 : decode cX7_judge 91 = .ok (.lload 6, 2) := by decide +kernel
theorem dX7_judge_93 : decode cX7_judge 93 = .ok (.lload 4, 2) := by decide +kernel
theorem dX7_judge_95 : decode cX7_judge 95 = .ok (.ldiv, 1) := by decide +kernel
theorem dX7_judge_96 : decode cX7_judge 96 = .ok (.l2i, 1) := by decide +kernel
theorem dX7_judge_97 : decode cX7_judge 97 = .ok (.invokevirtual 226, 3) := by decide +kernel
theorem dX7_judge_100 : decode cX7_judge 100 = .ok (.ifCond .ne 6, 3) := by decide +kernel
theorem dX7_judge_103 : decode cX7_judge 103 = .ok (.iload 8, 2) := by decide +kernel
theorem dX7_judge_105 : decode cX7_judge 105 = .ok (.ireturn, 1) := by decide +kernel
theorem dX7_judge_106 : decode cX7_judge 106 = .ok (.lload 6, 2) := by decide +kernel
theorem dX7_judge_108 : decode cX7_judge 108 = .ok (.lload 4, 2) := by decide +kernel
theorem dX7_judge_110 : decode cX7_judge 110 = .ok (.lrem, 1) := by decide +kernel
theorem dX7_judge_111 : decode cX7_judge 111 = .ok (.lstore 6, 2) := by decide +kernel
theorem dX7_judge_113 : decode cX7_judge 113 = .ok (.iinc 8 1, 3) := by decide +kernel
theorem dX7_judge_116 : decode cX7_judge 116 = .ok (.goto (-44), 3) := by decide +kernel
theorem dX7_judge_119 : decode cX7_judge 119 = .ok (.bipush (-9), 2) := by decide +kernel
theorem dX7_judge_121 : decode cX7_judge 121 = .ok (.ireturn, 1) := by decide +kernel
theorem dX7_canBe_0 : decode cX7_canBe 0 = .ok (.iload_n 1, 1) := by decide +kernel
theorem dX7_canBe_1 : decode cX7_canBe 1 = .ok (.bipush 10, 2) := by decide +kernel
theorem dX7_canBe_3 : decode cX7_canBe 3 = .ok (.idiv, 1) := by decide +kernel
theorem dX7_canBe_4 : decode cX7_canBe 4 = .ok (.bipush 10, 2) := by decide +kernel
theorem dX7_canBe_6 : decode cX7_canBe 6 = .ok (.irem, 1) := by decide +kernel
theorem dX7_canBe_7 : decode cX7_canBe 7 = .ok (.istore_n 2, 1) := by decide +kernel
theorem dX7_canBe_8 : decode cX7_canBe 8 = .ok (.iload_n 1, 1) := by decide +kernel
theorem dX7_canBe_9 : decode cX7_canBe 9 = .ok (.bipush 10, 2) := by decide +kernel
theorem dX7_canBe_11 : decode cX7_canBe 11 = .ok (.irem, 1) := by decide +kernel
theorem dX7_canBe_12 : decode cX7_canBe 12 = .ok (.istore_n 3, 1) := by decide +kernel
theorem dX7_canBe_13 : decode cX7_canBe 13 = .ok (.iload_n 1, 1) := by decide +kernel
theorem dX7_canBe_14 : decode cX7_canBe 14 = .ok (.bipush 100, 2) := by decide +kernel
theorem dX7_canBe_16 : decode cX7_canBe 16 = .ok (.idiv, 1) := by decide +kernel
theorem dX7_canBe_17 : decode cX7_canBe 17 = .ok (.tableswitch 222 0 6 #[43, 63, 81, 102, 123, 141, 177], 43) := by decide +kernel
theorem dX7_canBe_60 : decode cX7_canBe 60 = .ok (.iload_n 1, 1) := by decide +kernel
theorem dX7_canBe_61 : decode cX7_canBe 61 = .ok (.ifCond .ne 17, 3) := by decide +kernel
theorem dX7_canBe_64 : decode cX7_canBe 64 = .ok (.aload_n 0, 1) := by decide +kernel
theorem dX7_canBe_65 : decode cX7_canBe 65 = .ok (.getfield 23, 3) := by decide +kernel
theorem dX7_canBe_68 : decode cX7_canBe 68 = .ok (.invokevirtual 145, 3) := by decide +kernel
theorem dX7_canBe_71 : decode cX7_canBe 71 = .ok (.ifCond .lt 7, 3) := by decide +kernel
theorem dX7_canBe_74 : decode cX7_canBe 74 = .ok (.iconst 1, 1) := by decide +kernel
theorem dX7_canBe_75 : decode cX7_canBe 75 = .ok (.goto 4, 3) := by decide +kernel
theorem dX7_canBe_78 : decode cX7_canBe 78 = .ok (.iconst 0, 1) := by decide +kernel
theorem dX7_canBe_79 : decode cX7_canBe 79 = .ok (.ireturn, 1) := by decide +kernel
theorem dX7_canBe_80 : decode cX7_canBe 80 = .ok (.aload_n 0, 1) := by decide +kernel
theorem dX7_canBe_81 : decode cX7_canBe 81 = .ok (.getfield 23, 3) := by decide +kernel
theorem dX7_canBe_84 : decode cX7_canBe 84 = .ok (.iload_n 2, 1) := by decide +kernel
theorem dX7_canBe_85 : decode cX7_canBe 85 = .ok (.iload_n 3, 1) := by decide +kernel
theorem dX7_canBe_86 : decode cX7_canBe 86 = .ok (.invokevirtual 151, 3) := by decide +kernel
theorem dX7_canBe_89 : decode cX7_canBe 89 = .ok (.ifCond .lt 7, 3) := by decide +kernel
theorem dX7_canBe_92 : decode cX7_canBe 92 = .ok (.iconst 1, 1) := by decide +kernel
theorem dX7_canBe_93 : decode cX7_canBe 93 = .ok (.goto 4, 3) := by decide +kernel
theorem dX7_canBe_96 : decode cX7_canBe 96 = .ok (.iconst 0, 1) := by decide +kernel
theorem dX7_canBe_97 : decode cX7_canBe 97 = .ok (.ireturn, 1) := by decide +kernel
theorem dX7_canBe_98 : decode cX7_canBe 98 = .ok (.iload_n 2, 1) := by decide +kernel
theorem dX7_canBe_99 : decode cX7_canBe 99 = .ok (.ifCond .ne 18, 3) := by decide +kernel
theorem dX7_canBe_102 : decode cX7_canBe 102 = .ok (.aload_n 0, 1) := by decide +kernel
theorem dX7_canBe_103 : decode cX7_canBe 103 = .ok (.getfield 23, 3) := by decide +kernel
theorem dX7_canBe_106 : decode cX7_canBe 106 = .ok (.iload_n 3, 1) := by decide +kernel
theorem dX7_canBe_107 : decode cX7_canBe 107 = .ok (.invokevirtual 155, 3) := by decide +kernel
theorem dX7_canBe_110 : decode cX7_canBe 110 = .ok (.ifCond .lt 7, 3) := by decide +kernel
theorem dX7_canBe_113 : decode cX7_canBe 113 = .ok (.iconst 1, 1) := by decide +kernel
theorem dX7_canBe_114 : decode cX7_canBe 114 = .ok (.goto 4, 3) := by decide +kernel
theorem dX7_canBe_117 : decode cX7_canBe 117 = .ok (.iconst 0, 1) := by decide +kernel
theorem dX7_canBe_118 : decode cX7_canBe 118 = .ok (.ireturn, 1) := by decide +kernel
theorem dX7_canBe_119 : decode cX7_canBe 119 = .ok (.iload_n 2, 1) := by decide +kernel
theorem dX7_canBe_120 : decode cX7_canBe 120 = .ok (.ifCond .ne 18, 3) := by decide +kernel
theorem dX7_canBe_123 : decode cX7_canBe 123 = .ok (.aload_n 0, 1) := by decide +kernel
theorem dX7_canBe_124 : decode cX7_canBe 124 = .ok (.getfield 23, 3) := by decide +kernel
theorem dX7_canBe_127 : decode cX7_canBe 127 = .ok (.iload_n 3, 1) := by decide +kernel
theorem dX7_canBe_128 : decode cX7_canBe 128 = .ok (.invokevirtual 158, 3) := by decide +kernel
theorem dX7_canBe_131 : decode cX7_canBe 131 = .ok (.ifCond .lt 7, 3) := by decide +kernel
theorem dX7_canBe_134 : decode cX7_canBe 134 = .ok (.iconst 1, 1) := by decide +kernel
theorem dX7_canBe_135 : decode cX7_canBe 135 = .ok (.goto 4, 3) := by decide +kernel
theorem dX7_canBe_138 : decode cX7_canBe 138 = .ok (.iconst 0, 1) := by decide +kernel
theorem dX7_canBe_139 : decode cX7_canBe 139 = .ok (.ireturn, 1) := by decide +kernel
theorem dX7_canBe_140 : decode cX7_canBe 140 = .ok (.aload_n 0, 1) := by decide +kernel
theorem dX7_canBe_141 : decode cX7_canBe 141 = .ok (.getfield 23, 3) := by decide +kernel
theorem dX7_canBe_144 : decode cX7_canBe 144 = .ok (.iload_n 2, 1) := by decide +kernel
theorem dX7_canBe_145 : decode cX7_canBe 145 = .ok (.iload_n 3, 1) := by decide +kernel
theorem dX7_canBe_146 : decode cX7_canBe 146 = .ok (.invokevirtual 161, 3) := by decide +kernel
theorem dX7_canBe_149 : decode cX7_canBe 149 = .ok (.ifCond .lt 7, 3) := by decide +kernel
theorem dX7_canBe_152 : decode cX7_canBe 152 = .ok (.iconst 1, 1) := by decide +kernel
theorem dX7_canBe_153 : decode cX7_canBe 153 = .ok (.goto 4, 3) := by decide +kernel
theorem dX7_canBe_156 : decode cX7_canBe 156 = .ok (.iconst 0, 1) := by decide +kernel
theorem dX7_canBe_157 : decode cX7_canBe 157 = .ok (.ireturn, 1) := by decide +kernel
theorem dX7_canBe_158 : decode cX7_canBe 158 = .ok (.aload_n 0, 1) := by decide +kernel
theorem dX7_canBe_159 : decode cX7_canBe 159 = .ok (.getfield 23, 3) := by decide +kernel
theorem dX7_canBe_162 : decode cX7_canBe 162 = .ok (.iload_n 2, 1) := by decide +kernel
theorem dX7_canBe_163 : decode cX7_canBe 163 = .ok (.invokevirtual 109, 3) := by decide +kernel
theorem dX7_canBe_166 : decode cX7_canBe 166 = .ok (.ifCond .eq 26, 3) := by decide +kernel
theorem dX7_canBe_169 : decode cX7_canBe 169 = .ok (.aload_n 0, 1) := by decide +kernel
theorem dX7_canBe_170 : decode cX7_canBe 170 = .ok (.getfield 23, 3) := by decide +kernel
theorem dX7_canBe_173 : decode cX7_canBe 173 = .ok (.getfield 113, 3) := by decide +kernel
theorem dX7_canBe_176 : decode cX7_canBe 176 = .ok (.iload_n 2, 1) := by decide +kernel
theorem dX7_canBe_177 : decode cX7_canBe 177 = .ok (.aaload, 1) := by decide +kernel
theorem dX7_canBe_178 : decode cX7_canBe 178 = .ok (.getfield 125, 3) := by decide +kernel
theorem dX7_canBe_181 : decode cX7_canBe 181 = .ok (.getfield 102, 3) := by decide +kernel
theorem dX7_canBe_184 : decode cX7_canBe 184 = .ok (.iload_n 3, 1) := by decide +kernel
theorem dX7_canBe_185 : decode cX7_canBe 185 = .ok (.if_icmp .lt 7, 3) := by decide +kernel
theorem dX7_canBe_188 : decode cX7_canBe 188 = .ok (.iconst 1, 1) := by decide +kernel
theorem dX7_canBe_189 : decode cX7_canBe 189 = .ok (.goto 4, 3) := by decide +kernel
theorem dX7_canBe_192 : decode cX7_canBe 192 = .ok (.iconst 0, 1) := by decide +kernel
theorem dX7_canBe_193 : decode cX7_canBe 193 = .ok (.ireturn, 1) := by decide +kernel
theorem dX7_canBe_194 : decode cX7_canBe 194 = .ok (.iload_n 2, 1) := by decide +kernel
theorem dX7_canBe_195 : decode cX7_canBe 195 = .ok (.ifCond .ne 42, 3) := by decide +kernel
theorem dX7_canBe_198 : decode cX7_canBe 198 = .ok (.aload_n 0, 1) := by decide +kernel
theorem dX7_canBe_199 : decode cX7_canBe 199 = .ok (.getfield 23, 3) := by decide +kernel
theorem dX7_canBe_202 : decode cX7_canBe 202 = .ok (.iload_n 3, 1) := by decide +kernel
theorem dX7_canBe_203 : decode cX7_canBe 203 = .ok (.invokevirtual 109, 3) := by decide +kernel
theorem dX7_canBe_206 : decode cX7_canBe 206 = .ok (.ifCond .eq 31, 3) := by decide +kernel
theorem dX7_canBe_209 : decode cX7_canBe 209 = .ok (.aload_n 0, 1) := by decide +kernel
theorem dX7_canBe_210 : decode cX7_canBe 210 = .ok (.getfield 52, 3) := by decide +kernel
theorem dX7_canBe_213 : decode cX7_canBe 213 = .ok (.aload_n 0, 1) := by decide +kernel
theorem dX7_canBe_214 : decode cX7_canBe 214 = .ok (.getfield 23, 3) := by decide +kernel
theorem dX7_canBe_217 : decode cX7_canBe 217 = .ok (.getfield 113, 3) := by decide +kernel
theorem dX7_canBe_220 : decode cX7_canBe 220 = .ok (.iload_n 3, 1) := by decide +kernel
theorem dX7_canBe_221 : decode cX7_canBe 221 = .ok (.aaload, 1) := by decide +kernel
theorem dX7_canBe_222 : decode cX7_canBe 222 = .ok (.getfield 125, 3) := by decide +kernel
theorem dX7_canBe_225 : decode cX7_canBe 225 = .ok (.invokevirtual 128, 3) := by decide +kernel
theorem dX7_canBe_228 : decode cX7_canBe 228 = .ok (.bipush (-9), 2) := by decide +kernel
theorem dX7_canBe_230 : decode cX7_canBe 230 = .ok (.if_icmp .eq 7, 3) := by decide +kernel
theorem dX7_canBe_233 : decode cX7_canBe 233 = .ok (.iconst 1, 1) := by decide +kernel
theorem dX7_canBe_234 : decode cX7_canBe 234 = .ok (.goto 4, 3) := by decide +kernel
theorem dX7_canBe_237 : decode cX7_canBe 237 = .ok (.iconst 0, 1) := by decide +kernel
theorem dX7_canBe_238 : decode cX7_canBe 238 = .ok (.ireturn, 1) := by decide +kernel
theorem dX7_canBe_239 : decode cX7_canBe 239 = .ok (.iconst 0, 1) := by decide +kernel
theorem dX7_canBe_240 : decode cX7_canBe 240 = .ok (.ireturn, 1) := by decide +kernel
theorem dX7_lay_0 : decode cX7_lay 0 = .ok (.iload_n 1, 1) := by decide +kernel
theorem dX7_lay_1 : decode cX7_lay 1 = .ok (.ifCond .lt 18, 3) := by decide +kernel
theorem dX7_lay_4 : decode cX7_lay 4 = .ok (.iload_n 1, 1) := by decide +kernel
theorem dX7_lay_5 : decode cX7_lay 5 = .ok (.bipush 12, 2) := by decide +kernel
theorem dX7_lay_7 : decode cX7_lay 7 = .ok (.if_icmp .ge 12, 3) := by decide +kernel
theorem dX7_lay_10 : decode cX7_lay 10 = .ok (.iload_n 2, 1) := by decide +kernel
theorem dX7_lay_11 : decode cX7_lay 11 = .ok (.ifCond .lt 8, 3) := by decide +kernel
theorem dX7_lay_14 : decode cX7_lay 14 = .ok (.iload_n 2, 1) := by decide +kernel
theorem dX7_lay_15 : decode cX7_lay 15 = .ok (.iconst 1, 1) := by decide +kernel
theorem dX7_lay_16 : decode cX7_lay 16 = .ok (.if_icmp .le 6, 3) := by decide +kernel
theorem dX7_lay_19 : decode cX7_lay 19 = .ok (.bipush (-2), 2) := by decide +kernel
theorem dX7_lay_21 : decode cX7_lay 21 = .ok (.ireturn, 1) := by decide +kernel
theorem dX7_lay_22 : decode cX7_lay 22 = .ok (.aload_n 0, 1) := by decide +kernel
theorem dX7_lay_23 : decode cX7_lay 23 = .ok (.getfield 43, 3) := by decide +kernel
theorem dX7_lay_26 : decode cX7_lay 26 = .ok (.iload_n 1, 1) := by decide +kernel
theorem dX7_lay_27 : decode cX7_lay 27 = .ok (.iload_n 2, 1) := by decide +kernel
theorem dX7_lay_28 : decode cX7_lay 28 = .ok (.iconst 1, 1) := by decide +kernel
theorem dX7_lay_29 : decode cX7_lay 29 = .ok (.if_icmp .ne 7, 3) := by decide +kernel
theorem dX7_lay_32 : decode cX7_lay 32 = .ok (.iconst 1, 1) := by decide +kernel
theorem dX7_lay_33 : decode cX7_lay 33 = .ok (.goto 4, 3) := by decide +kernel
theorem dX7_lay_36 : decode cX7_lay 36 = .ok (.iconst 0, 1) := by decide +kernel
theorem dX7_lay_37 : decode cX7_lay 37 = .ok (.invokevirtual 229, 3) := by decide +kernel
theorem dX7_lay_40 : decode cX7_lay 40 = .ok (.ireturn, 1) := by decide +kernel
theorem dX7_unlay_0 : decode cX7_unlay 0 = .ok (.aload_n 0, 1) := by decide +kernel
theorem dX7_unlay_1 : decode cX7_unlay 1 = .ok (.getfield 43, 3) := by decide +kernel
theorem dX7_unlay_4 : decode cX7_unlay 4 = .ok (.invokevirtual 232, 3) := by decide +kernel
theorem dX7_unlay_7 : decode cX7_unlay 7 = .ok (.ireturn, 1) := by decide +kernel
theorem dX7_which_0 : decode cX7_which 0 = .ok (.iload_n 1, 1) := by decide +kernel
theorem dX7_which_1 : decode cX7_which 1 = .ok (.ifCond .eq 11, 3) := by decide +kernel
theorem dX7_which_4 : decode cX7_which 4 = .ok (.iload_n 1, 1) := by decide +kernel
theorem dX7_which_5 : decode cX7_which 5 = .ok (.iconst 1, 1) := by decide +kernel
theorem dX7_which_6 : decode cX7_which 6 = .ok (.if_icmp .eq 6, 3) := by decide +kernel
theorem dX7_which_9 : decode cX7_which 9 = .ok (.bipush (-2), 2) := by decide +kernel
theorem dX7_which_11 : decode cX7_which 11 = .ok (.ireturn, 1) := by decide +kernel
theorem dX7_which_12 : decode cX7_which 12 = .ok (.iconst 0, 1) := by decide +kernel
theorem dX7_which_13 : decode cX7_which 13 = .ok (.istore_n 2, 1) := by decide +kernel
theorem dX7_which_14 : decode cX7_which 14 = .ok (.iconst 1, 1) := by decide +kernel
theorem dX7_which_15 : decode cX7_which 15 = .ok (.istore_n 3, 1) := by decide +kernel
theorem dX7_which_16 : decode cX7_which 16 = .ok (.iload_n 3, 1) := by decide +kernel
theorem dX7_which_17 : decode cX7_which 17 = .ok (.iconst 3, 1) := by decide +kernel
theorem dX7_which_18 : decode cX7_which 18 = .ok (.if_icmp .gt 73, 3) := by decide +kernel
theorem dX7_which_21 : decode cX7_which 21 = .ok (.iconst 0, 1) := by decide +kernel
theorem dX7_which_22 : decode cX7_which 22 = .ok (.istore 4, 2) := by decide +kernel
theorem dX7_which_24 : decode cX7_which 24 = .ok (.iload 4, 2) := by decide +kernel
theorem dX7_which_26 : decode cX7_which 26 = .ok (.iconst 1, 1) := by decide +kernel
theorem dX7_which_27 : decode cX7_which 27 = .ok (.iconst 2, 1) := by decide +kernel
theorem dX7_which_28 : decode cX7_which 28 = .ok (.iload_n 3, 1) := by decide +kernel
theorem dX7_which_29 : decode cX7_which 29 = .ok (.imul, 1) := by decide +kernel
theorem dX7_which_30 : decode cX7_which 30 = .ok (.ishl, 1) := by decide +kernel
theorem dX7_which_31 : decode cX7_which 31 = .ok (.if_icmp .ge 54, 3) := by decide +kernel
theorem dX7_which_34 : decode cX7_which 34 = .ok (.aload_n 0, 1) := by decide +kernel
theorem dX7_which_35 : decode cX7_which 35 = .ok (.iload 4, 2) := by decide +kernel
theorem dX7_which_37 : decode cX7_which 37 = .ok (.iload_n 3, 1) := by decide +kernel
theorem dX7_which_38 : decode cX7_which 38 = .ok (.invokevirtual 233, 3) := by decide +kernel
theorem dX7_which_41 : decode cX7_which 41 = .ok (.aload_n 0, 1) := by decide +kernel
theorem dX7_which_42 : decode cX7_which 42 = .ok (.getfield 43, 3) := by decide +kernel
theorem dX7_which_45 : decode cX7_which 45 = .ok (.aload_n 0, 1) := by decide +kernel
theorem dX7_which_46 : decode cX7_which 46 = .ok (.getfield 59, 3) := by decide +kernel
theorem dX7_which_49 : decode cX7_which 49 = .ok (.aload_n 0, 1) := by decide +kernel
theorem dX7_which_50 : decode cX7_which 50 = .ok (.getfield 52, 3) := by decide +kernel
theorem dX7_which_53 : decode cX7_which 53 = .ok (.invokevirtual 237, 3) := by decide +kernel
theorem dX7_which_56 : decode cX7_which 56 = .ok (.ifCond .ne 6, 3) := by decide +kernel
theorem dX7_which_59 : decode cX7_which 59 = .ok (.goto 20, 3) := by decide +kernel
theorem dX7_which_62 : decode cX7_which 62 = .ok (.iload_n 1, 1) := by decide +kernel
theorem dX7_which_63 : decode cX7_which 63 = .ok (.iconst 1, 1) := by decide +kernel
theorem dX7_which_64 : decode cX7_which 64 = .ok (.if_icmp .ne 12, 3) := by decide +kernel
theorem dX7_which_67 : decode cX7_which 67 = .ok (.aload_n 0, 1) := by decide +kernel
theorem dX7_which_68 : decode cX7_which 68 = .ok (.getfield 59, 3) := by decide +kernel
theorem dX7_which_71 : decode cX7_which 71 = .ok (.invokevirtual 132, 3) := by decide +kernel
theorem dX7_which_74 : decode cX7_which 74 = .ok (.l2i, 1) := by decide +kernel
theorem dX7_which_75 : decode cX7_which 75 = .ok (.ireturn, 1) := by decide +kernel
theorem dX7_which_76 : decode cX7_which 76 = .ok (.iinc 2 1, 3) := by decide +kernel
theorem dX7_which_79 : decode cX7_which 79 = .ok (.iinc 4 1, 3) := by decide +kernel
theorem dX7_which_82 : decode cX7_which 82 = .ok (.goto (-58), 3) := by decide +kernel
theorem dX7_which_85 : decode cX7_which 85 = .ok (.iinc 3 1, 3) := by decide +kernel
theorem dX7_which_88 : decode cX7_which 88 = .ok (.goto (-72), 3) := by decide +kernel
theorem dX7_which_91 : decode cX7_which 91 = .ok (.iload_n 1, 1) := by decide +kernel
theorem dX7_which_92 : decode cX7_which 92 = .ok (.ifCond .ne 7, 3) := by decide +kernel
theorem dX7_which_95 : decode cX7_which 95 = .ok (.iload_n 2, 1) := by decide +kernel
theorem dX7_which_96 : decode cX7_which 96 = .ok (.goto 5, 3) := by decide +kernel
theorem dX7_which_99 : decode cX7_which 99 = .ok (.bipush (-9), 2) := by decide +kernel
theorem dX7_which_101 : decode cX7_which 101 = .ok (.ireturn, 1) := by decide +kernel
theorem dX7_guessRow_0 : decode cX7_guessRow 0 = .ok (.aload_n 0, 1) := by decide +kernel
theorem dX7_guessRow_1 : decode cX7_guessRow 1 = .ok (.getfield 59, 3) := by decide +kernel
theorem dX7_guessRow_4 : decode cX7_guessRow 4 = .ok (.invokevirtual 193, 3) := by decide +kernel
theorem dX7_guessRow_7 : decode cX7_guessRow 7 = .ok (.iconst 0, 1) := by decide +kernel
theorem dX7_guessRow_8 : decode cX7_guessRow 8 = .ok (.istore_n 3, 1) := by decide +kernel
theorem dX7_guessRow_9 : decode cX7_guessRow 9 = .ok (.iload_n 3, 1) := by decide +kernel
theorem dX7_guessRow_10 : decode cX7_guessRow 10 = .ok (.iload_n 2, 1) := by decide +kernel
theorem dX7_guessRow_11 : decode cX7_guessRow 11 = .ok (.if_icmp .ge 24, 3) := by decide +kernel
theorem dX7_guessRow_14 : decode cX7_guessRow 14 = .ok (.aload_n 0, 1) := by decide +kernel
theorem dX7_guessRow_15 : decode cX7_guessRow 15 = .ok (.getfield 59, 3) := by decide +kernel
theorem dX7_guessRow_18 : decode cX7_guessRow 18 = .ok (.iload_n 1, 1) := by decide +kernel
theorem dX7_guessRow_19 : decode cX7_guessRow 19 = .ok (.iload_n 2, 1) := by decide +kernel
theorem dX7_guessRow_20 : decode cX7_guessRow 20 = .ok (.iload_n 3, 1) := by decide +kernel
theorem dX7_guessRow_21 : decode cX7_guessRow 21 = .ok (.invokestatic 189, 3) := by decide +kernel
theorem dX7_guessRow_24 : decode cX7_guessRow 24 = .ok (.iconst 1, 1) := by decide +kernel
theorem dX7_guessRow_25 : decode cX7_guessRow 25 = .ok (.iadd, 1) := by decide +kernel
theorem dX7_guessRow_26 : decode cX7_guessRow 26 = .ok (.invokevirtual 241, 3) := by decide +kernel
theorem dX7_guessRow_29 : decode cX7_guessRow 29 = .ok (.iinc 3 1, 3) := by decide +kernel
theorem dX7_guessRow_32 : decode cX7_guessRow 32 = .ok (.goto (-23), 3) := by decide +kernel
theorem dX7_guessRow_35 : decode cX7_guessRow 35 = .ok (.return_, 1) := by decide +kernel
