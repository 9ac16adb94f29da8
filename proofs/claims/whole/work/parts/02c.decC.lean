theorem dX0_init_0 : decode cX0_init 0 = .ok (.aload_n 0, 1) := by decide +kernel
theorem dX0_init_1 : decode cX0_init 1 = .ok (.invokespecial 1, 3) := by decide +kernel
theorem dX0_init_4 : decode cX0_init 4 = .ok (.return_, 1) := by decide +kernel
theorem dX0_cellIn_0 : decode cX0_cellIn 0 = .ok (.iload_n 1, 1) := by decide +kernel
theorem dX0_cellIn_1 : decode cX0_cellIn 1 = .ok (.iconst 2, 1) := by decide +kernel
theorem dX0_cellIn_2 : decode cX0_cellIn 2 = .ok (.irem, 1) := by decide +kernel
theorem dX0_cellIn_3 : decode cX0_cellIn 3 = .ok (.iconst 1, 1) := by decide +kernel
theorem dX0_cellIn_4 : decode cX0_cellIn 4 = .ok (.if_icmp .ne 7, 3) := by decide +kernel
theorem dX0_cellIn_7 : decode cX0_cellIn 7 = .ok (.iload_n 2, 1) := by decide +kernel
theorem dX0_cellIn_8 : decode cX0_cellIn 8 = .ok (.goto 10, 3) := by decide +kernel
theorem dX0_cellIn_11 : decode cX0_cellIn 11 = .ok (.aload_n 0, 1) := by decide +kernel
theorem dX0_cellIn_12 : decode cX0_cellIn 12 = .ok (.iload_n 1, 1) := by decide +kernel
theorem dX0_cellIn_13 : decode cX0_cellIn 13 = .ok (.iload_n 2, 1) := by decide +kernel
theorem dX0_cellIn_14 : decode cX0_cellIn 14 = .ok (.iload_n 3, 1) := by decide +kernel
theorem dX0_cellIn_15 : decode cX0_cellIn 15 = .ok (.invokespecial 7, 3) := by decide +kernel
theorem dX0_cellIn_18 : decode cX0_cellIn 18 = .ok (.ireturn, 1) := by decide +kernel
theorem dX0_shows_0 : decode cX0_shows 0 = .ok (.iload_n 1, 1) := by decide +kernel
theorem dX0_shows_1 : decode cX0_shows 1 = .ok (.iconst 1, 1) := by decide +kernel
theorem dX0_shows_2 : decode cX0_shows 2 = .ok (.if_icmp .eq 17, 3) := by decide +kernel
theorem dX0_shows_5 : decode cX0_shows 5 = .ok (.aload_n 0, 1) := by decide +kernel
theorem dX0_shows_6 : decode cX0_shows 6 = .ok (.iload_n 1, 1) := by decide +kernel
theorem dX0_shows_7 : decode cX0_shows 7 = .ok (.iload_n 2, 1) := by decide +kernel
theorem dX0_shows_8 : decode cX0_shows 8 = .ok (.iload_n 3, 1) := by decide +kernel
theorem dX0_shows_9 : decode cX0_shows 9 = .ok (.invokespecial 11, 3) := by decide +kernel
theorem dX0_shows_12 : decode cX0_shows 12 = .ok (.ifCond .eq 7, 3) := by decide +kernel
theorem dX0_shows_15 : decode cX0_shows 15 = .ok (.iconst 1, 1) := by decide +kernel
theorem dX0_shows_16 : decode cX0_shows 16 = .ok (.goto 4, 3) := by decide +kernel
theorem dX0_shows_19 : decode cX0_shows 19 = .ok (.iconst 0, 1) := by decide +kernel
theorem dX0_shows_20 : decode cX0_shows 20 = .ok (.ireturn, 1) := by decide +kernel
theorem dX0_worth_0 : decode cX0_worth 0 = .ok (.iconst 2, 1) := by decide +kernel
theorem dX0_worth_1 : decode cX0_worth 1 = .ok (.aload_n 0, 1) := by decide +kernel
theorem dX0_worth_2 : decode cX0_worth 2 = .ok (.iload_n 1, 1) := by decide +kernel
theorem dX0_worth_3 : decode cX0_worth 3 = .ok (.iload_n 2, 1) := by decide +kernel
theorem dX0_worth_4 : decode cX0_worth 4 = .ok (.iload_n 3, 1) := by decide +kernel
theorem dX0_worth_5 : decode cX0_worth 5 = .ok (.invokespecial 15, 3) := by decide +kernel
theorem dX0_worth_8 : decode cX0_worth 8 = .ok (.imul, 1) := by decide +kernel
theorem dX0_worth_9 : decode cX0_worth 9 = .ok (.ireturn, 1) := by decide +kernel
theorem dX1_init_0 : decode cX1_init 0 = .ok (.aload_n 0, 1) := by decide +kernel
theorem dX1_init_1 : decode cX1_init 1 = .ok (.invokespecial 1, 3) := by decide +kernel
theorem dX1_init_4 : decode cX1_init 4 = .ok (.return_, 1) := by decide +kernel
theorem dX1_shows_0 : decode cX1_shows 0 = .ok (.iload_n 1, 1) := by decide +kernel
theorem dX1_shows_1 : decode cX1_shows 1 = .ok (.iload_n 2, 1) := by decide +kernel
theorem dX1_shows_2 : decode cX1_shows 2 = .ok (.if_icmp .eq 13, 3) := by decide +kernel
theorem dX1_shows_5 : decode cX1_shows 5 = .ok (.aload_n 0, 1) := by decide +kernel
theorem dX1_shows_6 : decode cX1_shows 6 = .ok (.iload_n 1, 1) := by decide +kernel
theorem dX1_shows_7 : decode cX1_shows 7 = .ok (.iload_n 2, 1) := by decide +kernel
theorem dX1_shows_8 : decode cX1_shows 8 = .ok (.iload_n 3, 1) := by decide +kernel
theorem dX1_shows_9 : decode cX1_shows 9 = .ok (.invokespecial 7, 3) := by decide +kernel
theorem dX1_shows_12 : decode cX1_shows 12 = .ok (.ifCond .eq 7, 3) := by decide +kernel
theorem dX1_shows_15 : decode cX1_shows 15 = .ok (.iconst 1, 1) := by decide +kernel
theorem dX1_shows_16 : decode cX1_shows 16 = .ok (.goto 4, 3) := by decide +kernel
theorem dX1_shows_19 : decode cX1_shows 19 = .ok (.iconst 0, 1) := by decide +kernel
theorem dX1_shows_20 : decode cX1_shows 20 = .ok (.ireturn, 1) := by decide +kernel
theorem dX1_worth_0 : decode cX1_worth 0 = .ok (.aload_n 0, 1) := by decide +kernel
theorem dX1_worth_1 : decode cX1_worth 1 = .ok (.iload_n 1, 1) := by decide +kernel
theorem dX1_worth_2 : decode cX1_worth 2 = .ok (.iload_n 2, 1) := by decide +kernel
theorem dX1_worth_3 : decode cX1_worth 3 = .ok (.iload_n 3, 1) := by decide +kernel
theorem dX1_worth_4 : decode cX1_worth 4 = .ok (.invokespecial 11, 3) := by decide +kernel
theorem dX1_worth_7 : decode cX1_worth 7 = .ok (.iload_n 3, 1) := by decide +kernel
theorem dX1_worth_8 : decode cX1_worth 8 = .ok (.iadd, 1) := by decide +kernel
theorem dX1_worth_9 : decode cX1_worth 9 = .ok (.ireturn, 1) := by decide +kernel
theorem dX2_init_0 : decode cX2_init 0 = .ok (.aload_n 0, 1) := by decide +kernel
theorem dX2_init_1 : decode cX2_init 1 = .ok (.invokespecial 3, 3) := by decide +kernel
theorem dX2_init_4 : decode cX2_init 4 = .ok (.return_, 1) := by decide +kernel
theorem dX2_shows_0 : decode cX2_shows 0 = .ok (.iload_n 3, 1) := by decide +kernel
theorem dX2_shows_1 : decode cX2_shows 1 = .ok (.bipush 9, 2) := by decide +kernel
theorem dX2_shows_3 : decode cX2_shows 3 = .ok (.if_icmp .ge 7, 3) := by decide +kernel
theorem dX2_shows_6 : decode cX2_shows 6 = .ok (.iconst 1, 1) := by decide +kernel
theorem dX2_shows_7 : decode cX2_shows 7 = .ok (.goto 4, 3) := by decide +kernel
theorem dX2_shows_10 : decode cX2_shows 10 = .ok (.iconst 0, 1) := by decide +kernel
theorem dX2_shows_11 : decode cX2_shows 11 = .ok (.ireturn, 1) := by decide +kernel
theorem dX2_worth_0 : decode cX2_worth 0 = .ok (.aload_n 0, 1) := by decide +kernel
theorem dX2_worth_1 : decode cX2_worth 1 = .ok (.iload_n 1, 1) := by decide +kernel
theorem dX2_worth_2 : decode cX2_worth 2 = .ok (.iload_n 2, 1) := by decide +kernel
theorem dX2_worth_3 : decode cX2_worth 3 = .ok (.iload_n 3, 1) := by decide +kernel
theorem dX2_worth_4 : decode cX2_worth 4 = .ok (.invokespecial 9, 3) := by decide +kernel
theorem dX2_worth_7 : decode cX2_worth 7 = .ok (.iload_n 2, 1) := by decide +kernel
theorem dX2_worth_8 : decode cX2_worth 8 = .ok (.isub, 1) := by decide +kernel
theorem dX2_worth_9 : decode cX2_worth 9 = .ok (.ireturn, 1) := by decide +kernel
theorem dX3_init_0 : decode cX3_init 0 = .ok (.aload_n 0, 1) := by decide +kernel
theorem dX3_init_1 : decode cX3_init 1 = .ok (.invokespecial 3, 3) := by decide +kernel
theorem dX3_init_4 : decode cX3_init 4 = .ok (.aload_n 0, 1) := by decide +kernel
theorem dX3_init_5 : decode cX3_init 5 = .ok (.bipush 6, 2) := by decide +kernel
theorem dX3_init_7 : decode cX3_init 7 = .ok (.newarray .int, 2) := by decide +kernel
theorem dX3_init_9 : decode cX3_init 9 = .ok (.putfield 9, 3) := by decide +kernel
theorem dX3_init_12 : decode cX3_init 12 = .ok (.aload_n 0, 1) := by decide +kernel
theorem dX3_init_13 : decode cX3_init 13 = .ok (.bipush 6, 2) := by decide +kernel
theorem dX3_init_15 : decode cX3_init 15 = .ok (.newarray .int, 2) := by decide +kernel
theorem dX3_init_17 : decode cX3_init 17 = .ok (.putfield 15, 3) := by decide +kernel
theorem dX3_init_20 : decode cX3_init 20 = .ok (.aload_n 0, 1) := by decide +kernel
theorem dX3_init_21 : decode cX3_init 21 = .ok (.bipush 6, 2) := by decide +kernel
theorem dX3_init_23 : decode cX3_init 23 = .ok (.newarray .int, 2) := by decide +kernel
theorem dX3_init_25 : decode cX3_init 25 = .ok (.putfield 18, 3) := by decide +kernel
theorem dX3_init_28 : decode cX3_init 28 = .ok (.aload_n 0, 1) := by decide +kernel
theorem dX3_init_29 : decode cX3_init 29 = .ok (.bipush 20, 2) := by decide +kernel
theorem dX3_init_31 : decode cX3_init 31 = .ok (.newarray .int, 2) := by decide +kernel
theorem dX3_init_33 : decode cX3_init 33 = .ok (.putfield 21, 3) := by decide +kernel
theorem dX3_init_36 : decode cX3_init 36 = .ok (.aload_n 0, 1) := by decide +kernel
theorem dX3_init_37 : decode cX3_init 37 = .ok (.bipush 120, 2) := by decide +kernel
theorem dX3_init_39 : decode cX3_init 39 = .ok (.newarray .int, 2) := by decide +kernel
theorem dX3_init_41 : decode cX3_init 41 = .ok (.putfield 24, 3) := by decide +kernel
theorem dX3_init_44 : decode cX3_init 44 = .ok (.aload_n 0, 1) := by decide +kernel
theorem dX3_init_45 : decode cX3_init 45 = .ok (.bipush 120, 2) := by decide +kernel
theorem dX3_init_47 : decode cX3_init 47 = .ok (.newarray .int, 2) := by decide +kernel
theorem dX3_init_49 : decode cX3_init 49 = .ok (.putfield 27, 3) := by decide +kernel
theorem dX3_init_52 : decode cX3_init 52 = .ok (.aload_n 0, 1) := by decide +kernel
theorem dX3_init_53 : decode cX3_init 53 = .ok (.iconst 5, 1) := by decide +kernel
theorem dX3_init_54 : decode cX3_init 54 = .ok (.newarray .int, 2) := by decide +kernel
theorem dX3_init_56 : decode cX3_init 56 = .ok (.putfield 30, 3) := by decide +kernel
theorem dX3_init_59 : decode cX3_init 59 = .ok (.aload_n 0, 1) := by decide +kernel
theorem dX3_init_60 : decode cX3_init 60 = .ok (.iconst 5, 1) := by decide +kernel
theorem dX3_init_61 : decode cX3_init 61 = .ok (.newarray .int, 2) := by decide +kernel
theorem dX3_init_63 : decode cX3_init 63 = .ok (.putfield 33, 3) := by decide +kernel
theorem dX3_init_66 : decode cX3_init 66 = .ok (.aload_n 0, 1) := by decide +kernel
theorem dX3_init_67 : decode cX3_init 67 = .ok (.iconst 5, 1) := by decide +kernel
theorem dX3_init_68 : decode cX3_init 68 = .ok (.newarray .int, 2) := by decide +kernel
theorem dX3_init_70 : decode cX3_init 70 = .ok (.putfield 36, 3) := by decide +kernel
theorem dX3_init_73 : decode cX3_init 73 = .ok (.aload_n 0, 1) := by decide +kernel
theorem dX3_init_74 : decode cX3_init 74 = .ok (.aload_n 1, 1) := by decide +kernel
theorem dX3_init_75 : decode cX3_init 75 = .ok (.putfield 39, 3) := by decide +kernel
theorem dX3_init_78 : decode cX3_init 78 = .ok (.aload_n 0, 1) := by decide +kernel
theorem dX3_init_79 : decode cX3_init 79 = .ok (.aload_n 2, 1) := by decide +kernel
theorem dX3_init_80 : decode cX3_init 80 = .ok (.putfield 43, 3) := by decide +kernel
theorem dX3_init_83 : decode cX3_init 83 = .ok (.aload_n 0, 1) := by decide +kernel
theorem dX3_init_84 : decode cX3_init 84 = .ok (.aload_n 3, 1) := by decide +kernel
theorem dX3_init_85 : decode cX3_init 85 = .ok (.putfield 47, 3) := by decide +kernel
theorem dX3_init_88 : decode cX3_init 88 = .ok (.return_, 1) := by decide +kernel
theorem dX3_dawn_0 : decode cX3_dawn 0 = .ok (.iconst 0, 1) := by decide +kernel
theorem dX3_dawn_1 : decode cX3_dawn 1 = .ok (.istore_n 1, 1) := by decide +kernel
theorem dX3_dawn_2 : decode cX3_dawn 2 = .ok (.iload_n 1, 1) := by decide +kernel
theorem dX3_dawn_3 : decode cX3_dawn 3 = .ok (.aload_n 0, 1) := by decide +kernel
theorem dX3_dawn_4 : decode cX3_dawn 4 = .ok (.getfield 39, 3) := by decide +kernel
theorem dX3_dawn_7 : decode cX3_dawn 7 = .ok (.getfield 51, 3) := by decide +kernel
theorem dX3_dawn_10 : decode cX3_dawn 10 = .ok (.if_icmp .ge 14, 3) := by decide +kernel
theorem dX3_dawn_13 : decode cX3_dawn 13 = .ok (.aload_n 0, 1) := by decide +kernel
theorem dX3_dawn_14 : decode cX3_dawn 14 = .ok (.iload_n 1, 1) := by decide +kernel
theorem dX3_dawn_15 : decode cX3_dawn 15 = .ok (.invokevirtual 57, 3) := by decide +kernel
theorem dX3_dawn_18 : decode cX3_dawn 18 = .ok (.iinc 1 1, 3) := by decide +kernel
theorem dX3_dawn_21 : decode cX3_dawn 21 = .ok (.goto (-19), 3) := by decide +kernel
theorem dX3_dawn_24 : decode cX3_dawn 24 = .ok (.aload_n 0, 1) := by decide +kernel
theorem dX3_dawn_25 : decode cX3_dawn 25 = .ok (.invokevirtual 61, 3) := by decide +kernel
theorem dX3_dawn_28 : decode cX3_dawn 28 = .ok (.return_, 1) := by decide +kernel
theorem dX3_lookAll_0 : decode cX3_lookAll 0 = .ok (.iconst 0, 1) := by decide +kernel
theorem dX3_lookAll_1 : decode cX3_lookAll 1 = .ok (.istore_n 1, 1) := by decide +kernel
theorem dX3_lookAll_2 : decode cX3_lookAll 2 = .ok (.iload_n 1, 1) := by decide +kernel
theorem dX3_lookAll_3 : decode cX3_lookAll 3 = .ok (.aload_n 0, 1) := by decide +kernel
theorem dX3_lookAll_4 : decode cX3_lookAll 4 = .ok (.getfield 39, 3) := by decide +kernel
theorem dX3_lookAll_7 : decode cX3_lookAll 7 = .ok (.getfield 51, 3) := by decide +kernel
theorem dX3_lookAll_10 : decode cX3_lookAll 10 = .ok (.if_icmp .ge 14, 3) := by decide +kernel
theorem dX3_lookAll_13 : decode cX3_lookAll 13 = .ok (.aload_n 0, 1) := by decide +kernel
theorem dX3_lookAll_14 : decode cX3_lookAll 14 = .ok (.iload_n 1, 1) := by decide +kernel
theorem dX3_lookAll_15 : decode cX3_lookAll 15 = .ok (.invokevirtual 57, 3) := by decide +kernel
theorem dX3_lookAll_18 : decode cX3_lookAll 18 = .ok (.iinc 1 1, 3) := by decide +kernel
theorem dX3_lookAll_21 : decode cX3_lookAll 21 = .ok (.goto (-19), 3) := by decide +kernel
theorem dX3_lookAll_24 : decode cX3_lookAll 24 = .ok (.return_, 1) := by decide +kernel
theorem dX3_look_0 : decode cX3_look 0 = .ok (.iload_n 1, 1) := by decide +kernel
theorem dX3_look_1 : decode cX3_look 1 = .ok (.iconst 4, 1) := by decide +kernel
theorem dX3_look_2 : decode cX3_look 2 = .ok (.imul, 1) := by decide +kernel
theorem dX3_look_3 : decode cX3_look 3 = .ok (.aload_n 0, 1) := by decide +kernel
theorem dX3_look_4 : decode cX3_look 4 = .ok (.getfield 39, 3) := by decide +kernel
theorem dX3_look_7 : decode cX3_look 7 = .ok (.getfield 64, 3) := by decide +kernel
theorem dX3_look_10 : decode cX3_look 10 = .ok (.iload_n 1, 1) := by decide +kernel
theorem dX3_look_11 : decode cX3_look 11 = .ok (.iaload, 1) := by decide +kernel
theorem dX3_look_12 : decode cX3_look 12 = .ok (.iadd, 1) := by decide +kernel
theorem dX3_look_13 : decode cX3_look 13 = .ok (.istore_n 2, 1) := by decide +kernel
theorem dX3_look_14 : decode cX3_look 14 = .ok (.iconst 0, 1) := by decide +kernel
theorem dX3_look_15 : decode cX3_look 15 = .ok (.istore_n 3, 1) := by decide +kernel
theorem dX3_look_16 : decode cX3_look 16 = .ok (.aload_n 0, 1) := by decide +kernel
theorem dX3_look_17 : decode cX3_look 17 = .ok (.aload_n 0, 1) := by decide +kernel
theorem dX3_look_18 : decode cX3_look 18 = .ok (.getfield 39, 3) := by decide +kernel
theorem dX3_look_21 : decode cX3_look 21 = .ok (.getfield 67, 3) := by decide +kernel
theorem dX3_look_24 : decode cX3_look 24 = .ok (.iload_n 1, 1) := by decide +kernel
theorem dX3_look_25 : decode cX3_look 25 = .ok (.iaload, 1) := by decide +kernel
theorem dX3_look_26 : decode cX3_look 26 = .ok (.invokevirtual 70, 3) := by decide +kernel
theorem dX3_look_29 : decode cX3_look 29 = .ok (.aload_n 0, 1) := by decide +kernel
theorem dX3_look_30 : decode cX3_look 30 = .ok (.iload_n 1, 1) := by decide +kernel
theorem dX3_look_31 : decode cX3_look 31 = .ok (.invokevirtual 73, 3) := by decide +kernel
theorem dX3_look_34 : decode cX3_look 34 = .ok (.iconst 1, 1) := by decide +kernel
theorem dX3_look_35 : decode cX3_look 35 = .ok (.istore 4, 2) := by decide +kernel
theorem dX3_look_37 : decode cX3_look 37 = .ok (.iload 4, 2) := by decide +kernel
theorem dX3_look_39 : decode cX3_look 39 = .ok (.bipush 6, 2) := by decide +kernel
theorem dX3_look_41 : decode cX3_look 41 = .ok (.if_icmp .ge 94, 3) := by decide +kernel
theorem dX3_look_44 : decode cX3_look 44 = .ok (.iconst 0, 1) := by decide +kernel
theorem dX3_look_45 : decode cX3_look 45 = .ok (.istore 5, 2) := by decide +kernel
theorem dX3_look_47 : decode cX3_look 47 = .ok (.iload 5, 2) := by decide +kernel
theorem dX3_look_49 : decode cX3_look 49 = .ok (.aload_n 0, 1) := by decide +kernel
theorem dX3_look_50 : decode cX3_look 50 = .ok (.getfield 39, 3) := by decide +kernel
theorem dX3_look_53 : decode cX3_look 53 = .ok (.getfield 76, 3) := by decide +kernel
theorem dX3_look_56 : decode cX3_look 56 = .ok (.if_icmp .ge 73, 3) := by decide +kernel
theorem dX3_look_59 : decode cX3_look 59 = .ok (.aload_n 0, 1) := by decide +kernel
theorem dX3_look_60 : decode cX3_look 60 = .ok (.getfield 15, 3) := by decide +kernel
theorem dX3_look_63 : decode cX3_look 63 = .ok (.iload 5, 2) := by decide +kernel
theorem dX3_look_65 : decode cX3_look 65 = .ok (.iaload, 1) := by decide +kernel
theorem dX3_look_66 : decode cX3_look 66 = .ok (.aload_n 0, 1) := by decide +kernel
theorem dX3_look_67 : decode cX3_look 67 = .ok (.getfield 18, 3) := by decide +kernel
theorem dX3_look_70 : decode cX3_look 70 = .ok (.iload 4, 2) := by decide +kernel
theorem dX3_look_72 : decode cX3_look 72 = .ok (.iaload, 1) := by decide +kernel
theorem dX3_look_73 : decode cX3_look 73 = .ok (.if_icmp .ne 50, 3) := by decide +kernel
theorem dX3_look_76 : decode cX3_look 76 = .ok (.aload_n 0, 1) := by decide +kernel
theorem dX3_look_77 : decode cX3_look 77 = .ok (.iload_n 1, 1) := by decide +kernel
theorem dX3_look_78 : decode cX3_look 78 = .ok (.iload 5, 2) := by decide +kernel
theorem dX3_look_80 : decode cX3_look 80 = .ok (.iload 4, 2) := by decide +kernel
theorem dX3_look_82 : decode cX3_look 82 = .ok (.invokevirtual 79, 3) := by decide +kernel
theorem dX3_look_85 : decode cX3_look 85 = .ok (.ifCond .eq 38, 3) := by decide +kernel
theorem dX3_look_88 : decode cX3_look 88 = .ok (.aload_n 0, 1) := by decide +kernel
theorem dX3_look_89 : decode cX3_look 89 = .ok (.getfield 24, 3) := by decide +kernel
theorem dX3_look_92 : decode cX3_look 92 = .ok (.iload_n 2, 1) := by decide +kernel
theorem dX3_look_93 : decode cX3_look 93 = .ok (.bipush 6, 2) := by decide +kernel
theorem dX3_look_95 : decode cX3_look 95 = .ok (.imul, 1) := by decide +kernel
theorem dX3_look_96 : decode cX3_look 96 = .ok (.iload_n 3, 1) := by decide +kernel
theorem dX3_look_97 : decode cX3_look 97 = .ok (.iadd, 1) := by decide +kernel
theorem dX3_look_98 : decode cX3_look 98 = .ok (.iload 5, 2) := by decide +kernel
theorem dX3_look_100 : decode cX3_look 100 = .ok (.iastore, 1) := by decide +kernel
theorem dX3_look_101 : decode cX3_look 101 = .ok (.aload_n 0, 1) := by decide +kernel
theorem dX3_look_102 : decode cX3_look 102 = .ok (.getfield 27, 3) := by decide +kernel
theorem dX3_look_105 : decode cX3_look 105 = .ok (.iload_n 2, 1) := by decide +kernel
theorem dX3_look_106 : decode cX3_look 106 = .ok (.bipush 6, 2) := by decide +kernel
theorem dX3_look_108 : decode cX3_look 108 = .ok (.imul, 1) := by decide +kernel
theorem dX3_look_109 : decode cX3_look 109 = .ok (.iload_n 3, 1) := by decide +kernel
theorem dX3_look_110 : decode cX3_look 110 = .ok (.iadd, 1) := by decide +kernel
theorem dX3_look_111 : decode cX3_look 111 = .ok (.aload_n 0, 1) := by decide +kernel
theorem dX3_look_112 : decode cX3_look 112 = .ok (.iload 5, 2) := by decide +kernel
theorem dX3_look_114 : decode cX3_look 114 = .ok (.iload 4, 2) := by decide +kernel
theorem dX3_look_116 : decode cX3_look 116 = .ok (.invokevirtual 83, 3) := by decide +kernel
theorem dX3_look_119 : decode cX3_look 119 = .ok (.iastore, 1) := by decide +kernel
theorem dX3_look_120 : decode cX3_look 120 = .ok (.iinc 3 1, 3) := by decide +kernel
theorem dX3_look_123 : decode cX3_look 123 = .ok (.iinc 5 1, 3) := by decide +kernel
theorem dX3_look_126 : decode cX3_look 126 = .ok (.goto (-79), 3) := by decide +kernel
theorem dX3_look_129 : decode cX3_look 129 = .ok (.iinc 4 1, 3) := by decide +kernel
theorem dX3_look_132 : decode cX3_look 132 = .ok (.goto (-95), 3) := by decide +kernel
theorem dX3_look_135 : decode cX3_look 135 = .ok (.aload_n 0, 1) := by decide +kernel
theorem dX3_look_136 : decode cX3_look 136 = .ok (.getfield 21, 3) := by decide +kernel
theorem dX3_look_139 : decode cX3_look 139 = .ok (.iload_n 2, 1) := by decide +kernel
theorem dX3_look_140 : decode cX3_look 140 = .ok (.iload_n 3, 1) := by decide +kernel
theorem dX3_look_141 : decode cX3_look 141 = .ok (.iastore, 1) := by decide +kernel
theorem dX3_look_142 : decode cX3_look 142 = .ok (.return_, 1) := by decide +kernel
theorem dX3_placeThings_0 : decode cX3_placeThings 0 = .ok (.iconst 0, 1) := by decide +kernel
theorem dX3_placeThings_1 : decode cX3_placeThings 1 = .ok (.istore_n 2, 1) := by decide +kernel
theorem dX3_placeThings_2 : decode cX3_placeThings 2 = .ok (.iload_n 2, 1) := by decide +kernel
theorem dX3_placeThings_3 : decode cX3_placeThings 3 = .ok (.aload_n 0, 1) := by decide +kernel
theorem dX3_placeThings_4 : decode cX3_placeThings 4 = .ok (.getfield 39, 3) := by decide +kernel
theorem dX3_placeThings_7 : decode cX3_placeThings 7 = .ok (.getfield 76, 3) := by decide +kernel
theorem dX3_placeThings_10 : decode cX3_placeThings 10 = .ok (.if_icmp .ge 53, 3) := by decide +kernel
theorem dX3_placeThings_13 : decode cX3_placeThings 13 = .ok (.aload_n 0, 1) := by decide +kernel
theorem dX3_placeThings_14 : decode cX3_placeThings 14 = .ok (.getfield 43, 3) := by decide +kernel
theorem dX3_placeThings_17 : decode cX3_placeThings 17 = .ok (.aload_n 0, 1) := by decide +kernel
theorem dX3_placeThings_18 : decode cX3_placeThings 18 = .ok (.getfield 39, 3) := by decide +kernel
theorem dX3_placeThings_21 : decode cX3_placeThings 21 = .ok (.getfield 87, 3) := by decide +kernel
theorem dX3_placeThings_24 : decode cX3_placeThings 24 = .ok (.iload_n 2, 1) := by decide +kernel
theorem dX3_placeThings_25 : decode cX3_placeThings 25 = .ok (.iaload, 1) := by decide +kernel
theorem dX3_placeThings_26 : decode cX3_placeThings 26 = .ok (.aaload, 1) := by decide +kernel
theorem dX3_placeThings_27 : decode cX3_placeThings 27 = .ok (.astore_n 3, 1) := by decide +kernel
theorem dX3_placeThings_28 : decode cX3_placeThings 28 = .ok (.aload_n 0, 1) := by decide +kernel
theorem dX3_placeThings_29 : decode cX3_placeThings 29 = .ok (.getfield 15, 3) := by decide +kernel
theorem dX3_placeThings_32 : decode cX3_placeThings 32 = .ok (.iload_n 2, 1) := by decide +kernel
theorem dX3_placeThings_33 : decode cX3_placeThings 33 = .ok (.aload_n 3, 1) := by decide +kernel
theorem dX3_placeThings_34 : decode cX3_placeThings 34 = .ok (.iload_n 1, 1) := by decide +kernel
theorem dX3_placeThings_35 : decode cX3_placeThings 35 = .ok (.aload_n 0, 1) := by decide +kernel
theorem dX3_placeThings_36 : decode cX3_placeThings 36 = .ok (.getfield 39, 3) := by decide +kernel
theorem dX3_placeThings_39 : decode cX3_placeThings 39 = .ok (.getfield 89, 3) := by decide +kernel
theorem dX3_placeThings_42 : decode cX3_placeThings 42 = .ok (.iload_n 2, 1) := by decide +kernel
theorem dX3_placeThings_43 : decode cX3_placeThings 43 = .ok (.iaload, 1) := by decide +kernel
theorem dX3_placeThings_44 : decode cX3_placeThings 44 = .ok (.aload_n 0, 1) := by decide +kernel
theorem dX3_placeThings_45 : decode cX3_placeThings 45 = .ok (.getfield 39, 3) := by decide +kernel
theorem dX3_placeThings_48 : decode cX3_placeThings 48 = .ok (.getfield 92, 3) := by decide +kernel
theorem dX3_placeThings_51 : decode cX3_placeThings 51 = .ok (.iload_n 2, 1) := by decide +kernel
theorem dX3_placeThings_52 : decode cX3_placeThings 52 = .ok (.iaload, 1) := by decide +kernel
theorem dX3_placeThings_53 : decode cX3_placeThings 53 = .ok (.invokevirtual 95, 3) := by decide +kernel
theorem dX3_placeThings_56 : decode cX3_placeThings 56 = .ok (.iastore, 1) := by decide +kernel
theorem dX3_placeThings_57 : decode cX3_placeThings 57 = .ok (.iinc 2 1, 3) := by decide +kernel
theorem dX3_placeThings_60 : decode cX3_placeThings 60 = .ok (.goto (-58), 3) := by decide +kernel
theorem dX3_placeThings_63 : decode cX3_placeThings 63 = .ok (.return_, 1) := by decide +kernel
theorem dX3_findView_0 : decode cX3_findView 0 = .ok (.aload_n 0, 1) := by decide +kernel
theorem dX3_findView_1 : decode cX3_findView 1 = .ok (.getfield 39, 3) := by decide +kernel
theorem dX3_findView_4 : decode cX3_findView 4 = .ok (.getfield 64, 3) := by decide +kernel
theorem dX3_findView_7 : decode cX3_findView 7 = .ok (.iload_n 1, 1) := by decide +kernel
theorem dX3_findView_8 : decode cX3_findView 8 = .ok (.iaload, 1) := by decide +kernel
theorem dX3_findView_9 : decode cX3_findView 9 = .ok (.istore_n 2, 1) := by decide +kernel
theorem dX3_findView_10 : decode cX3_findView 10 = .ok (.aload_n 0, 1) := by decide +kernel
theorem dX3_findView_11 : decode cX3_findView 11 = .ok (.getfield 39, 3) := by decide +kernel
theorem dX3_findView_14 : decode cX3_findView 14 = .ok (.getfield 101, 3) := by decide +kernel
theorem dX3_findView_17 : decode cX3_findView 17 = .ok (.iload_n 1, 1) := by decide +kernel
theorem dX3_findView_18 : decode cX3_findView 18 = .ok (.iaload, 1) := by decide +kernel
theorem dX3_findView_19 : decode cX3_findView 19 = .ok (.bipush 6, 2) := by decide +kernel
theorem dX3_findView_21 : decode cX3_findView 21 = .ok (.idiv, 1) := by decide +kernel
theorem dX3_findView_22 : decode cX3_findView 22 = .ok (.istore_n 3, 1) := by decide +kernel
theorem dX3_findView_23 : decode cX3_findView 23 = .ok (.aload_n 0, 1) := by decide +kernel
theorem dX3_findView_24 : decode cX3_findView 24 = .ok (.getfield 39, 3) := by decide +kernel
theorem dX3_findView_27 : decode cX3_findView 27 = .ok (.getfield 101, 3) := by decide +kernel
theorem dX3_findView_30 : decode cX3_findView 30 = .ok (.iload_n 1, 1) := by decide +kernel
theorem dX3_findView_31 : decode cX3_findView 31 = .ok (.iaload, 1) := by decide +kernel
theorem dX3_findView_32 : decode cX3_findView 32 = .ok (.bipush 6, 2) := by decide +kernel
theorem dX3_findView_34 : decode cX3_findView 34 = .ok (.irem, 1) := by decide +kernel
theorem dX3_findView_35 : decode cX3_findView 35 = .ok (.istore 4, 2) := by decide +kernel
theorem dX3_findView_37 : decode cX3_findView 37 = .ok (.aload_n 0, 1) := by decide +kernel
theorem dX3_findView_38 : decode cX3_findView 38 = .ok (.getfield 39, 3) := by decide +kernel
theorem dX3_findView_41 : decode cX3_findView 41 = .ok (.getfield 104, 3) := by decide +kernel
theorem dX3_findView_44 : decode cX3_findView 44 = .ok (.aload_n 0, 1) := by decide +kernel
theorem dX3_findView_45 : decode cX3_findView 45 = .ok (.getfield 39, 3) := by decide +kernel
theorem dX3_findView_48 : decode cX3_findView 48 = .ok (.getfield 101, 3) := by decide +kernel
theorem dX3_findView_51 : decode cX3_findView 51 = .ok (.iload_n 1, 1) := by decide +kernel
theorem dX3_findView_52 : decode cX3_findView 52 = .ok (.iaload, 1) := by decide +kernel
theorem dX3_findView_53 : decode cX3_findView 53 = .ok (.iaload, 1) := by decide +kernel
theorem dX3_findView_54 : decode cX3_findView 54 = .ok (.istore 5, 2) := by decide +kernel
theorem dX3_findView_56 : decode cX3_findView 56 = .ok (.iconst (-1), 1) := by decide +kernel
theorem dX3_findView_57 : decode cX3_findView 57 = .ok (.istore 6, 2) := by decide +kernel
theorem dX3_findView_59 : decode cX3_findView 59 = .ok (.iconst 1, 1) := by decide +kernel
theorem dX3_findView_60 : decode cX3_findView 60 = .ok (.istore 7, 2) := by decide +kernel
theorem dX3_findView_62 : decode cX3_findView 62 = .ok (.iload 7, 2) := by decide +kernel
theorem dX3_findView_64 : decode cX3_findView 64 = .ok (.bipush 6, 2) := by decide +kernel
theorem dX3_findView_66 : decode cX3_findView 66 = .ok (.if_icmp .ge 107, 3) := by decide +kernel
theorem dX3_findView_69 : decode cX3_findView 69 = .ok (.iload_n 3, 1) := by decide +kernel
theorem dX3_findView_70 : decode cX3_findView 70 = .ok (.getstatic 107, 3) := by decide +kernel
theorem dX3_findView_73 : decode cX3_findView 73 = .ok (.iload_n 2, 1) := by decide +kernel
theorem dX3_findView_74 : decode cX3_findView 74 = .ok (.iaload, 1) := by decide +kernel
theorem dX3_findView_75 : decode cX3_findView 75 = .ok (.iadd, 1) := by decide +kernel
theorem dX3_findView_76 : decode cX3_findView 76 = .ok (.istore_n 3, 1) := by decide +kernel
theorem dX3_findView_77 : decode cX3_findView 77 = .ok (.iload 4, 2) := by decide +kernel
theorem dX3_findView_79 : decode cX3_findView 79 = .ok (.getstatic 110, 3) := by decide +kernel
theorem dX3_findView_82 : decode cX3_findView 82 = .ok (.iload_n 2, 1) := by decide +kernel
theorem dX3_findView_83 : decode cX3_findView 83 = .ok (.iaload, 1) := by decide +kernel
theorem dX3_findView_84 : decode cX3_findView 84 = .ok (.iadd, 1) := by decide +kernel
theorem dX3_findView_85 : decode cX3_findView 85 = .ok (.istore 4, 2) := by decide +kernel
theorem dX3_findView_87 : decode cX3_findView 87 = .ok (.aload_n 0, 1) := by decide +kernel
theorem dX3_findView_88 : decode cX3_findView 88 = .ok (.getfield 18, 3) := by decide +kernel
theorem dX3_findView_91 : decode cX3_findView 91 = .ok (.iload 7, 2) := by decide +kernel
theorem dX3_findView_93 : decode cX3_findView 93 = .ok (.iconst (-1), 1) := by decide +kernel
theorem dX3_findView_94 : decode cX3_findView 94 = .ok (.iastore, 1) := by decide +kernel
theorem dX3_findView_95 : decode cX3_findView 95 = .ok (.iload_n 3, 1) := by decide +kernel
theorem dX3_findView_96 : decode cX3_findView 96 = .ok (.bipush 6, 2) := by decide +kernel
theorem dX3_findView_98 : decode cX3_findView 98 = .ok (.invokestatic 113, 3) := by decide +kernel
theorem dX3_findView_101 : decode cX3_findView 101 = .ok (.ifCond .eq 66, 3) := by decide +kernel
theorem dX3_findView_104 : decode cX3_findView 104 = .ok (.iload 4, 2) := by decide +kernel
theorem dX3_findView_106 : decode cX3_findView 106 = .ok (.bipush 6, 2) := by decide +kernel
theorem dX3_findView_108 : decode cX3_findView 108 = .ok (.invokestatic 113, 3) := by decide +kernel
theorem dX3_findView_111 : decode cX3_findView 111 = .ok (.ifCond .eq 56, 3) := by decide +kernel
theorem dX3_findView_114 : decode cX3_findView 114 = .ok (.bipush 6, 2) := by decide +kernel
theorem dX3_findView_116 : decode cX3_findView 116 = .ok (.iload_n 3, 1) := by decide +kernel
theorem dX3_findView_117 : decode cX3_findView 117 = .ok (.imul, 1) := by decide +kernel
theorem dX3_findView_118 : decode cX3_findView 118 = .ok (.iload 4, 2) := by decide +kernel
theorem dX3_findView_120 : decode cX3_findView 120 = .ok (.iadd, 1) := by decide +kernel
theorem dX3_findView_121 : decode cX3_findView 121 = .ok (.istore 8, 2) := by decide +kernel
theorem dX3_findView_123 : decode cX3_findView 123 = .ok (.aload_n 0, 1) := by decide +kernel
theorem dX3_findView_124 : decode cX3_findView 124 = .ok (.getfield 39, 3) := by decide +kernel
theorem dX3_findView_127 : decode cX3_findView 127 = .ok (.getfield 104, 3) := by decide +kernel
theorem dX3_findView_130 : decode cX3_findView 130 = .ok (.iload 8, 2) := by decide +kernel
theorem dX3_findView_132 : decode cX3_findView 132 = .ok (.iaload, 1) := by decide +kernel
theorem dX3_findView_133 : decode cX3_findView 133 = .ok (.istore 9, 2) := by decide +kernel
theorem dX3_findView_135 : decode cX3_findView 135 = .ok (.iload 6, 2) := by decide +kernel
theorem dX3_findView_137 : decode cX3_findView 137 = .ok (.iload 5, 2) := by decide +kernel
theorem dX3_findView_139 : decode cX3_findView 139 = .ok (.if_icmp .le 10, 3) := by decide +kernel
theorem dX3_findView_142 : decode cX3_findView 142 = .ok (.iload 9, 2) := by decide +kernel
theorem dX3_findView_144 : decode cX3_findView 144 = .ok (.iload 6, 2) := by decide +kernel
theorem dX3_findView_146 : decode cX3_findView 146 = .ok (.if_icmp .le 12, 3) := by decide +kernel
theorem dX3_findView_149 : decode cX3_findView 149 = .ok (.aload_n 0, 1) := by decide +kernel
theorem dX3_findView_150 : decode cX3_findView 150 = .ok (.getfield 18, 3) := by decide +kernel
theorem dX3_findView_153 : decode cX3_findView 153 = .ok (.iload 7, 2) := by decide +kernel
theorem dX3_findView_155 : decode cX3_findView 155 = .ok (.iload 8, 2) := by decide +kernel
theorem dX3_findView_157 : decode cX3_findView 157 = .ok (.iastore, 1) := by decide +kernel
theorem dX3_findView_158 : decode cX3_findView 158 = .ok (.iload 6, 2) := by decide +kernel
theorem dX3_findView_160 : decode cX3_findView 160 = .ok (.iload 9, 2) := by decide +kernel
theorem dX3_findView_162 : decode cX3_findView 162 = .ok (.invokestatic 117, 3) := by decide +kernel
theorem dX3_findView_165 : decode cX3_findView 165 = .ok (.istore 6, 2) := by decide +kernel
theorem dX3_findView_167 : decode cX3_findView 167 = .ok (.iinc 7 1, 3) := by decide +kernel
theorem dX3_findView_170 : decode cX3_findView 170 = .ok (.goto (-108), 3) := by decide +kernel
theorem dX3_findView_173 : decode cX3_findView 173 = .ok (.return_, 1) := by decide +kernel
theorem dX3_sees_0 : decode cX3_sees 0 = .ok (.aload_n 0, 1) := by decide +kernel
theorem dX3_sees_1 : decode cX3_sees 1 = .ok (.getfield 43, 3) := by decide +kernel
theorem dX3_sees_4 : decode cX3_sees 4 = .ok (.aload_n 0, 1) := by decide +kernel
theorem dX3_sees_5 : decode cX3_sees 5 = .ok (.getfield 39, 3) := by decide +kernel
theorem dX3_sees_8 : decode cX3_sees 8 = .ok (.getfield 87, 3) := by decide +kernel
theorem dX3_sees_11 : decode cX3_sees 11 = .ok (.iload_n 2, 1) := by decide +kernel
theorem dX3_sees_12 : decode cX3_sees 12 = .ok (.iaload, 1) := by decide +kernel
theorem dX3_sees_13 : decode cX3_sees 13 = .ok (.aaload, 1) := by decide +kernel
theorem dX3_sees_14 : decode cX3_sees 14 = .ok (.astore 4, 2) := by decide +kernel
theorem dX3_sees_16 : decode cX3_sees 16 = .ok (.aload 4, 2) := by decide +kernel
theorem dX3_sees_18 : decode cX3_sees 18 = .ok (.iload_n 3, 1) := by decide +kernel
theorem dX3_sees_19 : decode cX3_sees 19 = .ok (.aload_n 0, 1) := by decide +kernel
theorem dX3_sees_20 : decode cX3_sees 20 = .ok (.getfield 39, 3) := by decide +kernel
theorem dX3_sees_23 : decode cX3_sees 23 = .ok (.getfield 92, 3) := by decide +kernel
theorem dX3_sees_26 : decode cX3_sees 26 = .ok (.iload_n 2, 1) := by decide +kernel
theorem dX3_sees_27 : decode cX3_sees 27 = .ok (.iaload, 1) := by decide +kernel
theorem dX3_sees_28 : decode cX3_sees 28 = .ok (.aload_n 0, 1) := by decide +kernel
theorem dX3_sees_29 : decode cX3_sees 29 = .ok (.getfield 39, 3) := by decide +kernel
theorem dX3_sees_32 : decode cX3_sees 32 = .ok (.getfield 122, 3) := by decide +kernel
theorem dX3_sees_35 : decode cX3_sees 35 = .ok (.invokevirtual 125, 3) := by decide +kernel
theorem dX3_sees_38 : decode cX3_sees 38 = .ok (.ifCond .ne 5, 3) := by decide +kernel
theorem dX3_sees_41 : decode cX3_sees 41 = .ok (.iconst 0, 1) := by decide +kernel
theorem dX3_sees_42 : decode cX3_sees 42 = .ok (.ireturn, 1) := by decide +kernel
theorem dX3_sees_43 : decode cX3_sees 43 = .ok (.aload_n 0, 1) := by decide +kernel
theorem dX3_sees_44 : decode cX3_sees 44 = .ok (.getfield 9, 3) := by decide +kernel
theorem dX3_sees_47 : decode cX3_sees 47 = .ok (.iconst 0, 1) := by decide +kernel
theorem dX3_sees_48 : decode cX3_sees 48 = .ok (.iload_n 3, 1) := by decide +kernel
theorem dX3_sees_49 : decode cX3_sees 49 = .ok (.iastore, 1) := by decide +kernel
theorem dX3_sees_50 : decode cX3_sees 50 = .ok (.aload_n 0, 1) := by decide +kernel
theorem dX3_sees_51 : decode cX3_sees 51 = .ok (.getfield 9, 3) := by decide +kernel
theorem dX3_sees_54 : decode cX3_sees 54 = .ok (.iconst 1, 1) := by decide +kernel
theorem dX3_sees_55 : decode cX3_sees 55 = .ok (.aload_n 0, 1) := by decide +kernel
theorem dX3_sees_56 : decode cX3_sees 56 = .ok (.getfield 39, 3) := by decide +kernel
theorem dX3_sees_59 : decode cX3_sees 59 = .ok (.getfield 67, 3) := by decide +kernel
theorem dX3_sees_62 : decode cX3_sees 62 = .ok (.iload_n 1, 1) := by decide +kernel
theorem dX3_sees_63 : decode cX3_sees 63 = .ok (.iaload, 1) := by decide +kernel
theorem dX3_sees_64 : decode cX3_sees 64 = .ok (.iastore, 1) := by decide +kernel
theorem dX3_sees_65 : decode cX3_sees 65 = .ok (.aload_n 0, 1) := by decide +kernel
theorem dX3_sees_66 : decode cX3_sees 66 = .ok (.getfield 9, 3) := by decide +kernel
theorem dX3_sees_69 : decode cX3_sees 69 = .ok (.iconst 2, 1) := by decide +kernel
theorem dX3_sees_70 : decode cX3_sees 70 = .ok (.aload_n 0, 1) := by decide +kernel
theorem dX3_sees_71 : decode cX3_sees 71 = .ok (.getfield 39, 3) := by decide +kernel
theorem dX3_sees_74 : decode cX3_sees 74 = .ok (.getfield 122, 3) := by decide +kernel
theorem dX3_sees_77 : decode cX3_sees 77 = .ok (.iastore, 1) := by decide +kernel
theorem dX3_sees_78 : decode cX3_sees 78 = .ok (.aload_n 0, 1) := by decide +kernel
theorem dX3_sees_79 : decode cX3_sees 79 = .ok (.getfield 9, 3) := by decide +kernel
theorem dX3_sees_82 : decode cX3_sees 82 = .ok (.iconst 3, 1) := by decide +kernel
theorem dX3_sees_83 : decode cX3_sees 83 = .ok (.aload_n 0, 1) := by decide +kernel
theorem dX3_sees_84 : decode cX3_sees 84 = .ok (.getfield 39, 3) := by decide +kernel
theorem dX3_sees_87 : decode cX3_sees 87 = .ok (.getfield 104, 3) := by decide +kernel
theorem dX3_sees_90 : decode cX3_sees 90 = .ok (.aload_n 0, 1) := by decide +kernel
theorem dX3_sees_91 : decode cX3_sees 91 = .ok (.getfield 15, 3) := by decide +kernel
theorem dX3_sees_94 : decode cX3_sees 94 = .ok (.iload_n 2, 1) := by decide +kernel
theorem dX3_sees_95 : decode cX3_sees 95 = .ok (.iaload, 1) := by decide +kernel
theorem dX3_sees_96 : decode cX3_sees 96 = .ok (.iaload, 1) := by decide +kernel
theorem dX3_sees_97 : decode cX3_sees 97 = .ok (.iastore, 1) := by decide +kernel
theorem dX3_sees_98 : decode cX3_sees 98 = .ok (.aload_n 0, 1) := by decide +kernel
theorem dX3_sees_99 : decode cX3_sees 99 = .ok (.getfield 9, 3) := by decide +kernel
theorem dX3_sees_102 : decode cX3_sees 102 = .ok (.iconst 4, 1) := by decide +kernel
theorem dX3_sees_103 : decode cX3_sees 103 = .ok (.iload_n 1, 1) := by decide +kernel
theorem dX3_sees_104 : decode cX3_sees 104 = .ok (.iastore, 1) := by decide +kernel
theorem dX3_sees_105 : decode cX3_sees 105 = .ok (.aload_n 0, 1) := by decide +kernel
theorem dX3_sees_106 : decode cX3_sees 106 = .ok (.getfield 9, 3) := by decide +kernel
theorem dX3_sees_109 : decode cX3_sees 109 = .ok (.iconst 5, 1) := by decide +kernel
theorem dX3_sees_110 : decode cX3_sees 110 = .ok (.iload_n 2, 1) := by decide +kernel
theorem dX3_sees_111 : decode cX3_sees 111 = .ok (.iastore, 1) := by decide +kernel
theorem dX3_sees_112 : decode cX3_sees 112 = .ok (.aload_n 0, 1) := by decide +kernel
theorem dX3_sees_113 : decode cX3_sees 113 = .ok (.iconst 0, 1) := by decide +kernel
theorem dX3_sees_114 : decode cX3_sees 114 = .ok (.invokevirtual 128, 3) := by decide +kernel
theorem dX3_sees_117 : decode cX3_sees 117 = .ok (.ifCond .eq 7, 3) := by decide +kernel
theorem dX3_sees_120 : decode cX3_sees 120 = .ok (.iconst 1, 1) := by decide +kernel
theorem dX3_sees_121 : decode cX3_sees 121 = .ok (.goto 4, 3) := by decide +kernel
theorem dX3_sees_124 : decode cX3_sees 124 = .ok (.iconst 0, 1) := by decide +kernel
theorem dX3_sees_125 : decode cX3_sees 125 = .ok (.ireturn, 1) := by decide +kernel
theorem dX3_worthOf_0 : decode cX3_worthOf 0 = .ok (.aload_n 0, 1) := by decide +kernel
theorem dX3_worthOf_1 : decode cX3_worthOf 1 = .ok (.getfield 39, 3) := by decide +kernel
theorem dX3_worthOf_4 : decode cX3_worthOf 4 = .ok (.getfield 132, 3) := by decide +kernel
theorem dX3_worthOf_7 : decode cX3_worthOf 7 = .ok (.iload_n 1, 1) := by decide +kernel
theorem dX3_worthOf_8 : decode cX3_worthOf 8 = .ok (.iaload, 1) := by decide +kernel
theorem dX3_worthOf_9 : decode cX3_worthOf 9 = .ok (.aload_n 0, 1) := by decide +kernel
theorem dX3_worthOf_10 : decode cX3_worthOf 10 = .ok (.iconst 1, 1) := by decide +kernel
theorem dX3_worthOf_11 : decode cX3_worthOf 11 = .ok (.invokevirtual 128, 3) := by decide +kernel
theorem dX3_worthOf_14 : decode cX3_worthOf 14 = .ok (.bipush (-99), 2) := by decide +kernel
theorem dX3_worthOf_16 : decode cX3_worthOf 16 = .ok (.bipush 99, 2) := by decide +kernel
theorem dX3_worthOf_18 : decode cX3_worthOf 18 = .ok (.invokestatic 135, 3) := by decide +kernel
theorem dX3_worthOf_21 : decode cX3_worthOf 21 = .ok (.iadd, 1) := by decide +kernel
theorem dX3_worthOf_22 : decode cX3_worthOf 22 = .ok (.istore_n 3, 1) := by decide +kernel
theorem dX3_worthOf_23 : decode cX3_worthOf 23 = .ok (.aload_n 0, 1) := by decide +kernel
theorem dX3_worthOf_24 : decode cX3_worthOf 24 = .ok (.getfield 43, 3) := by decide +kernel
theorem dX3_worthOf_27 : decode cX3_worthOf 27 = .ok (.aload_n 0, 1) := by decide +kernel
theorem dX3_worthOf_28 : decode cX3_worthOf 28 = .ok (.getfield 39, 3) := by decide +kernel
theorem dX3_worthOf_31 : decode cX3_worthOf 31 = .ok (.getfield 87, 3) := by decide +kernel
theorem dX3_worthOf_34 : decode cX3_worthOf 34 = .ok (.iload_n 1, 1) := by decide +kernel
theorem dX3_worthOf_35 : decode cX3_worthOf 35 = .ok (.iaload, 1) := by decide +kernel
theorem dX3_worthOf_36 : decode cX3_worthOf 36 = .ok (.aaload, 1) := by decide +kernel
theorem dX3_worthOf_37 : decode cX3_worthOf 37 = .ok (.astore 4, 2) := by decide +kernel
theorem dX3_worthOf_39 : decode cX3_worthOf 39 = .ok (.iconst 0, 1) := by decide +kernel
theorem dX3_worthOf_40 : decode cX3_worthOf 40 = .ok (.aload 4, 2) := by decide +kernel
theorem dX3_worthOf_42 : decode cX3_worthOf 42 = .ok (.iload_n 3, 1) := by decide +kernel
theorem dX3_worthOf_43 : decode cX3_worthOf 43 = .ok (.iload_n 2, 1) := by decide +kernel
theorem dX3_worthOf_44 : decode cX3_worthOf 44 = .ok (.aload_n 0, 1) := by decide +kernel
theorem dX3_worthOf_45 : decode cX3_worthOf 45 = .ok (.getfield 39, 3) := by decide +kernel
theorem dX3_worthOf_48 : decode cX3_worthOf 48 = .ok (.getfield 92, 3) := by decide +kernel
theorem dX3_worthOf_51 : decode cX3_worthOf 51 = .ok (.iload_n 1, 1) := by decide +kernel
theorem dX3_worthOf_52 : decode cX3_worthOf 52 = .ok (.iaload, 1) := by decide +kernel
theorem dX3_worthOf_53 : decode cX3_worthOf 53 = .ok (.invokevirtual 138, 3) := by decide +kernel
theorem dX3_worthOf_56 : decode cX3_worthOf 56 = .ok (.invokestatic 117, 3) := by decide +kernel
theorem dX3_worthOf_59 : decode cX3_worthOf 59 = .ok (.ireturn, 1) := by decide +kernel
theorem dX3_sleepOf_0 : decode cX3_sleepOf 0 = .ok (.aload_n 0, 1) := by decide +kernel
theorem dX3_sleepOf_1 : decode cX3_sleepOf 1 = .ok (.getfield 9, 3) := by decide +kernel
theorem dX3_sleepOf_4 : decode cX3_sleepOf 4 = .ok (.iconst 0, 1) := by decide +kernel
theorem dX3_sleepOf_5 : decode cX3_sleepOf 5 = .ok (.invokestatic 141, 3) := by decide +kernel
theorem dX3_sleepOf_8 : decode cX3_sleepOf 8 = .ok (.aload_n 0, 1) := by decide +kernel
theorem dX3_sleepOf_9 : decode cX3_sleepOf 9 = .ok (.getfield 9, 3) := by decide +kernel
theorem dX3_sleepOf_12 : decode cX3_sleepOf 12 = .ok (.iconst 1, 1) := by decide +kernel
theorem dX3_sleepOf_13 : decode cX3_sleepOf 13 = .ok (.aload_n 0, 1) := by decide +kernel
theorem dX3_sleepOf_14 : decode cX3_sleepOf 14 = .ok (.getfield 39, 3) := by decide +kernel
theorem dX3_sleepOf_17 : decode cX3_sleepOf 17 = .ok (.getfield 67, 3) := by decide +kernel
theorem dX3_sleepOf_20 : decode cX3_sleepOf 20 = .ok (.iload_n 1, 1) := by decide +kernel
theorem dX3_sleepOf_21 : decode cX3_sleepOf 21 = .ok (.iaload, 1) := by decide +kernel
theorem dX3_sleepOf_22 : decode cX3_sleepOf 22 = .ok (.iastore, 1) := by decide +kernel
theorem dX3_sleepOf_23 : decode cX3_sleepOf 23 = .ok (.aload_n 0, 1) := by decide +kernel
theorem dX3_sleepOf_24 : decode cX3_sleepOf 24 = .ok (.getfield 9, 3) := by decide +kernel
theorem dX3_sleepOf_27 : decode cX3_sleepOf 27 = .ok (.iconst 4, 1) := by decide +kernel
theorem dX3_sleepOf_28 : decode cX3_sleepOf 28 = .ok (.iload_n 1, 1) := by decide +kernel
theorem dX3_sleepOf_29 : decode cX3_sleepOf 29 = .ok (.iastore, 1) := by decide +kernel
theorem dX3_sleepOf_30 : decode cX3_sleepOf 30 = .ok (.aload_n 0, 1) := by decide +kernel
theorem dX3_sleepOf_31 : decode cX3_sleepOf 31 = .ok (.iconst 2, 1) := by decide +kernel
theorem dX3_sleepOf_32 : decode cX3_sleepOf 32 = .ok (.invokevirtual 128, 3) := by decide +kernel
theorem dX3_sleepOf_35 : decode cX3_sleepOf 35 = .ok (.iconst 0, 1) := by decide +kernel
theorem dX3_sleepOf_36 : decode cX3_sleepOf 36 = .ok (.bipush 99, 2) := by decide +kernel
theorem dX3_sleepOf_38 : decode cX3_sleepOf 38 = .ok (.invokestatic 135, 3) := by decide +kernel
theorem dX3_sleepOf_41 : decode cX3_sleepOf 41 = .ok (.ireturn, 1) := by decide +kernel
theorem dX3_ruled_0 : decode cX3_ruled 0 = .ok (.aload_n 0, 1) := by decide +kernel
theorem dX3_ruled_1 : decode cX3_ruled 1 = .ok (.getfield 47, 3) := by decide +kernel
theorem dX3_ruled_4 : decode cX3_ruled 4 = .ok (.aload_n 0, 1) := by decide +kernel
theorem dX3_ruled_5 : decode cX3_ruled 5 = .ok (.getfield 39, 3) := by decide +kernel
theorem dX3_ruled_8 : decode cX3_ruled 8 = .ok (.getfield 147, 3) := by decide +kernel
theorem dX3_ruled_11 : decode cX3_ruled 11 = .ok (.aaload, 1) := by decide +kernel
theorem dX3_ruled_12 : decode cX3_ruled 12 = .ok (.astore_n 2, 1) := by decide +kernel
theorem dX3_ruled_13 : decode cX3_ruled 13 = .ok (.aload_n 2, 1) := by decide +kernel
theorem dX3_ruled_14 : decode cX3_ruled 14 = .ok (.ifnonnull 7, 3) := by decide +kernel
theorem dX3_ruled_17 : decode cX3_ruled 17 = .ok (.iconst 0, 1) := by decide +kernel
theorem dX3_ruled_18 : decode cX3_ruled 18 = .ok (.goto 12, 3) := by decide +kernel
theorem dX3_ruled_21 : decode cX3_ruled 21 = .ok (.aload_n 2, 1) := by decide +kernel
theorem dX3_ruled_22 : decode cX3_ruled 22 = .ok (.iload_n 1, 1) := by decide +kernel
theorem dX3_ruled_23 : decode cX3_ruled 23 = .ok (.aload_n 0, 1) := by decide +kernel
theorem dX3_ruled_24 : decode cX3_ruled 24 = .ok (.getfield 9, 3) := by decide +kernel
theorem dX3_ruled_27 : decode cX3_ruled 27 = .ok (.invokevirtual 150, 3) := by decide +kernel
theorem dX3_ruled_30 : decode cX3_ruled 30 = .ok (.ireturn, 1) := by decide +kernel
theorem dX3_clamped_0 : decode cX3_clamped 0 = .ok (.iload_n 1, 1) := by decide +kernel
theorem dX3_clamped_1 : decode cX3_clamped 1 = .ok (.iload_n 2, 1) := by decide +kernel
theorem dX3_clamped_2 : decode cX3_clamped 2 = .ok (.iload_n 0, 1) := by decide +kernel
theorem dX3_clamped_3 : decode cX3_clamped 3 = .ok (.invokestatic 156, 3) := by decide +kernel
theorem dX3_clamped_6 : decode cX3_clamped 6 = .ok (.invokestatic 117, 3) := by decide +kernel
theorem dX3_clamped_9 : decode cX3_clamped 9 = .ok (.ireturn, 1) := by decide +kernel
theorem dX3_seenBy_0 : decode cX3_seenBy 0 = .ok (.iload_n 1, 1) := by decide +kernel
theorem dX3_seenBy_1 : decode cX3_seenBy 1 = .ok (.iconst 4, 1) := by decide +kernel
theorem dX3_seenBy_2 : decode cX3_seenBy 2 = .ok (.imul, 1) := by decide +kernel
theorem dX3_seenBy_3 : decode cX3_seenBy 3 = .ok (.aload_n 0, 1) := by decide +kernel
theorem dX3_seenBy_4 : decode cX3_seenBy 4 = .ok (.getfield 39, 3) := by decide +kernel
theorem dX3_seenBy_7 : decode cX3_seenBy 7 = .ok (.getfield 64, 3) := by decide +kernel
theorem dX3_seenBy_10 : decode cX3_seenBy 10 = .ok (.iload_n 1, 1) := by decide +kernel
theorem dX3_seenBy_11 : decode cX3_seenBy 11 = .ok (.iaload, 1) := by decide +kernel
theorem dX3_seenBy_12 : decode cX3_seenBy 12 = .ok (.iadd, 1) := by decide +kernel
theorem dX3_seenBy_13 : decode cX3_seenBy 13 = .ok (.istore_n 3, 1) := by decide +kernel
theorem dX3_seenBy_14 : decode cX3_seenBy 14 = .ok (.iload_n 2, 1) := by decide +kernel
theorem dX3_seenBy_15 : decode cX3_seenBy 15 = .ok (.aload_n 0, 1) := by decide +kernel
theorem dX3_seenBy_16 : decode cX3_seenBy 16 = .ok (.getfield 21, 3) := by decide +kernel
theorem dX3_seenBy_19 : decode cX3_seenBy 19 = .ok (.iload_n 3, 1) := by decide +kernel
theorem dX3_seenBy_20 : decode cX3_seenBy 20 = .ok (.iaload, 1) := by decide +kernel
theorem dX3_seenBy_21 : decode cX3_seenBy 21 = .ok (.if_icmp .ge 17, 3) := by decide +kernel
theorem dX3_seenBy_24 : decode cX3_seenBy 24 = .ok (.aload_n 0, 1) := by decide +kernel
theorem dX3_seenBy_25 : decode cX3_seenBy 25 = .ok (.getfield 24, 3) := by decide +kernel
theorem dX3_seenBy_28 : decode cX3_seenBy 28 = .ok (.iload_n 3, 1) := by decide +kernel
theorem dX3_seenBy_29 : decode cX3_seenBy 29 = .ok (.bipush 6, 2) := by decide +kernel
theorem dX3_seenBy_31 : decode cX3_seenBy 31 = .ok (.imul, 1) := by decide +kernel
theorem dX3_seenBy_32 : decode cX3_seenBy 32 = .ok (.iload_n 2, 1) := by decide +kernel
theorem dX3_seenBy_33 : decode cX3_seenBy 33 = .ok (.iadd, 1) := by decide +kernel
theorem dX3_seenBy_34 : decode cX3_seenBy 34 = .ok (.iaload, 1) := by decide +kernel
theorem dX3_seenBy_35 : decode cX3_seenBy 35 = .ok (.goto 4, 3) := by decide +kernel
theorem dX3_seenBy_38 : decode cX3_seenBy 38 = .ok (.iconst (-1), 1) := by decide +kernel
theorem dX3_seenBy_39 : decode cX3_seenBy 39 = .ok (.ireturn, 1) := by decide +kernel
theorem dX3_deal_0 : decode cX3_deal 0 = .ok (.aload_n 0, 1) := by decide +kernel
theorem dX3_deal_1 : decode cX3_deal 1 = .ok (.invokevirtual 159, 3) := by decide +kernel
theorem dX3_deal_4 : decode cX3_deal 4 = .ok (.iconst 0, 1) := by decide +kernel
theorem dX3_deal_5 : decode cX3_deal 5 = .ok (.istore_n 1, 1) := by decide +kernel
theorem dX3_deal_6 : decode cX3_deal 6 = .ok (.iconst 0, 1) := by decide +kernel
theorem dX3_deal_7 : decode cX3_deal 7 = .ok (.istore_n 2, 1) := by decide +kernel
theorem dX3_deal_8 : decode cX3_deal 8 = .ok (.iload_n 2, 1) := by decide +kernel
theorem dX3_deal_9 : decode cX3_deal 9 = .ok (.aload_n 0, 1) := by decide +kernel
theorem dX3_deal_10 : decode cX3_deal 10 = .ok (.getfield 39, 3) := by decide +kernel
theorem dX3_deal_13 : decode cX3_deal 13 = .ok (.getfield 51, 3) := by decide +kernel
theorem dX3_deal_16 : decode cX3_deal 16 = .ok (.if_icmp .ge 104, 3) := by decide +kernel
theorem dX3_deal_19 : decode cX3_deal 19 = .ok (.aload_n 0, 1) := by decide +kernel
theorem dX3_deal_20 : decode cX3_deal 20 = .ok (.getfield 30, 3) := by decide +kernel
theorem dX3_deal_23 : decode cX3_deal 23 = .ok (.iload_n 2, 1) := by decide +kernel
theorem dX3_deal_24 : decode cX3_deal 24 = .ok (.iaload, 1) := by decide +kernel
theorem dX3_deal_25 : decode cX3_deal 25 = .ok (.istore_n 3, 1) := by decide +kernel
theorem dX3_deal_26 : decode cX3_deal 26 = .ok (.aload_n 0, 1) := by decide +kernel
theorem dX3_deal_27 : decode cX3_deal 27 = .ok (.iload_n 3, 1) := by decide +kernel
theorem dX3_deal_28 : decode cX3_deal 28 = .ok (.iconst 4, 1) := by decide +kernel
theorem dX3_deal_29 : decode cX3_deal 29 = .ok (.imul, 1) := by decide +kernel
theorem dX3_deal_30 : decode cX3_deal 30 = .ok (.aload_n 0, 1) := by decide +kernel
theorem dX3_deal_31 : decode cX3_deal 31 = .ok (.getfield 39, 3) := by decide +kernel
theorem dX3_deal_34 : decode cX3_deal 34 = .ok (.getfield 64, 3) := by decide +kernel
theorem dX3_deal_37 : decode cX3_deal 37 = .ok (.iload_n 3, 1) := by decide +kernel
theorem dX3_deal_38 : decode cX3_deal 38 = .ok (.iaload, 1) := by decide +kernel
theorem dX3_deal_39 : decode cX3_deal 39 = .ok (.iadd, 1) := by decide +kernel
theorem dX3_deal_40 : decode cX3_deal 40 = .ok (.iload_n 1, 1) := by decide +kernel
theorem dX3_deal_41 : decode cX3_deal 41 = .ok (.invokevirtual 162, 3) := by decide +kernel
theorem dX3_deal_44 : decode cX3_deal 44 = .ok (.istore 4, 2) := by decide +kernel
theorem dX3_deal_46 : decode cX3_deal 46 = .ok (.aload_n 0, 1) := by decide +kernel
theorem dX3_deal_47 : decode cX3_deal 47 = .ok (.getfield 33, 3) := by decide +kernel
theorem dX3_deal_50 : decode cX3_deal 50 = .ok (.iload_n 3, 1) := by decide +kernel
theorem dX3_deal_51 : decode cX3_deal 51 = .ok (.iload 4, 2) := by decide +kernel
theorem dX3_deal_53 : decode cX3_deal 53 = .ok (.iconst (-1), 1) := by decide +kernel
theorem dX3_deal_54 : decode cX3_deal 54 = .ok (.if_icmp .ne 7, 3) := by decide +kernel
theorem dX3_deal_57 : decode cX3_deal 57 = .ok (.iconst (-1), 1) := by decide +kernel
theorem dX3_deal_58 : decode cX3_deal 58 = .ok (.goto 10, 3) := by decide +kernel
theorem dX3_deal_61 : decode cX3_deal 61 = .ok (.aload_n 0, 1) := by decide +kernel
theorem dX3_deal_62 : decode cX3_deal 62 = .ok (.getfield 24, 3) := by decide +kernel
theorem dX3_deal_65 : decode cX3_deal 65 = .ok (.iload 4, 2) := by decide +kernel
theorem dX3_deal_67 : decode cX3_deal 67 = .ok (.iaload, 1) := by decide +kernel
theorem dX3_deal_68 : decode cX3_deal 68 = .ok (.iastore, 1) := by decide +kernel
theorem dX3_deal_69 : decode cX3_deal 69 = .ok (.aload_n 0, 1) := by decide +kernel
theorem dX3_deal_70 : decode cX3_deal 70 = .ok (.getfield 36, 3) := by decide +kernel
theorem dX3_deal_73 : decode cX3_deal 73 = .ok (.iload_n 3, 1) := by decide +kernel
theorem dX3_deal_74 : decode cX3_deal 74 = .ok (.iload 4, 2) := by decide +kernel
theorem dX3_deal_76 : decode cX3_deal 76 = .ok (.iconst (-1), 1) := by decide +kernel
theorem dX3_deal_77 : decode cX3_deal 77 = .ok (.if_icmp .ne 7, 3) := by decide +kernel
theorem dX3_deal_80 : decode cX3_deal 80 = .ok (.iconst 0, 1) := by decide +kernel
theorem dX3_deal_81 : decode cX3_deal 81 = .ok (.goto 10, 3) := by decide +kernel
theorem dX3_deal_84 : decode cX3_deal 84 = .ok (.aload_n 0, 1) := by decide +kernel
theorem dX3_deal_85 : decode cX3_deal 85 = .ok (.getfield 27, 3) := by decide +kernel
theorem dX3_deal_88 : decode cX3_deal 88 = .ok (.iload 4, 2) := by decide +kernel
theorem dX3_deal_90 : decode cX3_deal 90 = .ok (.iaload, 1) := by decide +kernel
theorem dX3_deal_91 : decode cX3_deal 91 = .ok (.iastore, 1) := by decide +kernel
theorem dX3_deal_92 : decode cX3_deal 92 = .ok (.iload_n 1, 1) := by decide +kernel
theorem dX3_deal_93 : decode cX3_deal 93 = .ok (.iload 4, 2) := by decide +kernel
theorem dX3_deal_95 : decode cX3_deal 95 = .ok (.iconst (-1), 1) := by decide +kernel
theorem dX3_deal_96 : decode cX3_deal 96 = .ok (.if_icmp .ne 7, 3) := by decide +kernel
theorem dX3_deal_99 : decode cX3_deal 99 = .ok (.iconst 0, 1) := by decide +kernel
theorem dX3_deal_100 : decode cX3_deal 100 = .ok (.goto 12, 3) := by decide +kernel
theorem dX3_deal_103 : decode cX3_deal 103 = .ok (.iconst 1, 1) := by decide +kernel
theorem dX3_deal_104 : decode cX3_deal 104 = .ok (.aload_n 0, 1) := by decide +kernel
theorem dX3_deal_105 : decode cX3_deal 105 = .ok (.getfield 24, 3) := by decide +kernel
theorem dX3_deal_108 : decode cX3_deal 108 = .ok (.iload 4, 2) := by decide +kernel
theorem dX3_deal_110 : decode cX3_deal 110 = .ok (.iaload, 1) := by decide +kernel
theorem dX3_deal_111 : decode cX3_deal 111 = .ok (.ishl, 1) := by decide +kernel
theorem dX3_deal_112 : decode cX3_deal 112 = .ok (.ior, 1) := by decide +kernel
theorem dX3_deal_113 : decode cX3_deal 113 = .ok (.istore_n 1, 1) := by decide +kernel
theorem dX3_deal_114 : decode cX3_deal 114 = .ok (.iinc 2 1, 3) := by decide +kernel
theorem dX3_deal_117 : decode cX3_deal 117 = .ok (.goto (-109), 3) := by decide +kernel
theorem dX3_deal_120 : decode cX3_deal 120 = .ok (.return_, 1) := by decide +kernel
theorem dX3_firstFree_0 : decode cX3_firstFree 0 = .ok (.iload_n 1, 1) := by decide +kernel
theorem dX3_firstFree_1 : decode cX3_firstFree 1 = .ok (.bipush 6, 2) := by decide +kernel
theorem dX3_firstFree_3 : decode cX3_firstFree 3 = .ok (.imul, 1) := by decide +kernel
theorem dX3_firstFree_4 : decode cX3_firstFree 4 = .ok (.istore_n 3, 1) := by decide +kernel
theorem dX3_firstFree_5 : decode cX3_firstFree 5 = .ok (.iload_n 3, 1) := by decide +kernel
theorem dX3_firstFree_6 : decode cX3_firstFree 6 = .ok (.istore 4, 2) := by decide +kernel
theorem dX3_firstFree_8 : decode cX3_firstFree 8 = .ok (.iload 4, 2) := by decide +kernel
theorem dX3_firstFree_10 : decode cX3_firstFree 10 = .ok (.iload_n 3, 1) := by decide +kernel
theorem dX3_firstFree_11 : decode cX3_firstFree 11 = .ok (.aload_n 0, 1) := by decide +kernel
theorem dX3_firstFree_12 : decode cX3_firstFree 12 = .ok (.getfield 21, 3) := by decide +kernel
theorem dX3_firstFree_15 : decode cX3_firstFree 15 = .ok (.iload_n 1, 1) := by decide +kernel
theorem dX3_firstFree_16 : decode cX3_firstFree 16 = .ok (.iaload, 1) := by decide +kernel
theorem dX3_firstFree_17 : decode cX3_firstFree 17 = .ok (.iadd, 1) := by decide +kernel
theorem dX3_firstFree_18 : decode cX3_firstFree 18 = .ok (.if_icmp .ge 26, 3) := by decide +kernel
theorem dX3_firstFree_21 : decode cX3_firstFree 21 = .ok (.iload_n 2, 1) := by decide +kernel
theorem dX3_firstFree_22 : decode cX3_firstFree 22 = .ok (.iconst 1, 1) := by decide +kernel
theorem dX3_firstFree_23 : decode cX3_firstFree 23 = .ok (.aload_n 0, 1) := by decide +kernel
theorem dX3_firstFree_24 : decode cX3_firstFree 24 = .ok (.getfield 24, 3) := by decide +kernel
theorem dX3_firstFree_27 : decode cX3_firstFree 27 = .ok (.iload 4, 2) := by decide +kernel
theorem dX3_firstFree_29 : decode cX3_firstFree 29 = .ok (.iaload, 1) := by decide +kernel
theorem dX3_firstFree_30 : decode cX3_firstFree 30 = .ok (.ishl, 1) := by decide +kernel
theorem dX3_firstFree_31 : decode cX3_firstFree 31 = .ok (.iand, 1) := by decide +kernel
theorem dX3_firstFree_32 : decode cX3_firstFree 32 = .ok (.ifCond .ne 6, 3) := by decide +kernel
theorem dX3_firstFree_35 : decode cX3_firstFree 35 = .ok (.iload 4, 2) := by decide +kernel
theorem dX3_firstFree_37 : decode cX3_firstFree 37 = .ok (.ireturn, 1) := by decide +kernel
theorem dX3_firstFree_38 : decode cX3_firstFree 38 = .ok (.iinc 4 1, 3) := by decide +kernel
theorem dX3_firstFree_41 : decode cX3_firstFree 41 = .ok (.goto (-33), 3) := by decide +kernel
theorem dX3_firstFree_44 : decode cX3_firstFree 44 = .ok (.iconst (-1), 1) := by decide +kernel
theorem dX3_firstFree_45 : decode cX3_firstFree 45 = .ok (.ireturn, 1) := by decide +kernel
theorem dX3_sortSleepers_0 : decode cX3_sortSleepers 0 = .ok (.iconst 0, 1) := by decide +kernel
theorem dX3_sortSleepers_1 : decode cX3_sortSleepers 1 = .ok (.istore_n 1, 1) := by decide +kernel
theorem dX3_sortSleepers_2 : decode cX3_sortSleepers 2 = .ok (.iload_n 1, 1) := by decide +kernel
theorem dX3_sortSleepers_3 : decode cX3_sortSleepers 3 = .ok (.aload_n 0, 1) := by decide +kernel
theorem dX3_sortSleepers_4 : decode cX3_sortSleepers 4 = .ok (.getfield 39, 3) := by decide +kernel
theorem dX3_sortSleepers_7 : decode cX3_sortSleepers 7 = .ok (.getfield 51, 3) := by decide +kernel
theorem dX3_sortSleepers_10 : decode cX3_sortSleepers 10 = .ok (.if_icmp .ge 58, 3) := by decide +kernel
theorem dX3_sortSleepers_13 : decode cX3_sortSleepers 13 = .ok (.iload_n 1, 1) := by decide +kernel
theorem dX3_sortSleepers_14 : decode cX3_sortSleepers 14 = .ok (.istore_n 2, 1) := by decide +kernel
theorem dX3_sortSleepers_15 : decode cX3_sortSleepers 15 = .ok (.iload_n 2, 1) := by decide +kernel
theorem dX3_sortSleepers_16 : decode cX3_sortSleepers 16 = .ok (.ifCond .le 39, 3) := by decide +kernel
theorem dX3_sortSleepers_19 : decode cX3_sortSleepers 19 = .ok (.aload_n 0, 1) := by decide +kernel
theorem dX3_sortSleepers_20 : decode cX3_sortSleepers 20 = .ok (.iload_n 1, 1) := by decide +kernel
theorem dX3_sortSleepers_21 : decode cX3_sortSleepers 21 = .ok (.aload_n 0, 1) := by decide +kernel
theorem dX3_sortSleepers_22 : decode cX3_sortSleepers 22 = .ok (.getfield 30, 3) := by decide +kernel
theorem dX3_sortSleepers_25 : decode cX3_sortSleepers 25 = .ok (.iload_n 2, 1) := by decide +kernel
theorem dX3_sortSleepers_26 : decode cX3_sortSleepers 26 = .ok (.iconst 1, 1) := by decide +kernel
theorem dX3_sortSleepers_27 : decode cX3_sortSleepers 27 = .ok (.isub, 1) := by decide +kernel
theorem dX3_sortSleepers_28 : decode cX3_sortSleepers 28 = .ok (.iaload, 1) := by decide +kernel
theorem dX3_sortSleepers_29 : decode cX3_sortSleepers 29 = .ok (.invokevirtual 165, 3) := by decide +kernel
theorem dX3_sortSleepers_32 : decode cX3_sortSleepers 32 = .ok (.ifCond .eq 23, 3) := by decide +kernel
theorem dX3_sortSleepers_35 : decode cX3_sortSleepers 35 = .ok (.aload_n 0, 1) := by decide +kernel
theorem dX3_sortSleepers_36 : decode cX3_sortSleepers 36 = .ok (.getfield 30, 3) := by decide +kernel
theorem dX3_sortSleepers_39 : decode cX3_sortSleepers 39 = .ok (.iload_n 2, 1) := by decide +kernel
theorem dX3_sortSleepers_40 : decode cX3_sortSleepers 40 = .ok (.aload_n 0, 1) := by decide +kernel
theorem dX3_sortSleepers_41 : decode cX3_sortSleepers 41 = .ok (.getfield 30, 3) := by decide +kernel
theorem dX3_sortSleepers_44 : decode cX3_sortSleepers 44 = .ok (.iload_n 2, 1) := by decide +kernel
theorem dX3_sortSleepers_45 : decode cX3_sortSleepers 45 = .ok (.iconst 1, 1) := by decide +kernel
theorem dX3_sortSleepers_46 : decode cX3_sortSleepers 46 = .ok (.isub, 1) := by decide +kernel
theorem dX3_sortSleepers_47 : decode cX3_sortSleepers 47 = .ok (.iaload, 1) := by decide +kernel
theorem dX3_sortSleepers_48 : decode cX3_sortSleepers 48 = .ok (.iastore, 1) := by decide +kernel
theorem dX3_sortSleepers_49 : decode cX3_sortSleepers 49 = .ok (.iinc 2 (-1), 3) := by decide +kernel
theorem dX3_sortSleepers_52 : decode cX3_sortSleepers 52 = .ok (.goto (-37), 3) := by decide +kernel
theorem dX3_sortSleepers_55 : decode cX3_sortSleepers 55 = .ok (.aload_n 0, 1) := by decide +kernel
theorem dX3_sortSleepers_56 : decode cX3_sortSleepers 56 = .ok (.getfield 30, 3) := by decide +kernel
theorem dX3_sortSleepers_59 : decode cX3_sortSleepers 59 = .ok (.iload_n 2, 1) := by decide +kernel
theorem dX3_sortSleepers_60 : decode cX3_sortSleepers 60 = .ok (.iload_n 1, 1) := by decide +kernel
theorem dX3_sortSleepers_61 : decode cX3_sortSleepers 61 = .ok (.iastore, 1) := by decide +kernel
theorem dX3_sortSleepers_62 : decode cX3_sortSleepers 62 = .ok (.iinc 1 1, 3) := by decide +kernel
theorem dX3_sortSleepers_65 : decode cX3_sortSleepers 65 = .ok (.goto (-63), 3) := by decide +kernel
theorem dX3_sortSleepers_68 : decode cX3_sortSleepers 68 = .ok (.return_, 1) := by decide +kernel
theorem dX3_wakesBefore_0 : decode cX3_wakesBefore 0 = .ok (.aload_n 0, 1) := by decide +kernel
theorem dX3_wakesBefore_1 : decode cX3_wakesBefore 1 = .ok (.getfield 39, 3) := by decide +kernel
theorem dX3_wakesBefore_4 : decode cX3_wakesBefore 4 = .ok (.getfield 67, 3) := by decide +kernel
theorem dX3_wakesBefore_7 : decode cX3_wakesBefore 7 = .ok (.iload_n 1, 1) := by decide +kernel
theorem dX3_wakesBefore_8 : decode cX3_wakesBefore 8 = .ok (.iaload, 1) := by decide +kernel
theorem dX3_wakesBefore_9 : decode cX3_wakesBefore 9 = .ok (.aload_n 0, 1) := by decide +kernel
theorem dX3_wakesBefore_10 : decode cX3_wakesBefore 10 = .ok (.getfield 39, 3) := by decide +kernel
theorem dX3_wakesBefore_13 : decode cX3_wakesBefore 13 = .ok (.getfield 67, 3) := by decide +kernel
theorem dX3_wakesBefore_16 : decode cX3_wakesBefore 16 = .ok (.iload_n 2, 1) := by decide +kernel
theorem dX3_wakesBefore_17 : decode cX3_wakesBefore 17 = .ok (.iaload, 1) := by decide +kernel
theorem dX3_wakesBefore_18 : decode cX3_wakesBefore 18 = .ok (.if_icmp .eq 30, 3) := by decide +kernel
theorem dX3_wakesBefore_21 : decode cX3_wakesBefore 21 = .ok (.aload_n 0, 1) := by decide +kernel
theorem dX3_wakesBefore_22 : decode cX3_wakesBefore 22 = .ok (.getfield 39, 3) := by decide +kernel
theorem dX3_wakesBefore_25 : decode cX3_wakesBefore 25 = .ok (.getfield 67, 3) := by decide +kernel
theorem dX3_wakesBefore_28 : decode cX3_wakesBefore 28 = .ok (.iload_n 1, 1) := by decide +kernel
theorem dX3_wakesBefore_29 : decode cX3_wakesBefore 29 = .ok (.iaload, 1) := by decide +kernel
theorem dX3_wakesBefore_30 : decode cX3_wakesBefore 30 = .ok (.aload_n 0, 1) := by decide +kernel
theorem dX3_wakesBefore_31 : decode cX3_wakesBefore 31 = .ok (.getfield 39, 3) := by decide +kernel
theorem dX3_wakesBefore_34 : decode cX3_wakesBefore 34 = .ok (.getfield 67, 3) := by decide +kernel
theorem dX3_wakesBefore_37 : decode cX3_wakesBefore 37 = .ok (.iload_n 2, 1) := by decide +kernel
theorem dX3_wakesBefore_38 : decode cX3_wakesBefore 38 = .ok (.iaload, 1) := by decide +kernel
theorem dX3_wakesBefore_39 : decode cX3_wakesBefore 39 = .ok (.if_icmp .ge 7, 3) := by decide +kernel
theorem dX3_wakesBefore_42 : decode cX3_wakesBefore 42 = .ok (.iconst 1, 1) := by decide +kernel
theorem dX3_wakesBefore_43 : decode cX3_wakesBefore 43 = .ok (.goto 4, 3) := by decide +kernel
theorem dX3_wakesBefore_46 : decode cX3_wakesBefore 46 = .ok (.iconst 0, 1) := by decide +kernel
theorem dX3_wakesBefore_47 : decode cX3_wakesBefore 47 = .ok (.ireturn, 1) := by decide +kernel
theorem dX3_wakesBefore_48 : decode cX3_wakesBefore 48 = .ok (.aload_n 0, 1) := by decide +kernel
theorem dX3_wakesBefore_49 : decode cX3_wakesBefore 49 = .ok (.getfield 39, 3) := by decide +kernel
theorem dX3_wakesBefore_52 : decode cX3_wakesBefore 52 = .ok (.getfield 168, 3) := by decide +kernel
theorem dX3_wakesBefore_55 : decode cX3_wakesBefore 55 = .ok (.iload_n 1, 1) := by decide +kernel
theorem dX3_wakesBefore_56 : decode cX3_wakesBefore 56 = .ok (.iaload, 1) := by decide +kernel
theorem dX3_wakesBefore_57 : decode cX3_wakesBefore 57 = .ok (.aload_n 0, 1) := by decide +kernel
theorem dX3_wakesBefore_58 : decode cX3_wakesBefore 58 = .ok (.getfield 39, 3) := by decide +kernel
theorem dX3_wakesBefore_61 : decode cX3_wakesBefore 61 = .ok (.getfield 168, 3) := by decide +kernel
theorem dX3_wakesBefore_64 : decode cX3_wakesBefore 64 = .ok (.iload_n 2, 1) := by decide +kernel
theorem dX3_wakesBefore_65 : decode cX3_wakesBefore 65 = .ok (.iaload, 1) := by decide +kernel
theorem dX3_wakesBefore_66 : decode cX3_wakesBefore 66 = .ok (.if_icmp .le 7, 3) := by decide +kernel
theorem dX3_wakesBefore_69 : decode cX3_wakesBefore 69 = .ok (.iconst 1, 1) := by decide +kernel
theorem dX3_wakesBefore_70 : decode cX3_wakesBefore 70 = .ok (.goto 4, 3) := by decide +kernel
theorem dX3_wakesBefore_73 : decode cX3_wakesBefore 73 = .ok (.iconst 0, 1) := by decide +kernel
theorem dX3_wakesBefore_74 : decode cX3_wakesBefore 74 = .ok (.ireturn, 1) := by decide +kernel
theorem dX3_leftOf_0 : decode cX3_leftOf 0 = .ok (.aload_n 0, 1) := by decide +kernel
theorem dX3_leftOf_1 : decode cX3_leftOf 1 = .ok (.getfield 36, 3) := by decide +kernel
theorem dX3_leftOf_4 : decode cX3_leftOf 4 = .ok (.iload_n 1, 1) := by decide +kernel
theorem dX3_leftOf_5 : decode cX3_leftOf 5 = .ok (.iaload, 1) := by decide +kernel
theorem dX3_leftOf_6 : decode cX3_leftOf 6 = .ok (.aload_n 0, 1) := by decide +kernel
theorem dX3_leftOf_7 : decode cX3_leftOf 7 = .ok (.iload_n 1, 1) := by decide +kernel
theorem dX3_leftOf_8 : decode cX3_leftOf 8 = .ok (.invokevirtual 171, 3) := by decide +kernel
theorem dX3_leftOf_11 : decode cX3_leftOf 11 = .ok (.isub, 1) := by decide +kernel
theorem dX3_leftOf_12 : decode cX3_leftOf 12 = .ok (.ireturn, 1) := by decide +kernel
theorem dX3_leftOfAll_0 : decode cX3_leftOfAll 0 = .ok (.iconst 0, 1) := by decide +kernel
theorem dX3_leftOfAll_1 : decode cX3_leftOfAll 1 = .ok (.istore_n 1, 1) := by decide +kernel
theorem dX3_leftOfAll_2 : decode cX3_leftOfAll 2 = .ok (.iconst 0, 1) := by decide +kernel
theorem dX3_leftOfAll_3 : decode cX3_leftOfAll 3 = .ok (.istore_n 2, 1) := by decide +kernel
theorem dX3_leftOfAll_4 : decode cX3_leftOfAll 4 = .ok (.iload_n 2, 1) := by decide +kernel
theorem dX3_leftOfAll_5 : decode cX3_leftOfAll 5 = .ok (.aload_n 0, 1) := by decide +kernel
theorem dX3_leftOfAll_6 : decode cX3_leftOfAll 6 = .ok (.getfield 39, 3) := by decide +kernel
theorem dX3_leftOfAll_9 : decode cX3_leftOfAll 9 = .ok (.getfield 51, 3) := by decide +kernel
theorem dX3_leftOfAll_12 : decode cX3_leftOfAll 12 = .ok (.if_icmp .ge 17, 3) := by decide +kernel
theorem dX3_leftOfAll_15 : decode cX3_leftOfAll 15 = .ok (.iload_n 1, 1) := by decide +kernel
theorem dX3_leftOfAll_16 : decode cX3_leftOfAll 16 = .ok (.aload_n 0, 1) := by decide +kernel
theorem dX3_leftOfAll_17 : decode cX3_leftOfAll 17 = .ok (.iload_n 2, 1) := by decide +kernel
theorem dX3_leftOfAll_18 : decode cX3_leftOfAll 18 = .ok (.invokevirtual 174, 3) := by decide +kernel
theorem dX3_leftOfAll_21 : decode cX3_leftOfAll 21 = .ok (.iadd, 1) := by decide +kernel
theorem dX3_leftOfAll_22 : decode cX3_leftOfAll 22 = .ok (.istore_n 1, 1) := by decide +kernel
theorem dX3_leftOfAll_23 : decode cX3_leftOfAll 23 = .ok (.iinc 2 1, 3) := by decide +kernel
theorem dX3_leftOfAll_26 : decode cX3_leftOfAll 26 = .ok (.goto (-22), 3) := by decide +kernel
theorem dX3_leftOfAll_29 : decode cX3_leftOfAll 29 = .ok (.iload_n 1, 1) := by decide +kernel
theorem dX3_leftOfAll_30 : decode cX3_leftOfAll 30 = .ok (.ireturn, 1) := by decide +kernel
theorem dX3_standBeds_0 : decode cX3_standBeds 0 = .ok (.aload_n 0, 1) := by decide +kernel
theorem dX3_standBeds_1 : decode cX3_standBeds 1 = .ok (.invokevirtual 177, 3) := by decide +kernel
theorem dX3_standBeds_4 : decode cX3_standBeds 4 = .ok (.aload_n 0, 1) := by decide +kernel
theorem dX3_standBeds_5 : decode cX3_standBeds 5 = .ok (.invokevirtual 159, 3) := by decide +kernel
theorem dX3_standBeds_8 : decode cX3_standBeds 8 = .ok (.aload_n 0, 1) := by decide +kernel
theorem dX3_standBeds_9 : decode cX3_standBeds 9 = .ok (.iconst (-1), 1) := by decide +kernel
theorem dX3_standBeds_10 : decode cX3_standBeds 10 = .ok (.putfield 180, 3) := by decide +kernel
theorem dX3_standBeds_13 : decode cX3_standBeds 13 = .ok (.aload_n 0, 1) := by decide +kernel
theorem dX3_standBeds_14 : decode cX3_standBeds 14 = .ok (.iconst 0, 1) := by decide +kernel
theorem dX3_standBeds_15 : decode cX3_standBeds 15 = .ok (.putfield 183, 3) := by decide +kernel
theorem dX3_standBeds_18 : decode cX3_standBeds 18 = .ok (.iconst 1, 1) := by decide +kernel
theorem dX3_standBeds_19 : decode cX3_standBeds 19 = .ok (.iconst 2, 1) := by decide +kernel
theorem dX3_standBeds_20 : decode cX3_standBeds 20 = .ok (.aload_n 0, 1) := by decide +kernel
theorem dX3_standBeds_21 : decode cX3_standBeds 21 = .ok (.getfield 39, 3) := by decide +kernel
theorem dX3_standBeds_24 : decode cX3_standBeds 24 = .ok (.getfield 51, 3) := by decide +kernel
theorem dX3_standBeds_27 : decode cX3_standBeds 27 = .ok (.imul, 1) := by decide +kernel
theorem dX3_standBeds_28 : decode cX3_standBeds 28 = .ok (.ishl, 1) := by decide +kernel
theorem dX3_standBeds_29 : decode cX3_standBeds 29 = .ok (.istore_n 1, 1) := by decide +kernel
theorem dX3_standBeds_30 : decode cX3_standBeds 30 = .ok (.iconst 0, 1) := by decide +kernel
theorem dX3_standBeds_31 : decode cX3_standBeds 31 = .ok (.istore_n 2, 1) := by decide +kernel
theorem dX3_standBeds_32 : decode cX3_standBeds 32 = .ok (.iload_n 2, 1) := by decide +kernel
theorem dX3_standBeds_33 : decode cX3_standBeds 33 = .ok (.iload_n 1, 1) := by decide +kernel
theorem dX3_standBeds_34 : decode cX3_standBeds 34 = .ok (.if_icmp .ge 37, 3) := by decide +kernel
theorem dX3_standBeds_37 : decode cX3_standBeds 37 = .ok (.aload_n 0, 1) := by decide +kernel
theorem dX3_standBeds_38 : decode cX3_standBeds 38 = .ok (.iload_n 2, 1) := by decide +kernel
theorem dX3_standBeds_39 : decode cX3_standBeds 39 = .ok (.invokevirtual 186, 3) := by decide +kernel
theorem dX3_standBeds_42 : decode cX3_standBeds 42 = .ok (.istore_n 3, 1) := by decide +kernel
theorem dX3_standBeds_43 : decode cX3_standBeds 43 = .ok (.iload_n 3, 1) := by decide +kernel
theorem dX3_standBeds_44 : decode cX3_standBeds 44 = .ok (.aload_n 0, 1) := by decide +kernel
theorem dX3_standBeds_45 : decode cX3_standBeds 45 = .ok (.getfield 180, 3) := by decide +kernel
theorem dX3_standBeds_48 : decode cX3_standBeds 48 = .ok (.if_icmp .le 17, 3) := by decide +kernel
theorem dX3_standBeds_51 : decode cX3_standBeds 51 = .ok (.aload_n 0, 1) := by decide +kernel
theorem dX3_standBeds_52 : decode cX3_standBeds 52 = .ok (.iload_n 3, 1) := by decide +kernel
theorem dX3_standBeds_53 : decode cX3_standBeds 53 = .ok (.putfield 180, 3) := by decide +kernel
theorem dX3_standBeds_56 : decode cX3_standBeds 56 = .ok (.aload_n 0, 1) := by decide +kernel
theorem dX3_standBeds_57 : decode cX3_standBeds 57 = .ok (.aload_n 0, 1) := by decide +kernel
theorem dX3_standBeds_58 : decode cX3_standBeds 58 = .ok (.iload_n 2, 1) := by decide +kernel
theorem dX3_standBeds_59 : decode cX3_standBeds 59 = .ok (.invokevirtual 189, 3) := by decide +kernel
theorem dX3_standBeds_62 : decode cX3_standBeds 62 = .ok (.putfield 183, 3) := by decide +kernel
theorem dX3_standBeds_65 : decode cX3_standBeds 65 = .ok (.iinc 2 1, 3) := by decide +kernel
theorem dX3_standBeds_68 : decode cX3_standBeds 68 = .ok (.goto (-36), 3) := by decide +kernel
theorem dX3_standBeds_71 : decode cX3_standBeds 71 = .ok (.iconst 0, 1) := by decide +kernel
theorem dX3_standBeds_72 : decode cX3_standBeds 72 = .ok (.istore_n 2, 1) := by decide +kernel
theorem dX3_standBeds_73 : decode cX3_standBeds 73 = .ok (.iload_n 2, 1) := by decide +kernel
theorem dX3_standBeds_74 : decode cX3_standBeds 74 = .ok (.aload_n 0, 1) := by decide +kernel
theorem dX3_standBeds_75 : decode cX3_standBeds 75 = .ok (.getfield 39, 3) := by decide +kernel
theorem dX3_standBeds_78 : decode cX3_standBeds 78 = .ok (.getfield 51, 3) := by decide +kernel
theorem dX3_standBeds_81 : decode cX3_standBeds 81 = .ok (.if_icmp .ge 23, 3) := by decide +kernel
theorem dX3_standBeds_84 : decode cX3_standBeds 84 = .ok (.aload_n 0, 1) := by decide +kernel
theorem dX3_standBeds_85 : decode cX3_standBeds 85 = .ok (.dup, 1) := by decide +kernel
theorem dX3_standBeds_86 : decode cX3_standBeds 86 = .ok (.getfield 180, 3) := by decide +kernel
theorem dX3_standBeds_89 : decode cX3_standBeds 89 = .ok (.aload_n 0, 1) := by decide +kernel
theorem dX3_standBeds_90 : decode cX3_standBeds 90 = .ok (.iload_n 2, 1) := by decide +kernel
theorem dX3_standBeds_91 : decode cX3_standBeds 91 = .ok (.invokevirtual 171, 3) := by decide +kernel
theorem dX3_standBeds_94 : decode cX3_standBeds 94 = .ok (.isub, 1) := by decide +kernel
theorem dX3_standBeds_95 : decode cX3_standBeds 95 = .ok (.putfield 180, 3) := by decide +kernel
theorem dX3_standBeds_98 : decode cX3_standBeds 98 = .ok (.iinc 2 1, 3) := by decide +kernel
theorem dX3_standBeds_101 : decode cX3_standBeds 101 = .ok (.goto (-28), 3) := by decide +kernel
theorem dX3_standBeds_104 : decode cX3_standBeds 104 = .ok (.return_, 1) := by decide +kernel
theorem dX3_lookAllWays_0 : decode cX3_lookAllWays 0 = .ok (.iconst 0, 1) := by decide +kernel
theorem dX3_lookAllWays_1 : decode cX3_lookAllWays 1 = .ok (.istore_n 1, 1) := by decide +kernel
theorem dX3_lookAllWays_2 : decode cX3_lookAllWays 2 = .ok (.iload_n 1, 1) := by decide +kernel
theorem dX3_lookAllWays_3 : decode cX3_lookAllWays 3 = .ok (.aload_n 0, 1) := by decide +kernel
theorem dX3_lookAllWays_4 : decode cX3_lookAllWays 4 = .ok (.getfield 39, 3) := by decide +kernel
theorem dX3_lookAllWays_7 : decode cX3_lookAllWays 7 = .ok (.getfield 51, 3) := by decide +kernel
theorem dX3_lookAllWays_10 : decode cX3_lookAllWays 10 = .ok (.if_icmp .ge 57, 3) := by decide +kernel
theorem dX3_lookAllWays_13 : decode cX3_lookAllWays 13 = .ok (.aload_n 0, 1) := by decide +kernel
theorem dX3_lookAllWays_14 : decode cX3_lookAllWays 14 = .ok (.getfield 39, 3) := by decide +kernel
theorem dX3_lookAllWays_17 : decode cX3_lookAllWays 17 = .ok (.getfield 64, 3) := by decide +kernel
theorem dX3_lookAllWays_20 : decode cX3_lookAllWays 20 = .ok (.iload_n 1, 1) := by decide +kernel
theorem dX3_lookAllWays_21 : decode cX3_lookAllWays 21 = .ok (.iaload, 1) := by decide +kernel
theorem dX3_lookAllWays_22 : decode cX3_lookAllWays 22 = .ok (.istore_n 2, 1) := by decide +kernel
theorem dX3_lookAllWays_23 : decode cX3_lookAllWays 23 = .ok (.iconst 0, 1) := by decide +kernel
theorem dX3_lookAllWays_24 : decode cX3_lookAllWays 24 = .ok (.istore_n 3, 1) := by decide +kernel
theorem dX3_lookAllWays_25 : decode cX3_lookAllWays 25 = .ok (.iload_n 3, 1) := by decide +kernel
theorem dX3_lookAllWays_26 : decode cX3_lookAllWays 26 = .ok (.iconst 4, 1) := by decide +kernel
theorem dX3_lookAllWays_27 : decode cX3_lookAllWays 27 = .ok (.if_icmp .ge 24, 3) := by decide +kernel
theorem dX3_lookAllWays_30 : decode cX3_lookAllWays 30 = .ok (.aload_n 0, 1) := by decide +kernel
theorem dX3_lookAllWays_31 : decode cX3_lookAllWays 31 = .ok (.getfield 39, 3) := by decide +kernel
theorem dX3_lookAllWays_34 : decode cX3_lookAllWays 34 = .ok (.getfield 64, 3) := by decide +kernel
theorem dX3_lookAllWays_37 : decode cX3_lookAllWays 37 = .ok (.iload_n 1, 1) := by decide +kernel
theorem dX3_lookAllWays_38 : decode cX3_lookAllWays 38 = .ok (.iload_n 3, 1) := by decide +kernel
theorem dX3_lookAllWays_39 : decode cX3_lookAllWays 39 = .ok (.iastore, 1) := by decide +kernel
theorem dX3_lookAllWays_40 : decode cX3_lookAllWays 40 = .ok (.aload_n 0, 1) := by decide +kernel
theorem dX3_lookAllWays_41 : decode cX3_lookAllWays 41 = .ok (.iload_n 1, 1) := by decide +kernel
theorem dX3_lookAllWays_42 : decode cX3_lookAllWays 42 = .ok (.invokevirtual 57, 3) := by decide +kernel
theorem dX3_lookAllWays_45 : decode cX3_lookAllWays 45 = .ok (.iinc 3 1, 3) := by decide +kernel
theorem dX3_lookAllWays_48 : decode cX3_lookAllWays 48 = .ok (.goto (-23), 3) := by decide +kernel
theorem dX3_lookAllWays_51 : decode cX3_lookAllWays 51 = .ok (.aload_n 0, 1) := by decide +kernel
theorem dX3_lookAllWays_52 : decode cX3_lookAllWays 52 = .ok (.getfield 39, 3) := by decide +kernel
theorem dX3_lookAllWays_55 : decode cX3_lookAllWays 55 = .ok (.getfield 64, 3) := by decide +kernel
theorem dX3_lookAllWays_58 : decode cX3_lookAllWays 58 = .ok (.iload_n 1, 1) := by decide +kernel
theorem dX3_lookAllWays_59 : decode cX3_lookAllWays 59 = .ok (.iload_n 2, 1) := by decide +kernel
theorem dX3_lookAllWays_60 : decode cX3_lookAllWays 60 = .ok (.iastore, 1) := by decide +kernel
theorem dX3_lookAllWays_61 : decode cX3_lookAllWays 61 = .ok (.iinc 1 1, 3) := by decide +kernel
theorem dX3_lookAllWays_64 : decode cX3_lookAllWays 64 = .ok (.goto (-62), 3) := by decide +kernel
theorem dX3_lookAllWays_67 : decode cX3_lookAllWays 67 = .ok (.return_, 1) := by decide +kernel
theorem dX3_worthByCode_0 : decode cX3_worthByCode 0 = .ok (.iconst 0, 1) := by decide +kernel
theorem dX3_worthByCode_1 : decode cX3_worthByCode 1 = .ok (.istore_n 2, 1) := by decide +kernel
theorem dX3_worthByCode_2 : decode cX3_worthByCode 2 = .ok (.iconst 0, 1) := by decide +kernel
theorem dX3_worthByCode_3 : decode cX3_worthByCode 3 = .ok (.istore_n 3, 1) := by decide +kernel
theorem dX3_worthByCode_4 : decode cX3_worthByCode 4 = .ok (.iconst 0, 1) := by decide +kernel
theorem dX3_worthByCode_5 : decode cX3_worthByCode 5 = .ok (.istore 4, 2) := by decide +kernel
theorem dX3_worthByCode_7 : decode cX3_worthByCode 7 = .ok (.iload 4, 2) := by decide +kernel
theorem dX3_worthByCode_9 : decode cX3_worthByCode 9 = .ok (.aload_n 0, 1) := by decide +kernel
theorem dX3_worthByCode_10 : decode cX3_worthByCode 10 = .ok (.getfield 39, 3) := by decide +kernel
theorem dX3_worthByCode_13 : decode cX3_worthByCode 13 = .ok (.getfield 51, 3) := by decide +kernel
theorem dX3_worthByCode_16 : decode cX3_worthByCode 16 = .ok (.if_icmp .ge 79, 3) := by decide +kernel
theorem dX3_worthByCode_19 : decode cX3_worthByCode 19 = .ok (.aload_n 0, 1) := by decide +kernel
theorem dX3_worthByCode_20 : decode cX3_worthByCode 20 = .ok (.getfield 30, 3) := by decide +kernel
theorem dX3_worthByCode_23 : decode cX3_worthByCode 23 = .ok (.iload 4, 2) := by decide +kernel
theorem dX3_worthByCode_25 : decode cX3_worthByCode 25 = .ok (.iaload, 1) := by decide +kernel
theorem dX3_worthByCode_26 : decode cX3_worthByCode 26 = .ok (.istore 5, 2) := by decide +kernel
theorem dX3_worthByCode_28 : decode cX3_worthByCode 28 = .ok (.aload_n 0, 1) := by decide +kernel
theorem dX3_worthByCode_29 : decode cX3_worthByCode 29 = .ok (.iload 5, 2) := by decide +kernel
theorem dX3_worthByCode_31 : decode cX3_worthByCode 31 = .ok (.iconst 4, 1) := by decide +kernel
theorem dX3_worthByCode_32 : decode cX3_worthByCode 32 = .ok (.imul, 1) := by decide +kernel
theorem dX3_worthByCode_33 : decode cX3_worthByCode 33 = .ok (.aload_n 0, 1) := by decide +kernel
theorem dX3_worthByCode_34 : decode cX3_worthByCode 34 = .ok (.iload_n 1, 1) := by decide +kernel
theorem dX3_worthByCode_35 : decode cX3_worthByCode 35 = .ok (.iload 5, 2) := by decide +kernel
theorem dX3_worthByCode_37 : decode cX3_worthByCode 37 = .ok (.invokevirtual 192, 3) := by decide +kernel
theorem dX3_worthByCode_40 : decode cX3_worthByCode 40 = .ok (.iadd, 1) := by decide +kernel
theorem dX3_worthByCode_41 : decode cX3_worthByCode 41 = .ok (.iload_n 2, 1) := by decide +kernel
theorem dX3_worthByCode_42 : decode cX3_worthByCode 42 = .ok (.invokevirtual 162, 3) := by decide +kernel
theorem dX3_worthByCode_45 : decode cX3_worthByCode 45 = .ok (.istore 6, 2) := by decide +kernel
theorem dX3_worthByCode_47 : decode cX3_worthByCode 47 = .ok (.iload_n 3, 1) := by decide +kernel
theorem dX3_worthByCode_48 : decode cX3_worthByCode 48 = .ok (.iload 6, 2) := by decide +kernel
theorem dX3_worthByCode_50 : decode cX3_worthByCode 50 = .ok (.iconst (-1), 1) := by decide +kernel
theorem dX3_worthByCode_51 : decode cX3_worthByCode 51 = .ok (.if_icmp .ne 7, 3) := by decide +kernel
theorem dX3_worthByCode_54 : decode cX3_worthByCode 54 = .ok (.iconst 0, 1) := by decide +kernel
theorem dX3_worthByCode_55 : decode cX3_worthByCode 55 = .ok (.goto 10, 3) := by decide +kernel
theorem dX3_worthByCode_58 : decode cX3_worthByCode 58 = .ok (.aload_n 0, 1) := by decide +kernel
theorem dX3_worthByCode_59 : decode cX3_worthByCode 59 = .ok (.getfield 27, 3) := by decide +kernel
theorem dX3_worthByCode_62 : decode cX3_worthByCode 62 = .ok (.iload 6, 2) := by decide +kernel
theorem dX3_worthByCode_64 : decode cX3_worthByCode 64 = .ok (.iaload, 1) := by decide +kernel
theorem dX3_worthByCode_65 : decode cX3_worthByCode 65 = .ok (.iadd, 1) := by decide +kernel
theorem dX3_worthByCode_66 : decode cX3_worthByCode 66 = .ok (.istore_n 3, 1) := by decide +kernel
theorem dX3_worthByCode_67 : decode cX3_worthByCode 67 = .ok (.iload_n 2, 1) := by decide +kernel
theorem dX3_worthByCode_68 : decode cX3_worthByCode 68 = .ok (.iload 6, 2) := by decide +kernel
theorem dX3_worthByCode_70 : decode cX3_worthByCode 70 = .ok (.iconst (-1), 1) := by decide +kernel
theorem dX3_worthByCode_71 : decode cX3_worthByCode 71 = .ok (.if_icmp .ne 7, 3) := by decide +kernel
theorem dX3_worthByCode_74 : decode cX3_worthByCode 74 = .ok (.iconst 0, 1) := by decide +kernel
theorem dX3_worthByCode_75 : decode cX3_worthByCode 75 = .ok (.goto 12, 3) := by decide +kernel
theorem dX3_worthByCode_78 : decode cX3_worthByCode 78 = .ok (.iconst 1, 1) := by decide +kernel
theorem dX3_worthByCode_79 : decode cX3_worthByCode 79 = .ok (.aload_n 0, 1) := by decide +kernel
theorem dX3_worthByCode_80 : decode cX3_worthByCode 80 = .ok (.getfield 24, 3) := by decide +kernel
theorem dX3_worthByCode_83 : decode cX3_worthByCode 83 = .ok (.iload 6, 2) := by decide +kernel
theorem dX3_worthByCode_85 : decode cX3_worthByCode 85 = .ok (.iaload, 1) := by decide +kernel
theorem dX3_worthByCode_86 : decode cX3_worthByCode 86 = .ok (.ishl, 1) := by decide +kernel
theorem dX3_worthByCode_87 : decode cX3_worthByCode 87 = .ok (.ior, 1) := by decide +kernel
theorem dX3_worthByCode_88 : decode cX3_worthByCode 88 = .ok (.istore_n 2, 1) := by decide +kernel
theorem dX3_worthByCode_89 : decode cX3_worthByCode 89 = .ok (.iinc 4 1, 3) := by decide +kernel
theorem dX3_worthByCode_92 : decode cX3_worthByCode 92 = .ok (.goto (-85), 3) := by decide +kernel
theorem dX3_worthByCode_95 : decode cX3_worthByCode 95 = .ok (.iload_n 3, 1) := by decide +kernel
theorem dX3_worthByCode_96 : decode cX3_worthByCode 96 = .ok (.ireturn, 1) := by decide +kernel
theorem dX3_wayByCode_0 : decode cX3_wayByCode 0 = .ok (.iload_n 1, 1) := by decide +kernel
theorem dX3_wayByCode_1 : decode cX3_wayByCode 1 = .ok (.iconst 2, 1) := by decide +kernel
theorem dX3_wayByCode_2 : decode cX3_wayByCode 2 = .ok (.aload_n 0, 1) := by decide +kernel
theorem dX3_wayByCode_3 : decode cX3_wayByCode 3 = .ok (.getfield 39, 3) := by decide +kernel
theorem dX3_wayByCode_6 : decode cX3_wayByCode 6 = .ok (.getfield 51, 3) := by decide +kernel
theorem dX3_wayByCode_9 : decode cX3_wayByCode 9 = .ok (.iconst 1, 1) := by decide +kernel
theorem dX3_wayByCode_10 : decode cX3_wayByCode 10 = .ok (.isub, 1) := by decide +kernel
theorem dX3_wayByCode_11 : decode cX3_wayByCode 11 = .ok (.iload_n 2, 1) := by decide +kernel
theorem dX3_wayByCode_12 : decode cX3_wayByCode 12 = .ok (.isub, 1) := by decide +kernel
theorem dX3_wayByCode_13 : decode cX3_wayByCode 13 = .ok (.imul, 1) := by decide +kernel
theorem dX3_wayByCode_14 : decode cX3_wayByCode 14 = .ok (.ishr, 1) := by decide +kernel
theorem dX3_wayByCode_15 : decode cX3_wayByCode 15 = .ok (.iconst 3, 1) := by decide +kernel
theorem dX3_wayByCode_16 : decode cX3_wayByCode 16 = .ok (.iand, 1) := by decide +kernel
theorem dX3_wayByCode_17 : decode cX3_wayByCode 17 = .ok (.ireturn, 1) := by decide +kernel
theorem dX3_digitsOf_0 : decode cX3_digitsOf 0 = .ok (.iconst 0, 1) := by decide +kernel
theorem dX3_digitsOf_1 : decode cX3_digitsOf 1 = .ok (.istore_n 2, 1) := by decide +kernel
theorem dX3_digitsOf_2 : decode cX3_digitsOf 2 = .ok (.iconst 0, 1) := by decide +kernel
theorem dX3_digitsOf_3 : decode cX3_digitsOf 3 = .ok (.istore_n 3, 1) := by decide +kernel
theorem dX3_digitsOf_4 : decode cX3_digitsOf 4 = .ok (.iload_n 3, 1) := by decide +kernel
theorem dX3_digitsOf_5 : decode cX3_digitsOf 5 = .ok (.aload_n 0, 1) := by decide +kernel
theorem dX3_digitsOf_6 : decode cX3_digitsOf 6 = .ok (.getfield 39, 3) := by decide +kernel
theorem dX3_digitsOf_9 : decode cX3_digitsOf 9 = .ok (.getfield 51, 3) := by decide +kernel
theorem dX3_digitsOf_12 : decode cX3_digitsOf 12 = .ok (.if_icmp .ge 21, 3) := by decide +kernel
theorem dX3_digitsOf_15 : decode cX3_digitsOf 15 = .ok (.bipush 10, 2) := by decide +kernel
theorem dX3_digitsOf_17 : decode cX3_digitsOf 17 = .ok (.iload_n 2, 1) := by decide +kernel
theorem dX3_digitsOf_18 : decode cX3_digitsOf 18 = .ok (.imul, 1) := by decide +kernel
theorem dX3_digitsOf_19 : decode cX3_digitsOf 19 = .ok (.aload_n 0, 1) := by decide +kernel
theorem dX3_digitsOf_20 : decode cX3_digitsOf 20 = .ok (.iload_n 1, 1) := by decide +kernel
theorem dX3_digitsOf_21 : decode cX3_digitsOf 21 = .ok (.iload_n 3, 1) := by decide +kernel
theorem dX3_digitsOf_22 : decode cX3_digitsOf 22 = .ok (.invokevirtual 192, 3) := by decide +kernel
theorem dX3_digitsOf_25 : decode cX3_digitsOf 25 = .ok (.iadd, 1) := by decide +kernel
theorem dX3_digitsOf_26 : decode cX3_digitsOf 26 = .ok (.istore_n 2, 1) := by decide +kernel
theorem dX3_digitsOf_27 : decode cX3_digitsOf 27 = .ok (.iinc 3 1, 3) := by decide +kernel
theorem dX3_digitsOf_30 : decode cX3_digitsOf 30 = .ok (.goto (-26), 3) := by decide +kernel
theorem dX3_digitsOf_33 : decode cX3_digitsOf 33 = .ok (.iload_n 2, 1) := by decide +kernel
theorem dX3_digitsOf_34 : decode cX3_digitsOf 34 = .ok (.ireturn, 1) := by decide +kernel
theorem dX4_init_0 : decode cX4_init 0 = .ok (.aload_n 0, 1) := by decide +kernel
theorem dX4_init_1 : decode cX4_init 1 = .ok (.invokespecial 1, 3) := by decide +kernel
theorem dX4_init_4 : decode cX4_init 4 = .ok (.return_, 1) := by decide +kernel
theorem dX4_shows_0 : decode cX4_shows 0 = .ok (.iload_n 1, 1) := by decide +kernel
theorem dX4_shows_1 : decode cX4_shows 1 = .ok (.iconst 1, 1) := by decide +kernel
theorem dX4_shows_2 : decode cX4_shows 2 = .ok (.if_icmp .ne 7, 3) := by decide +kernel
theorem dX4_shows_5 : decode cX4_shows 5 = .ok (.iconst 1, 1) := by decide +kernel
theorem dX4_shows_6 : decode cX4_shows 6 = .ok (.goto 4, 3) := by decide +kernel
theorem dX4_shows_9 : decode cX4_shows 9 = .ok (.iconst 0, 1) := by decide +kernel
theorem dX4_shows_10 : decode cX4_shows 10 = .ok (.ireturn, 1) := by decide +kernel
theorem dX4_worth_0 : decode cX4_worth 0 = .ok (.iload_n 1, 1) := by decide +kernel
theorem dX4_worth_1 : decode cX4_worth 1 = .ok (.iconst 2, 1) := by decide +kernel
theorem dX4_worth_2 : decode cX4_worth 2 = .ok (.idiv, 1) := by decide +kernel
theorem dX4_worth_3 : decode cX4_worth 3 = .ok (.ireturn, 1) := by decide +kernel
theorem dX5_init_0 : decode cX5_init 0 = .ok (.aload_n 0, 1) := by decide +kernel
theorem dX5_init_1 : decode cX5_init 1 = .ok (.invokespecial 3, 3) := by decide +kernel
theorem dX5_init_4 : decode cX5_init 4 = .ok (.aload_n 0, 1) := by decide +kernel
theorem dX5_init_5 : decode cX5_init 5 = .ok (.sipush 160, 3) := by decide +kernel
theorem dX5_init_8 : decode cX5_init 8 = .ok (.newarray .int, 2) := by decide +kernel
theorem dX5_init_10 : decode cX5_init 10 = .ok (.putfield 9, 3) := by decide +kernel
theorem dX5_init_13 : decode cX5_init 13 = .ok (.aload_n 0, 1) := by decide +kernel
theorem dX5_init_14 : decode cX5_init 14 = .ok (.sipush 160, 3) := by decide +kernel
theorem dX5_init_17 : decode cX5_init 17 = .ok (.newarray .int, 2) := by decide +kernel
theorem dX5_init_19 : decode cX5_init 19 = .ok (.putfield 15, 3) := by decide +kernel
theorem dX5_init_22 : decode cX5_init 22 = .ok (.return_, 1) := by decide +kernel
theorem dX5_put_0 : decode cX5_put 0 = .ok (.aload_n 0, 1) := by decide +kernel
theorem dX5_put_1 : decode cX5_put 1 = .ok (.getfield 18, 3) := by decide +kernel
theorem dX5_put_4 : decode cX5_put 4 = .ok (.sipush 160, 3) := by decide +kernel
theorem dX5_put_7 : decode cX5_put 7 = .ok (.if_icmp .lt 5, 3) := by decide +kernel
theorem dX5_put_10 : decode cX5_put 10 = .ok (.iconst 0, 1) := by decide +kernel
theorem dX5_put_11 : decode cX5_put 11 = .ok (.ireturn, 1) := by decide +kernel
theorem dX5_put_12 : decode cX5_put 12 = .ok (.aload_n 0, 1) := by decide +kernel
theorem dX5_put_13 : decode cX5_put 13 = .ok (.getfield 9, 3) := by decide +kernel
theorem dX5_put_16 : decode cX5_put 16 = .ok (.aload_n 0, 1) := by decide +kernel
theorem dX5_put_17 : decode cX5_put 17 = .ok (.getfield 18, 3) := by decide +kernel
theorem dX5_put_20 : decode cX5_put 20 = .ok (.iload_n 1, 1) := by decide +kernel
theorem dX5_put_21 : decode cX5_put 21 = .ok (.iastore, 1) := by decide +kernel
theorem dX5_put_22 : decode cX5_put 22 = .ok (.aload_n 0, 1) := by decide +kernel
theorem dX5_put_23 : decode cX5_put 23 = .ok (.dup, 1) := by decide +kernel
theorem dX5_put_24 : decode cX5_put 24 = .ok (.getfield 18, 3) := by decide +kernel
theorem dX5_put_27 : decode cX5_put 27 = .ok (.iconst 1, 1) := by decide +kernel
theorem dX5_put_28 : decode cX5_put 28 = .ok (.iadd, 1) := by decide +kernel
theorem dX5_put_29 : decode cX5_put 29 = .ok (.putfield 18, 3) := by decide +kernel
theorem dX5_put_32 : decode cX5_put 32 = .ok (.iconst 1, 1) := by decide +kernel
theorem dX5_put_33 : decode cX5_put 33 = .ok (.ireturn, 1) := by decide +kernel
theorem dX5_read_0 : decode cX5_read 0 = .ok (.aload_n 0, 1) := by decide +kernel
theorem dX5_read_1 : decode cX5_read 1 = .ok (.iconst 0, 1) := by decide +kernel
theorem dX5_read_2 : decode cX5_read 2 = .ok (.putfield 22, 3) := by decide +kernel
theorem dX5_read_5 : decode cX5_read 5 = .ok (.aload_n 0, 1) := by decide +kernel
theorem dX5_read_6 : decode cX5_read 6 = .ok (.iconst 0, 1) := by decide +kernel
theorem dX5_read_7 : decode cX5_read 7 = .ok (.putfield 25, 3) := by decide +kernel
theorem dX5_read_10 : decode cX5_read 10 = .ok (.aload_n 0, 1) := by decide +kernel
theorem dX5_read_11 : decode cX5_read 11 = .ok (.invokevirtual 28, 3) := by decide +kernel
theorem dX5_read_14 : decode cX5_read 14 = .ok (.aload_n 0, 1) := by decide +kernel
theorem dX5_read_15 : decode cX5_read 15 = .ok (.iconst 4, 1) := by decide +kernel
theorem dX5_read_16 : decode cX5_read 16 = .ok (.invokevirtual 31, 3) := by decide +kernel
theorem dX5_read_19 : decode cX5_read 19 = .ok (.ifCond .ne 5, 3) := by decide +kernel
theorem dX5_read_22 : decode cX5_read 22 = .ok (.aconst_null, 1) := by decide +kernel
theorem dX5_read_23 : decode cX5_read 23 = .ok (.areturn, 1) := by decide +kernel
theorem dX5_read_24 : decode cX5_read 24 = .ok (.aload_n 0, 1) := by decide +kernel
theorem dX5_read_25 : decode cX5_read 25 = .ok (.getfield 25, 3) := by decide +kernel
theorem dX5_read_28 : decode cX5_read 28 = .ok (.istore_n 1, 1) := by decide +kernel
theorem dX5_read_29 : decode cX5_read 29 = .ok (.aload_n 0, 1) := by decide +kernel
theorem dX5_read_30 : decode cX5_read 30 = .ok (.iconst 5, 1) := by decide +kernel
theorem dX5_read_31 : decode cX5_read 31 = .ok (.invokevirtual 31, 3) := by decide +kernel
theorem dX5_read_34 : decode cX5_read 34 = .ok (.ifCond .ne 5, 3) := by decide +kernel
theorem dX5_read_37 : decode cX5_read 37 = .ok (.aconst_null, 1) := by decide +kernel
theorem dX5_read_38 : decode cX5_read 38 = .ok (.areturn, 1) := by decide +kernel
theorem dX5_read_39 : decode cX5_read 39 = .ok (.aload_n 0, 1) := by decide +kernel
theorem dX5_read_40 : decode cX5_read 40 = .ok (.getfield 25, 3) := by decide +kernel
theorem dX5_read_43 : decode cX5_read 43 = .ok (.istore_n 2, 1) := by decide +kernel
theorem dX5_read_44 : decode cX5_read 44 = .ok (.aload_n 0, 1) := by decide +kernel
theorem dX5_read_45 : decode cX5_read 45 = .ok (.bipush 6, 2) := by decide +kernel
theorem dX5_read_47 : decode cX5_read 47 = .ok (.invokevirtual 31, 3) := by decide +kernel
theorem dX5_read_50 : decode cX5_read 50 = .ok (.ifCond .eq 10, 3) := by decide +kernel
theorem dX5_read_53 : decode cX5_read 53 = .ok (.aload_n 0, 1) := by decide +kernel
theorem dX5_read_54 : decode cX5_read 54 = .ok (.getfield 35, 3) := by decide +kernel
theorem dX5_read_57 : decode cX5_read 57 = .ok (.ifCond .eq 5, 3) := by decide +kernel
theorem dX5_read_60 : decode cX5_read 60 = .ok (.aconst_null, 1) := by decide +kernel
theorem dX5_read_61 : decode cX5_read 61 = .ok (.areturn, 1) := by decide +kernel
theorem dX5_read_62 : decode cX5_read 62 = .ok (.new 38, 3) := by decide +kernel
theorem dX5_read_65 : decode cX5_read 65 = .ok (.dup, 1) := by decide +kernel
theorem dX5_read_66 : decode cX5_read 66 = .ok (.aload_n 0, 1) := by decide +kernel
theorem dX5_read_67 : decode cX5_read 67 = .ok (.getfield 15, 3) := by decide +kernel
theorem dX5_read_70 : decode cX5_read 70 = .ok (.aload_n 0, 1) := by decide +kernel
theorem dX5_read_71 : decode cX5_read 71 = .ok (.getfield 25, 3) := by decide +kernel
theorem dX5_read_74 : decode cX5_read 74 = .ok (.invokestatic 40, 3) := by decide +kernel
theorem dX5_read_77 : decode cX5_read 77 = .ok (.iload_n 1, 1) := by decide +kernel
theorem dX5_read_78 : decode cX5_read 78 = .ok (.iload_n 2, 1) := by decide +kernel
theorem dX5_read_79 : decode cX5_read 79 = .ok (.invokespecial 46, 3) := by decide +kernel
theorem dX5_read_82 : decode cX5_read 82 = .ok (.areturn, 1) := by decide +kernel
theorem dX5_readPart_0 : decode cX5_readPart 0 = .ok (.aload_n 0, 1) := by decide +kernel
theorem dX5_readPart_1 : decode cX5_readPart 1 = .ok (.iload_n 1, 1) := by decide +kernel
theorem dX5_readPart_2 : decode cX5_readPart 2 = .ok (.invokevirtual 49, 3) := by decide +kernel
theorem dX5_readPart_5 : decode cX5_readPart 5 = .ok (.ifCond .eq 24, 3) := by decide +kernel
theorem dX5_readPart_8 : decode cX5_readPart 8 = .ok (.aload_n 0, 1) := by decide +kernel
theorem dX5_readPart_9 : decode cX5_readPart 9 = .ok (.iconst 0, 1) := by decide +kernel
theorem dX5_readPart_10 : decode cX5_readPart 10 = .ok (.invokevirtual 52, 3) := by decide +kernel
theorem dX5_readPart_13 : decode cX5_readPart 13 = .ok (.ifCond .eq 16, 3) := by decide +kernel
theorem dX5_readPart_16 : decode cX5_readPart 16 = .ok (.aload_n 0, 1) := by decide +kernel
theorem dX5_readPart_17 : decode cX5_readPart 17 = .ok (.bipush 59, 2) := by decide +kernel
theorem dX5_readPart_19 : decode cX5_readPart 19 = .ok (.invokevirtual 49, 3) := by decide +kernel
theorem dX5_readPart_22 : decode cX5_readPart 22 = .ok (.ifCond .eq 7, 3) := by decide +kernel
theorem dX5_readPart_25 : decode cX5_readPart 25 = .ok (.iconst 1, 1) := by decide +kernel
theorem dX5_readPart_26 : decode cX5_readPart 26 = .ok (.goto 4, 3) := by decide +kernel
theorem dX5_readPart_29 : decode cX5_readPart 29 = .ok (.iconst 0, 1) := by decide +kernel
theorem dX5_readPart_30 : decode cX5_readPart 30 = .ok (.ireturn, 1) := by decide +kernel
theorem dX5_skip_0 : decode cX5_skip 0 = .ok (.aload_n 0, 1) := by decide +kernel
theorem dX5_skip_1 : decode cX5_skip 1 = .ok (.getfield 35, 3) := by decide +kernel
theorem dX5_skip_4 : decode cX5_skip 4 = .ok (.iload_n 1, 1) := by decide +kernel
theorem dX5_skip_5 : decode cX5_skip 5 = .ok (.if_icmp .eq 5, 3) := by decide +kernel
theorem dX5_skip_8 : decode cX5_skip 8 = .ok (.iconst 0, 1) := by decide +kernel
theorem dX5_skip_9 : decode cX5_skip 9 = .ok (.ireturn, 1) := by decide +kernel
theorem dX5_skip_10 : decode cX5_skip 10 = .ok (.aload_n 0, 1) := by decide +kernel
theorem dX5_skip_11 : decode cX5_skip 11 = .ok (.invokevirtual 28, 3) := by decide +kernel
theorem dX5_skip_14 : decode cX5_skip 14 = .ok (.iconst 1, 1) := by decide +kernel
theorem dX5_skip_15 : decode cX5_skip 15 = .ok (.ireturn, 1) := by decide +kernel
theorem dX5_readOr_0 : decode cX5_readOr 0 = .ok (.aload_n 0, 1) := by decide +kernel
theorem dX5_readOr_1 : decode cX5_readOr 1 = .ok (.iload_n 1, 1) := by decide +kernel
theorem dX5_readOr_2 : decode cX5_readOr 2 = .ok (.invokevirtual 55, 3) := by decide +kernel
theorem dX5_readOr_5 : decode cX5_readOr 5 = .ok (.istore_n 2, 1) := by decide +kernel
theorem dX5_readOr_6 : decode cX5_readOr 6 = .ok (.iconst 0, 1) := by decide +kernel
theorem dX5_readOr_7 : decode cX5_readOr 7 = .ok (.istore_n 3, 1) := by decide +kernel
theorem dX5_readOr_8 : decode cX5_readOr 8 = .ok (.iload_n 3, 1) := by decide +kernel
theorem dX5_readOr_9 : decode cX5_readOr 9 = .ok (.sipush 160, 3) := by decide +kernel
theorem dX5_readOr_12 : decode cX5_readOr 12 = .ok (.if_icmp .ge 38, 3) := by decide +kernel
theorem dX5_readOr_15 : decode cX5_readOr 15 = .ok (.iload_n 2, 1) := by decide +kernel
theorem dX5_readOr_16 : decode cX5_readOr 16 = .ok (.ifCond .eq 34, 3) := by decide +kernel
theorem dX5_readOr_19 : decode cX5_readOr 19 = .ok (.aload_n 0, 1) := by decide +kernel
theorem dX5_readOr_20 : decode cX5_readOr 20 = .ok (.getfield 35, 3) := by decide +kernel
theorem dX5_readOr_23 : decode cX5_readOr 23 = .ok (.bipush 7, 2) := by decide +kernel
theorem dX5_readOr_25 : decode cX5_readOr 25 = .ok (.if_icmp .ne 25, 3) := by decide +kernel
theorem dX5_readOr_28 : decode cX5_readOr 28 = .ok (.aload_n 0, 1) := by decide +kernel
theorem dX5_readOr_29 : decode cX5_readOr 29 = .ok (.invokevirtual 28, 3) := by decide +kernel
theorem dX5_readOr_32 : decode cX5_readOr 32 = .ok (.aload_n 0, 1) := by decide +kernel
theorem dX5_readOr_33 : decode cX5_readOr 33 = .ok (.iload_n 1, 1) := by decide +kernel
theorem dX5_readOr_34 : decode cX5_readOr 34 = .ok (.invokevirtual 55, 3) := by decide +kernel
theorem dX5_readOr_37 : decode cX5_readOr 37 = .ok (.istore_n 2, 1) := by decide +kernel
theorem dX5_readOr_38 : decode cX5_readOr 38 = .ok (.aload_n 0, 1) := by decide +kernel
theorem dX5_readOr_39 : decode cX5_readOr 39 = .ok (.bipush (-7), 2) := by decide +kernel
theorem dX5_readOr_41 : decode cX5_readOr 41 = .ok (.invokevirtual 58, 3) := by decide +kernel
theorem dX5_readOr_44 : decode cX5_readOr 44 = .ok (.iinc 3 1, 3) := by decide +kernel
theorem dX5_readOr_47 : decode cX5_readOr 47 = .ok (.goto (-39), 3) := by decide +kernel
theorem dX5_readOr_50 : decode cX5_readOr 50 = .ok (.iload_n 2, 1) := by decide +kernel
theorem dX5_readOr_51 : decode cX5_readOr 51 = .ok (.ireturn, 1) := by decide +kernel
theorem dX5_readAnd_0 : decode cX5_readAnd 0 = .ok (.aload_n 0, 1) := by decide +kernel
theorem dX5_readAnd_1 : decode cX5_readAnd 1 = .ok (.iload_n 1, 1) := by decide +kernel
theorem dX5_readAnd_2 : decode cX5_readAnd 2 = .ok (.invokevirtual 62, 3) := by decide +kernel
theorem dX5_readAnd_5 : decode cX5_readAnd 5 = .ok (.istore_n 2, 1) := by decide +kernel
theorem dX5_readAnd_6 : decode cX5_readAnd 6 = .ok (.iconst 0, 1) := by decide +kernel
theorem dX5_readAnd_7 : decode cX5_readAnd 7 = .ok (.istore_n 3, 1) := by decide +kernel
theorem dX5_readAnd_8 : decode cX5_readAnd 8 = .ok (.iload_n 3, 1) := by decide +kernel
theorem dX5_readAnd_9 : decode cX5_readAnd 9 = .ok (.sipush 160, 3) := by decide +kernel
theorem dX5_readAnd_12 : decode cX5_readAnd 12 = .ok (.if_icmp .ge 38, 3) := by decide +kernel
theorem dX5_readAnd_15 : decode cX5_readAnd 15 = .ok (.iload_n 2, 1) := by decide +kernel
theorem dX5_readAnd_16 : decode cX5_readAnd 16 = .ok (.ifCond .eq 34, 3) := by decide +kernel
theorem dX5_readAnd_19 : decode cX5_readAnd 19 = .ok (.aload_n 0, 1) := by decide +kernel
theorem dX5_readAnd_20 : decode cX5_readAnd 20 = .ok (.getfield 35, 3) := by decide +kernel
theorem dX5_readAnd_23 : decode cX5_readAnd 23 = .ok (.bipush 8, 2) := by decide +kernel
theorem dX5_readAnd_25 : decode cX5_readAnd 25 = .ok (.if_icmp .ne 25, 3) := by decide +kernel
theorem dX5_readAnd_28 : decode cX5_readAnd 28 = .ok (.aload_n 0, 1) := by decide +kernel
theorem dX5_readAnd_29 : decode cX5_readAnd 29 = .ok (.invokevirtual 28, 3) := by decide +kernel
theorem dX5_readAnd_32 : decode cX5_readAnd 32 = .ok (.aload_n 0, 1) := by decide +kernel
theorem dX5_readAnd_33 : decode cX5_readAnd 33 = .ok (.iload_n 1, 1) := by decide +kernel
theorem dX5_readAnd_34 : decode cX5_readAnd 34 = .ok (.invokevirtual 62, 3) := by decide +kernel
theorem dX5_readAnd_37 : decode cX5_readAnd 37 = .ok (.istore_n 2, 1) := by decide +kernel
theorem dX5_readAnd_38 : decode cX5_readAnd 38 = .ok (.aload_n 0, 1) := by decide +kernel
theorem dX5_readAnd_39 : decode cX5_readAnd 39 = .ok (.bipush (-8), 2) := by decide +kernel
theorem dX5_readAnd_41 : decode cX5_readAnd 41 = .ok (.invokevirtual 58, 3) := by decide +kernel
theorem dX5_readAnd_44 : decode cX5_readAnd 44 = .ok (.iinc 3 1, 3) := by decide +kernel
theorem dX5_readAnd_47 : decode cX5_readAnd 47 = .ok (.goto (-39), 3) := by decide +kernel
theorem dX5_readAnd_50 : decode cX5_readAnd 50 = .ok (.iload_n 2, 1) := by decide +kernel
theorem dX5_readAnd_51 : decode cX5_readAnd 51 = .ok (.ireturn, 1) := by decide +kernel
theorem dX5_readNot_0 : decode cX5_readNot 0 = .ok (.aload_n 0, 1) := by decide +kernel
theorem dX5_readNot_1 : decode cX5_readNot 1 = .ok (.getfield 35, 3) := by decide +kernel
theorem dX5_readNot_4 : decode cX5_readNot 4 = .ok (.bipush 9, 2) := by decide +kernel
theorem dX5_readNot_6 : decode cX5_readNot 6 = .ok (.if_icmp .eq 9, 3) := by decide +kernel
theorem dX5_readNot_9 : decode cX5_readNot 9 = .ok (.aload_n 0, 1) := by decide +kernel
theorem dX5_readNot_10 : decode cX5_readNot 10 = .ok (.iload_n 1, 1) := by decide +kernel
theorem dX5_readNot_11 : decode cX5_readNot 11 = .ok (.invokevirtual 65, 3) := by decide +kernel
theorem dX5_readNot_14 : decode cX5_readNot 14 = .ok (.ireturn, 1) := by decide +kernel
theorem dX5_readNot_15 : decode cX5_readNot 15 = .ok (.iload_n 1, 1) := by decide +kernel
theorem dX5_readNot_16 : decode cX5_readNot 16 = .ok (.iconst 5, 1) := by decide +kernel
theorem dX5_readNot_17 : decode cX5_readNot 17 = .ok (.if_icmp .lt 5, 3) := by decide +kernel
theorem dX5_readNot_20 : decode cX5_readNot 20 = .ok (.iconst 0, 1) := by decide +kernel
theorem dX5_readNot_21 : decode cX5_readNot 21 = .ok (.ireturn, 1) := by decide +kernel
theorem dX5_readNot_22 : decode cX5_readNot 22 = .ok (.aload_n 0, 1) := by decide +kernel
theorem dX5_readNot_23 : decode cX5_readNot 23 = .ok (.invokevirtual 28, 3) := by decide +kernel
theorem dX5_readNot_26 : decode cX5_readNot 26 = .ok (.aload_n 0, 1) := by decide +kernel
theorem dX5_readNot_27 : decode cX5_readNot 27 = .ok (.iload_n 1, 1) := by decide +kernel
theorem dX5_readNot_28 : decode cX5_readNot 28 = .ok (.iconst 1, 1) := by decide +kernel
theorem dX5_readNot_29 : decode cX5_readNot 29 = .ok (.iadd, 1) := by decide +kernel
theorem dX5_readNot_30 : decode cX5_readNot 30 = .ok (.invokevirtual 62, 3) := by decide +kernel
theorem dX5_readNot_33 : decode cX5_readNot 33 = .ok (.istore_n 2, 1) := by decide +kernel
theorem dX5_readNot_34 : decode cX5_readNot 34 = .ok (.aload_n 0, 1) := by decide +kernel
theorem dX5_readNot_35 : decode cX5_readNot 35 = .ok (.bipush (-9), 2) := by decide +kernel
theorem dX5_readNot_37 : decode cX5_readNot 37 = .ok (.invokevirtual 58, 3) := by decide +kernel
theorem dX5_readNot_40 : decode cX5_readNot 40 = .ok (.iload_n 2, 1) := by decide +kernel
theorem dX5_readNot_41 : decode cX5_readNot 41 = .ok (.ireturn, 1) := by decide +kernel
theorem dX5_readComparison_0 : decode cX5_readComparison 0 = .ok (.aload_n 0, 1) := by decide +kernel
theorem dX5_readComparison_1 : decode cX5_readComparison 1 = .ok (.iload_n 1, 1) := by decide +kernel
theorem dX5_readComparison_2 : decode cX5_readComparison 2 = .ok (.invokevirtual 68, 3) := by decide +kernel
theorem dX5_readComparison_5 : decode cX5_readComparison 5 = .ok (.ifCond .ne 5, 3) := by decide +kernel
theorem dX5_readComparison_8 : decode cX5_readComparison 8 = .ok (.iconst 0, 1) := by decide +kernel
theorem dX5_readComparison_9 : decode cX5_readComparison 9 = .ok (.ireturn, 1) := by decide +kernel
theorem dX5_readComparison_10 : decode cX5_readComparison 10 = .ok (.aload_n 0, 1) := by decide +kernel
theorem dX5_readComparison_11 : decode cX5_readComparison 11 = .ok (.getfield 35, 3) := by decide +kernel
theorem dX5_readComparison_14 : decode cX5_readComparison 14 = .ok (.bipush 60, 2) := by decide +kernel
theorem dX5_readComparison_16 : decode cX5_readComparison 16 = .ok (.if_icmp .eq 14, 3) := by decide +kernel
theorem dX5_readComparison_19 : decode cX5_readComparison 19 = .ok (.aload_n 0, 1) := by decide +kernel
theorem dX5_readComparison_20 : decode cX5_readComparison 20 = .ok (.getfield 35, 3) := by decide +kernel
theorem dX5_readComparison_23 : decode cX5_readComparison 23 = .ok (.bipush 61, 2) := by decide +kernel
theorem dX5_readComparison_25 : decode cX5_readComparison 25 = .ok (.if_icmp .eq 5, 3) := by decide +kernel
theorem dX5_readComparison_28 : decode cX5_readComparison 28 = .ok (.iconst 1, 1) := by decide +kernel
theorem dX5_readComparison_29 : decode cX5_readComparison 29 = .ok (.ireturn, 1) := by decide +kernel
theorem dX5_readComparison_30 : decode cX5_readComparison 30 = .ok (.aload_n 0, 1) := by decide +kernel
theorem dX5_readComparison_31 : decode cX5_readComparison 31 = .ok (.getfield 35, 3) := by decide +kernel
theorem dX5_readComparison_34 : decode cX5_readComparison 34 = .ok (.bipush 60, 2) := by decide +kernel
theorem dX5_readComparison_36 : decode cX5_readComparison 36 = .ok (.if_icmp .ne 8, 3) := by decide +kernel
theorem dX5_readComparison_39 : decode cX5_readComparison 39 = .ok (.bipush (-10), 2) := by decide +kernel
theorem dX5_readComparison_41 : decode cX5_readComparison 41 = .ok (.goto 5, 3) := by decide +kernel
theorem dX5_readComparison_44 : decode cX5_readComparison 44 = .ok (.bipush (-11), 2) := by decide +kernel
theorem dX5_readComparison_46 : decode cX5_readComparison 46 = .ok (.istore_n 2, 1) := by decide +kernel
theorem dX5_readComparison_47 : decode cX5_readComparison 47 = .ok (.aload_n 0, 1) := by decide +kernel
theorem dX5_readComparison_48 : decode cX5_readComparison 48 = .ok (.invokevirtual 28, 3) := by decide +kernel
theorem dX5_readComparison_51 : decode cX5_readComparison 51 = .ok (.aload_n 0, 1) := by decide +kernel
theorem dX5_readComparison_52 : decode cX5_readComparison 52 = .ok (.iload_n 1, 1) := by decide +kernel
theorem dX5_readComparison_53 : decode cX5_readComparison 53 = .ok (.invokevirtual 68, 3) := by decide +kernel
theorem dX5_readComparison_56 : decode cX5_readComparison 56 = .ok (.istore_n 3, 1) := by decide +kernel
theorem dX5_readComparison_57 : decode cX5_readComparison 57 = .ok (.aload_n 0, 1) := by decide +kernel
theorem dX5_readComparison_58 : decode cX5_readComparison 58 = .ok (.iload_n 2, 1) := by decide +kernel
theorem dX5_readComparison_59 : decode cX5_readComparison 59 = .ok (.invokevirtual 58, 3) := by decide +kernel
theorem dX5_readComparison_62 : decode cX5_readComparison 62 = .ok (.iload_n 3, 1) := by decide +kernel
theorem dX5_readComparison_63 : decode cX5_readComparison 63 = .ok (.ireturn, 1) := by decide +kernel
theorem dX5_readSum_0 : decode cX5_readSum 0 = .ok (.aload_n 0, 1) := by decide +kernel
theorem dX5_readSum_1 : decode cX5_readSum 1 = .ok (.iload_n 1, 1) := by decide +kernel
theorem dX5_readSum_2 : decode cX5_readSum 2 = .ok (.invokevirtual 71, 3) := by decide +kernel
theorem dX5_readSum_5 : decode cX5_readSum 5 = .ok (.istore_n 2, 1) := by decide +kernel
theorem dX5_readSum_6 : decode cX5_readSum 6 = .ok (.iconst 0, 1) := by decide +kernel
theorem dX5_readSum_7 : decode cX5_readSum 7 = .ok (.istore_n 3, 1) := by decide +kernel
theorem dX5_readSum_8 : decode cX5_readSum 8 = .ok (.iload_n 3, 1) := by decide +kernel
theorem dX5_readSum_9 : decode cX5_readSum 9 = .ok (.sipush 160, 3) := by decide +kernel
theorem dX5_readSum_12 : decode cX5_readSum 12 = .ok (.if_icmp .ge 65, 3) := by decide +kernel
theorem dX5_readSum_15 : decode cX5_readSum 15 = .ok (.iload_n 2, 1) := by decide +kernel
theorem dX5_readSum_16 : decode cX5_readSum 16 = .ok (.ifCond .eq 61, 3) := by decide +kernel
theorem dX5_readSum_19 : decode cX5_readSum 19 = .ok (.aload_n 0, 1) := by decide +kernel
theorem dX5_readSum_20 : decode cX5_readSum 20 = .ok (.getfield 35, 3) := by decide +kernel
theorem dX5_readSum_23 : decode cX5_readSum 23 = .ok (.bipush 43, 2) := by decide +kernel
theorem dX5_readSum_25 : decode cX5_readSum 25 = .ok (.if_icmp .eq 12, 3) := by decide +kernel
theorem dX5_readSum_28 : decode cX5_readSum 28 = .ok (.aload_n 0, 1) := by decide +kernel
theorem dX5_readSum_29 : decode cX5_readSum 29 = .ok (.getfield 35, 3) := by decide +kernel
theorem dX5_readSum_32 : decode cX5_readSum 32 = .ok (.bipush 45, 2) := by decide +kernel
theorem dX5_readSum_34 : decode cX5_readSum 34 = .ok (.if_icmp .ne 43, 3) := by decide +kernel
theorem dX5_readSum_37 : decode cX5_readSum 37 = .ok (.aload_n 0, 1) := by decide +kernel
theorem dX5_readSum_38 : decode cX5_readSum 38 = .ok (.getfield 35, 3) := by decide +kernel
theorem dX5_readSum_41 : decode cX5_readSum 41 = .ok (.bipush 43, 2) := by decide +kernel
theorem dX5_readSum_43 : decode cX5_readSum 43 = .ok (.if_icmp .ne 8, 3) := by decide +kernel
theorem dX5_readSum_46 : decode cX5_readSum 46 = .ok (.bipush (-12), 2) := by decide +kernel
theorem dX5_readSum_48 : decode cX5_readSum 48 = .ok (.goto 5, 3) := by decide +kernel
theorem dX5_readSum_51 : decode cX5_readSum 51 = .ok (.bipush (-13), 2) := by decide +kernel
theorem dX5_readSum_53 : decode cX5_readSum 53 = .ok (.istore 4, 2) := by decide +kernel
theorem dX5_readSum_55 : decode cX5_readSum 55 = .ok (.aload_n 0, 1) := by decide +kernel
theorem dX5_readSum_56 : decode cX5_readSum 56 = .ok (.invokevirtual 28, 3) := by decide +kernel
theorem dX5_readSum_59 : decode cX5_readSum 59 = .ok (.aload_n 0, 1) := by decide +kernel
theorem dX5_readSum_60 : decode cX5_readSum 60 = .ok (.iload_n 1, 1) := by decide +kernel
theorem dX5_readSum_61 : decode cX5_readSum 61 = .ok (.invokevirtual 71, 3) := by decide +kernel
theorem dX5_readSum_64 : decode cX5_readSum 64 = .ok (.istore_n 2, 1) := by decide +kernel
theorem dX5_readSum_65 : decode cX5_readSum 65 = .ok (.aload_n 0, 1) := by decide +kernel
theorem dX5_readSum_66 : decode cX5_readSum 66 = .ok (.iload 4, 2) := by decide +kernel
theorem dX5_readSum_68 : decode cX5_readSum 68 = .ok (.invokevirtual 58, 3) := by decide +kernel
theorem dX5_readSum_71 : decode cX5_readSum 71 = .ok (.iinc 3 1, 3) := by decide +kernel
theorem dX5_readSum_74 : decode cX5_readSum 74 = .ok (.goto (-66), 3) := by decide +kernel
theorem dX5_readSum_77 : decode cX5_readSum 77 = .ok (.iload_n 2, 1) := by decide +kernel
theorem dX5_readSum_78 : decode cX5_readSum 78 = .ok (.ireturn, 1) := by decide +kernel
theorem dX5_readTerm_0 : decode cX5_readTerm 0 = .ok (.aload_n 0, 1) := by decide +kernel
theorem dX5_readTerm_1 : decode cX5_readTerm 1 = .ok (.iload_n 1, 1) := by decide +kernel
theorem dX5_readTerm_2 : decode cX5_readTerm 2 = .ok (.invokevirtual 74, 3) := by decide +kernel
theorem dX5_readTerm_5 : decode cX5_readTerm 5 = .ok (.istore_n 2, 1) := by decide +kernel
theorem dX5_readTerm_6 : decode cX5_readTerm 6 = .ok (.iconst 0, 1) := by decide +kernel
theorem dX5_readTerm_7 : decode cX5_readTerm 7 = .ok (.istore_n 3, 1) := by decide +kernel
theorem dX5_readTerm_8 : decode cX5_readTerm 8 = .ok (.iload_n 3, 1) := by decide +kernel
theorem dX5_readTerm_9 : decode cX5_readTerm 9 = .ok (.sipush 160, 3) := by decide +kernel
theorem dX5_readTerm_12 : decode cX5_readTerm 12 = .ok (.if_icmp .ge 38, 3) := by decide +kernel
theorem dX5_readTerm_15 : decode cX5_readTerm 15 = .ok (.iload_n 2, 1) := by decide +kernel
theorem dX5_readTerm_16 : decode cX5_readTerm 16 = .ok (.ifCond .eq 34, 3) := by decide +kernel
theorem dX5_readTerm_19 : decode cX5_readTerm 19 = .ok (.aload_n 0, 1) := by decide +kernel
theorem dX5_readTerm_20 : decode cX5_readTerm 20 = .ok (.getfield 35, 3) := by decide +kernel
theorem dX5_readTerm_23 : decode cX5_readTerm 23 = .ok (.bipush 42, 2) := by decide +kernel
theorem dX5_readTerm_25 : decode cX5_readTerm 25 = .ok (.if_icmp .ne 25, 3) := by decide +kernel
theorem dX5_readTerm_28 : decode cX5_readTerm 28 = .ok (.aload_n 0, 1) := by decide +kernel
theorem dX5_readTerm_29 : decode cX5_readTerm 29 = .ok (.invokevirtual 28, 3) := by decide +kernel
theorem dX5_readTerm_32 : decode cX5_readTerm 32 = .ok (.aload_n 0, 1) := by decide +kernel
theorem dX5_readTerm_33 : decode cX5_readTerm 33 = .ok (.iload_n 1, 1) := by decide +kernel
theorem dX5_readTerm_34 : decode cX5_readTerm 34 = .ok (.invokevirtual 74, 3) := by decide +kernel
theorem dX5_readTerm_37 : decode cX5_readTerm 37 = .ok (.istore_n 2, 1) := by decide +kernel
theorem dX5_readTerm_38 : decode cX5_readTerm 38 = .ok (.aload_n 0, 1) := by decide +kernel
theorem dX5_readTerm_39 : decode cX5_readTerm 39 = .ok (.bipush (-14), 2) := by decide +kernel
theorem dX5_readTerm_41 : decode cX5_readTerm 41 = .ok (.invokevirtual 58, 3) := by decide +kernel
theorem dX5_readTerm_44 : decode cX5_readTerm 44 = .ok (.iinc 3 1, 3) := by decide +kernel
theorem dX5_readTerm_47 : decode cX5_readTerm 47 = .ok (.goto (-39), 3) := by decide +kernel
theorem dX5_readTerm_50 : decode cX5_readTerm 50 = .ok (.iload_n 2, 1) := by decide +kernel
theorem dX5_readTerm_51 : decode cX5_readTerm 51 = .ok (.ireturn, 1) := by decide +kernel
theorem dX5_readOne_0 : decode cX5_readOne 0 = .ok (.aload_n 0, 1) := by decide +kernel
theorem dX5_readOne_1 : decode cX5_readOne 1 = .ok (.getfield 35, 3) := by decide +kernel
theorem dX5_readOne_4 : decode cX5_readOne 4 = .ok (.iconst 2, 1) := by decide +kernel
theorem dX5_readOne_5 : decode cX5_readOne 5 = .ok (.if_icmp .eq 11, 3) := by decide +kernel
theorem dX5_readOne_8 : decode cX5_readOne 8 = .ok (.aload_n 0, 1) := by decide +kernel
theorem dX5_readOne_9 : decode cX5_readOne 9 = .ok (.getfield 35, 3) := by decide +kernel
theorem dX5_readOne_12 : decode cX5_readOne 12 = .ok (.iconst 3, 1) := by decide +kernel
theorem dX5_readOne_13 : decode cX5_readOne 13 = .ok (.if_icmp .ne 34, 3) := by decide +kernel
theorem dX5_readOne_16 : decode cX5_readOne 16 = .ok (.aload_n 0, 1) := by decide +kernel
theorem dX5_readOne_17 : decode cX5_readOne 17 = .ok (.aload_n 0, 1) := by decide +kernel
theorem dX5_readOne_18 : decode cX5_readOne 18 = .ok (.getfield 35, 3) := by decide +kernel
theorem dX5_readOne_21 : decode cX5_readOne 21 = .ok (.iconst 2, 1) := by decide +kernel
theorem dX5_readOne_22 : decode cX5_readOne 22 = .ok (.if_icmp .ne 10, 3) := by decide +kernel
theorem dX5_readOne_25 : decode cX5_readOne 25 = .ok (.aload_n 0, 1) := by decide +kernel
theorem dX5_readOne_26 : decode cX5_readOne 26 = .ok (.getfield 77, 3) := by decide +kernel
theorem dX5_readOne_29 : decode cX5_readOne 29 = .ok (.goto 9, 3) := by decide +kernel
theorem dX5_readOne_32 : decode cX5_readOne 32 = .ok (.iconst (-1), 1) := by decide +kernel
theorem dX5_readOne_33 : decode cX5_readOne 33 = .ok (.aload_n 0, 1) := by decide +kernel
theorem dX5_readOne_34 : decode cX5_readOne 34 = .ok (.getfield 77, 3) := by decide +kernel
theorem dX5_readOne_37 : decode cX5_readOne 37 = .ok (.isub, 1) := by decide +kernel
theorem dX5_readOne_38 : decode cX5_readOne 38 = .ok (.invokevirtual 58, 3) := by decide +kernel
theorem dX5_readOne_41 : decode cX5_readOne 41 = .ok (.aload_n 0, 1) := by decide +kernel
theorem dX5_readOne_42 : decode cX5_readOne 42 = .ok (.invokevirtual 28, 3) := by decide +kernel
theorem dX5_readOne_45 : decode cX5_readOne 45 = .ok (.iconst 1, 1) := by decide +kernel
theorem dX5_readOne_46 : decode cX5_readOne 46 = .ok (.ireturn, 1) := by decide +kernel
theorem dX5_readOne_47 : decode cX5_readOne 47 = .ok (.aload_n 0, 1) := by decide +kernel
theorem dX5_readOne_48 : decode cX5_readOne 48 = .ok (.getfield 35, 3) := by decide +kernel
theorem dX5_readOne_51 : decode cX5_readOne 51 = .ok (.bipush 45, 2) := by decide +kernel
theorem dX5_readOne_53 : decode cX5_readOne 53 = .ok (.if_icmp .eq 12, 3) := by decide +kernel
theorem dX5_readOne_56 : decode cX5_readOne 56 = .ok (.aload_n 0, 1) := by decide +kernel
theorem dX5_readOne_57 : decode cX5_readOne 57 = .ok (.getfield 35, 3) := by decide +kernel
theorem dX5_readOne_60 : decode cX5_readOne 60 = .ok (.bipush 40, 2) := by decide +kernel
theorem dX5_readOne_62 : decode cX5_readOne 62 = .ok (.if_icmp .ne 8, 3) := by decide +kernel
theorem dX5_readOne_65 : decode cX5_readOne 65 = .ok (.iload_n 1, 1) := by decide +kernel
theorem dX5_readOne_66 : decode cX5_readOne 66 = .ok (.iconst 5, 1) := by decide +kernel
theorem dX5_readOne_67 : decode cX5_readOne 67 = .ok (.if_icmp .lt 5, 3) := by decide +kernel
theorem dX5_readOne_70 : decode cX5_readOne 70 = .ok (.iconst 0, 1) := by decide +kernel
theorem dX5_readOne_71 : decode cX5_readOne 71 = .ok (.ireturn, 1) := by decide +kernel
theorem dX5_readOne_72 : decode cX5_readOne 72 = .ok (.aload_n 0, 1) := by decide +kernel
theorem dX5_readOne_73 : decode cX5_readOne 73 = .ok (.getfield 35, 3) := by decide +kernel
theorem dX5_readOne_76 : decode cX5_readOne 76 = .ok (.bipush 40, 2) := by decide +kernel
theorem dX5_readOne_78 : decode cX5_readOne 78 = .ok (.if_icmp .ne 32, 3) := by decide +kernel
theorem dX5_readOne_81 : decode cX5_readOne 81 = .ok (.aload_n 0, 1) := by decide +kernel
theorem dX5_readOne_82 : decode cX5_readOne 82 = .ok (.invokevirtual 28, 3) := by decide +kernel
theorem dX5_readOne_85 : decode cX5_readOne 85 = .ok (.aload_n 0, 1) := by decide +kernel
theorem dX5_readOne_86 : decode cX5_readOne 86 = .ok (.iload_n 1, 1) := by decide +kernel
theorem dX5_readOne_87 : decode cX5_readOne 87 = .ok (.iconst 1, 1) := by decide +kernel
theorem dX5_readOne_88 : decode cX5_readOne 88 = .ok (.iadd, 1) := by decide +kernel
theorem dX5_readOne_89 : decode cX5_readOne 89 = .ok (.invokevirtual 52, 3) := by decide +kernel
theorem dX5_readOne_92 : decode cX5_readOne 92 = .ok (.ifCond .eq 16, 3) := by decide +kernel
theorem dX5_readOne_95 : decode cX5_readOne 95 = .ok (.aload_n 0, 1) := by decide +kernel
theorem dX5_readOne_96 : decode cX5_readOne 96 = .ok (.bipush 41, 2) := by decide +kernel
theorem dX5_readOne_98 : decode cX5_readOne 98 = .ok (.invokevirtual 49, 3) := by decide +kernel
theorem dX5_readOne_101 : decode cX5_readOne 101 = .ok (.ifCond .eq 7, 3) := by decide +kernel
theorem dX5_readOne_104 : decode cX5_readOne 104 = .ok (.iconst 1, 1) := by decide +kernel
theorem dX5_readOne_105 : decode cX5_readOne 105 = .ok (.goto 4, 3) := by decide +kernel
theorem dX5_readOne_108 : decode cX5_readOne 108 = .ok (.iconst 0, 1) := by decide +kernel
theorem dX5_readOne_109 : decode cX5_readOne 109 = .ok (.ireturn, 1) := by decide +kernel
theorem dX5_readOne_110 : decode cX5_readOne 110 = .ok (.aload_n 0, 1) := by decide +kernel
theorem dX5_readOne_111 : decode cX5_readOne 111 = .ok (.invokevirtual 28, 3) := by decide +kernel
theorem dX5_readOne_114 : decode cX5_readOne 114 = .ok (.aload_n 0, 1) := by decide +kernel
theorem dX5_readOne_115 : decode cX5_readOne 115 = .ok (.iload_n 1, 1) := by decide +kernel
theorem dX5_readOne_116 : decode cX5_readOne 116 = .ok (.iconst 1, 1) := by decide +kernel
theorem dX5_readOne_117 : decode cX5_readOne 117 = .ok (.iadd, 1) := by decide +kernel
theorem dX5_readOne_118 : decode cX5_readOne 118 = .ok (.invokevirtual 74, 3) := by decide +kernel
theorem dX5_readOne_121 : decode cX5_readOne 121 = .ok (.istore_n 2, 1) := by decide +kernel
theorem dX5_readOne_122 : decode cX5_readOne 122 = .ok (.aload_n 0, 1) := by decide +kernel
theorem dX5_readOne_123 : decode cX5_readOne 123 = .ok (.bipush (-15), 2) := by decide +kernel
theorem dX5_readOne_125 : decode cX5_readOne 125 = .ok (.invokevirtual 58, 3) := by decide +kernel
theorem dX5_readOne_128 : decode cX5_readOne 128 = .ok (.iload_n 2, 1) := by decide +kernel
theorem dX5_readOne_129 : decode cX5_readOne 129 = .ok (.ireturn, 1) := by decide +kernel
theorem dX5_emit_0 : decode cX5_emit 0 = .ok (.aload_n 0, 1) := by decide +kernel
theorem dX5_emit_1 : decode cX5_emit 1 = .ok (.getfield 25, 3) := by decide +kernel
theorem dX5_emit_4 : decode cX5_emit 4 = .ok (.sipush 160, 3) := by decide +kernel
theorem dX5_emit_7 : decode cX5_emit 7 = .ok (.if_icmp .ge 23, 3) := by decide +kernel
theorem dX5_emit_10 : decode cX5_emit 10 = .ok (.aload_n 0, 1) := by decide +kernel
theorem dX5_emit_11 : decode cX5_emit 11 = .ok (.getfield 15, 3) := by decide +kernel
theorem dX5_emit_14 : decode cX5_emit 14 = .ok (.aload_n 0, 1) := by decide +kernel
theorem dX5_emit_15 : decode cX5_emit 15 = .ok (.getfield 25, 3) := by decide +kernel
theorem dX5_emit_18 : decode cX5_emit 18 = .ok (.iload_n 1, 1) := by decide +kernel
theorem dX5_emit_19 : decode cX5_emit 19 = .ok (.iastore, 1) := by decide +kernel
theorem dX5_emit_20 : decode cX5_emit 20 = .ok (.aload_n 0, 1) := by decide +kernel
theorem dX5_emit_21 : decode cX5_emit 21 = .ok (.dup, 1) := by decide +kernel
theorem dX5_emit_22 : decode cX5_emit 22 = .ok (.getfield 25, 3) := by decide +kernel
theorem dX5_emit_25 : decode cX5_emit 25 = .ok (.iconst 1, 1) := by decide +kernel
theorem dX5_emit_26 : decode cX5_emit 26 = .ok (.iadd, 1) := by decide +kernel
theorem dX5_emit_27 : decode cX5_emit 27 = .ok (.putfield 25, 3) := by decide +kernel
theorem dX5_emit_30 : decode cX5_emit 30 = .ok (.return_, 1) := by decide +kernel
theorem dX5_advance_0 : decode cX5_advance 0 = .ok (.aload_n 0, 1) := by decide +kernel
theorem dX5_advance_1 : decode cX5_advance 1 = .ok (.aload_n 0, 1) := by decide +kernel
theorem dX5_advance_2 : decode cX5_advance 2 = .ok (.getfield 22, 3) := by decide +kernel
theorem dX5_advance_5 : decode cX5_advance 5 = .ok (.putfield 80, 3) := by decide +kernel
theorem dX5_advance_8 : decode cX5_advance 8 = .ok (.aload_n 0, 1) := by decide +kernel
theorem dX5_advance_9 : decode cX5_advance 9 = .ok (.getfield 80, 3) := by decide +kernel
theorem dX5_advance_12 : decode cX5_advance 12 = .ok (.aload_n 0, 1) := by decide +kernel
theorem dX5_advance_13 : decode cX5_advance 13 = .ok (.getfield 18, 3) := by decide +kernel
theorem dX5_advance_16 : decode cX5_advance 16 = .ok (.if_icmp .ge 44, 3) := by decide +kernel
theorem dX5_advance_19 : decode cX5_advance 19 = .ok (.aload_n 0, 1) := by decide +kernel
theorem dX5_advance_20 : decode cX5_advance 20 = .ok (.getfield 9, 3) := by decide +kernel
theorem dX5_advance_23 : decode cX5_advance 23 = .ok (.aload_n 0, 1) := by decide +kernel
theorem dX5_advance_24 : decode cX5_advance 24 = .ok (.getfield 80, 3) := by decide +kernel
theorem dX5_advance_27 : decode cX5_advance 27 = .ok (.iaload, 1) := by decide +kernel
theorem dX5_advance_28 : decode cX5_advance 28 = .ok (.bipush 32, 2) := by decide +kernel
theorem dX5_advance_30 : decode cX5_advance 30 = .ok (.if_icmp .eq 17, 3) := by decide +kernel
theorem dX5_advance_33 : decode cX5_advance 33 = .ok (.aload_n 0, 1) := by decide +kernel
theorem dX5_advance_34 : decode cX5_advance 34 = .ok (.getfield 9, 3) := by decide +kernel
theorem dX5_advance_37 : decode cX5_advance 37 = .ok (.aload_n 0, 1) := by decide +kernel
theorem dX5_advance_38 : decode cX5_advance 38 = .ok (.getfield 80, 3) := by decide +kernel
theorem dX5_advance_41 : decode cX5_advance 41 = .ok (.iaload, 1) := by decide +kernel
theorem dX5_advance_42 : decode cX5_advance 42 = .ok (.bipush 10, 2) := by decide +kernel
theorem dX5_advance_44 : decode cX5_advance 44 = .ok (.if_icmp .ne 16, 3) := by decide +kernel
theorem dX5_advance_47 : decode cX5_advance 47 = .ok (.aload_n 0, 1) := by decide +kernel
theorem dX5_advance_48 : decode cX5_advance 48 = .ok (.dup, 1) := by decide +kernel
theorem dX5_advance_49 : decode cX5_advance 49 = .ok (.getfield 80, 3) := by decide +kernel
theorem dX5_advance_52 : decode cX5_advance 52 = .ok (.iconst 1, 1) := by decide +kernel
theorem dX5_advance_53 : decode cX5_advance 53 = .ok (.iadd, 1) := by decide +kernel
theorem dX5_advance_54 : decode cX5_advance 54 = .ok (.putfield 80, 3) := by decide +kernel
theorem dX5_advance_57 : decode cX5_advance 57 = .ok (.goto (-49), 3) := by decide +kernel
theorem dX5_advance_60 : decode cX5_advance 60 = .ok (.aload_n 0, 1) := by decide +kernel
theorem dX5_advance_61 : decode cX5_advance 61 = .ok (.aload_n 0, 1) := by decide +kernel
theorem dX5_advance_62 : decode cX5_advance 62 = .ok (.getfield 80, 3) := by decide +kernel
theorem dX5_advance_65 : decode cX5_advance 65 = .ok (.putfield 22, 3) := by decide +kernel
theorem dX5_advance_68 : decode cX5_advance 68 = .ok (.aload_n 0, 1) := by decide +kernel
theorem dX5_advance_69 : decode cX5_advance 69 = .ok (.getfield 80, 3) := by decide +kernel
theorem dX5_advance_72 : decode cX5_advance 72 = .ok (.aload_n 0, 1) := by decide +kernel
theorem dX5_advance_73 : decode cX5_advance 73 = .ok (.getfield 18, 3) := by decide +kernel
theorem dX5_advance_76 : decode cX5_advance 76 = .ok (.if_icmp .lt 11, 3) := by decide +kernel
theorem dX5_advance_79 : decode cX5_advance 79 = .ok (.aload_n 0, 1) := by decide +kernel
theorem dX5_advance_80 : decode cX5_advance 80 = .ok (.iconst 0, 1) := by decide +kernel
theorem dX5_advance_81 : decode cX5_advance 81 = .ok (.putfield 35, 3) := by decide +kernel
theorem dX5_advance_84 : decode cX5_advance 84 = .ok (.goto 89, 3) := by decide +kernel
theorem dX5_advance_87 : decode cX5_advance 87 = .ok (.aload_n 0, 1) := by decide +kernel
theorem dX5_advance_88 : decode cX5_advance 88 = .ok (.getfield 9, 3) := by decide +kernel
theorem dX5_advance_91 : decode cX5_advance 91 = .ok (.aload_n 0, 1) := by decide +kernel
theorem dX5_advance_92 : decode cX5_advance 92 = .ok (.getfield 80, 3) := by decide +kernel
theorem dX5_advance_95 : decode cX5_advance 95 = .ok (.iaload, 1) := by decide +kernel
theorem dX5_advance_96 : decode cX5_advance 96 = .ok (.invokestatic 83, 3) := by decide +kernel
theorem dX5_advance_99 : decode cX5_advance 99 = .ok (.ifCond .eq 10, 3) := by decide +kernel
theorem dX5_advance_102 : decode cX5_advance 102 = .ok (.aload_n 0, 1) := by decide +kernel
theorem dX5_advance_103 : decode cX5_advance 103 = .ok (.invokevirtual 86, 3) := by decide +kernel
theorem dX5_advance_106 : decode cX5_advance 106 = .ok (.goto 67, 3) := by decide +kernel
theorem dX5_advance_109 : decode cX5_advance 109 = .ok (.aload_n 0, 1) := by decide +kernel
theorem dX5_advance_110 : decode cX5_advance 110 = .ok (.getfield 9, 3) := by decide +kernel
theorem dX5_advance_113 : decode cX5_advance 113 = .ok (.aload_n 0, 1) := by decide +kernel
theorem dX5_advance_114 : decode cX5_advance 114 = .ok (.getfield 80, 3) := by decide +kernel
theorem dX5_advance_117 : decode cX5_advance 117 = .ok (.iaload, 1) := by decide +kernel
theorem dX5_advance_118 : decode cX5_advance 118 = .ok (.invokestatic 89, 3) := by decide +kernel
theorem dX5_advance_121 : decode cX5_advance 121 = .ok (.ifCond .eq 10, 3) := by decide +kernel
theorem dX5_advance_124 : decode cX5_advance 124 = .ok (.aload_n 0, 1) := by decide +kernel
theorem dX5_advance_125 : decode cX5_advance 125 = .ok (.invokevirtual 92, 3) := by decide +kernel
theorem dX5_advance_128 : decode cX5_advance 128 = .ok (.goto 45, 3) := by decide +kernel
theorem dX5_advance_131 : decode cX5_advance 131 = .ok (.aload_n 0, 1) := by decide +kernel
theorem dX5_advance_132 : decode cX5_advance 132 = .ok (.aload_n 0, 1) := by decide +kernel
theorem dX5_advance_133 : decode cX5_advance 133 = .ok (.getfield 9, 3) := by decide +kernel
theorem dX5_advance_136 : decode cX5_advance 136 = .ok (.aload_n 0, 1) := by decide +kernel
theorem dX5_advance_137 : decode cX5_advance 137 = .ok (.getfield 80, 3) := by decide +kernel
theorem dX5_advance_140 : decode cX5_advance 140 = .ok (.iaload, 1) := by decide +kernel
theorem dX5_advance_141 : decode cX5_advance 141 = .ok (.invokestatic 95, 3) := by decide +kernel
theorem dX5_advance_144 : decode cX5_advance 144 = .ok (.ifCond .eq 15, 3) := by decide +kernel
theorem dX5_advance_147 : decode cX5_advance 147 = .ok (.aload_n 0, 1) := by decide +kernel
theorem dX5_advance_148 : decode cX5_advance 148 = .ok (.getfield 9, 3) := by decide +kernel
theorem dX5_advance_151 : decode cX5_advance 151 = .ok (.aload_n 0, 1) := by decide +kernel
theorem dX5_advance_152 : decode cX5_advance 152 = .ok (.getfield 80, 3) := by decide +kernel
theorem dX5_advance_155 : decode cX5_advance 155 = .ok (.iaload, 1) := by decide +kernel
theorem dX5_advance_156 : decode cX5_advance 156 = .ok (.goto 4, 3) := by decide +kernel
theorem dX5_advance_159 : decode cX5_advance 159 = .ok (.iconst 1, 1) := by decide +kernel
theorem dX5_advance_160 : decode cX5_advance 160 = .ok (.putfield 35, 3) := by decide +kernel
theorem dX5_advance_163 : decode cX5_advance 163 = .ok (.aload_n 0, 1) := by decide +kernel
theorem dX5_advance_164 : decode cX5_advance 164 = .ok (.aload_n 0, 1) := by decide +kernel
theorem dX5_advance_165 : decode cX5_advance 165 = .ok (.getfield 80, 3) := by decide +kernel
theorem dX5_advance_168 : decode cX5_advance 168 = .ok (.iconst 1, 1) := by decide +kernel
theorem dX5_advance_169 : decode cX5_advance 169 = .ok (.iadd, 1) := by decide +kernel
theorem dX5_advance_170 : decode cX5_advance 170 = .ok (.putfield 22, 3) := by decide +kernel
theorem dX5_advance_173 : decode cX5_advance 173 = .ok (.return_, 1) := by decide +kernel
theorem dX5_readWord_0 : decode cX5_readWord 0 = .ok (.aload_n 0, 1) := by decide +kernel
theorem dX5_readWord_1 : decode cX5_readWord 1 = .ok (.getfield 22, 3) := by decide +kernel
theorem dX5_readWord_4 : decode cX5_readWord 4 = .ok (.aload_n 0, 1) := by decide +kernel
theorem dX5_readWord_5 : decode cX5_readWord 5 = .ok (.getfield 18, 3) := by decide +kernel
theorem dX5_readWord_8 : decode cX5_readWord 8 = .ok (.if_icmp .ge 31, 3) := by decide +kernel
theorem dX5_readWord_11 : decode cX5_readWord 11 = .ok (.aload_n 0, 1) := by decide +kernel
theorem dX5_readWord_12 : decode cX5_readWord 12 = .ok (.getfield 9, 3) := by decide +kernel
theorem dX5_readWord_15 : decode cX5_readWord 15 = .ok (.aload_n 0, 1) := by decide +kernel
theorem dX5_readWord_16 : decode cX5_readWord 16 = .ok (.getfield 22, 3) := by decide +kernel
theorem dX5_readWord_19 : decode cX5_readWord 19 = .ok (.iaload, 1) := by decide +kernel
theorem dX5_readWord_20 : decode cX5_readWord 20 = .ok (.invokestatic 83, 3) := by decide +kernel
theorem dX5_readWord_23 : decode cX5_readWord 23 = .ok (.ifCond .eq 16, 3) := by decide +kernel
theorem dX5_readWord_26 : decode cX5_readWord 26 = .ok (.aload_n 0, 1) := by decide +kernel
theorem dX5_readWord_27 : decode cX5_readWord 27 = .ok (.dup, 1) := by decide +kernel
theorem dX5_readWord_28 : decode cX5_readWord 28 = .ok (.getfield 22, 3) := by decide +kernel
theorem dX5_readWord_31 : decode cX5_readWord 31 = .ok (.iconst 1, 1) := by decide +kernel
theorem dX5_readWord_32 : decode cX5_readWord 32 = .ok (.iadd, 1) := by decide +kernel
theorem dX5_readWord_33 : decode cX5_readWord 33 = .ok (.putfield 22, 3) := by decide +kernel
theorem dX5_readWord_36 : decode cX5_readWord 36 = .ok (.goto (-36), 3) := by decide +kernel
theorem dX5_readWord_39 : decode cX5_readWord 39 = .ok (.aload_n 0, 1) := by decide +kernel
theorem dX5_readWord_40 : decode cX5_readWord 40 = .ok (.iconst 1, 1) := by decide +kernel
theorem dX5_readWord_41 : decode cX5_readWord 41 = .ok (.putfield 35, 3) := by decide +kernel
theorem dX5_readWord_44 : decode cX5_readWord 44 = .ok (.iconst 0, 1) := by decide +kernel
theorem dX5_readWord_45 : decode cX5_readWord 45 = .ok (.istore_n 1, 1) := by decide +kernel
theorem dX5_readWord_46 : decode cX5_readWord 46 = .ok (.iconst 0, 1) := by decide +kernel
theorem dX5_readWord_47 : decode cX5_readWord 47 = .ok (.istore_n 2, 1) := by decide +kernel
theorem dX5_readWord_48 : decode cX5_readWord 48 = .ok (.iconst 0, 1) := by decide +kernel
theorem dX5_readWord_49 : decode cX5_readWord 49 = .ok (.istore_n 3, 1) := by decide +kernel
theorem dX5_readWord_50 : decode cX5_readWord 50 = .ok (.iload_n 3, 1) := by decide +kernel
theorem dX5_readWord_51 : decode cX5_readWord 51 = .ok (.ldc 98, 2) := by decide +kernel
theorem dX5_readWord_53 : decode cX5_readWord 53 = .ok (.invokevirtual 100, 3) := by decide +kernel
theorem dX5_readWord_56 : decode cX5_readWord 56 = .ok (.if_icmp .ge 61, 3) := by decide +kernel
theorem dX5_readWord_59 : decode cX5_readWord 59 = .ok (.ldc 98, 2) := by decide +kernel
theorem dX5_readWord_61 : decode cX5_readWord 61 = .ok (.iload_n 3, 1) := by decide +kernel
theorem dX5_readWord_62 : decode cX5_readWord 62 = .ok (.invokevirtual 106, 3) := by decide +kernel
theorem dX5_readWord_65 : decode cX5_readWord 65 = .ok (.bipush 32, 2) := by decide +kernel
theorem dX5_readWord_67 : decode cX5_readWord 67 = .ok (.if_icmp .ne 44, 3) := by decide +kernel
theorem dX5_readWord_70 : decode cX5_readWord 70 = .ok (.aload_n 0, 1) := by decide +kernel
theorem dX5_readWord_71 : decode cX5_readWord 71 = .ok (.iload_n 2, 1) := by decide +kernel
theorem dX5_readWord_72 : decode cX5_readWord 72 = .ok (.iload_n 3, 1) := by decide +kernel
theorem dX5_readWord_73 : decode cX5_readWord 73 = .ok (.invokevirtual 110, 3) := by decide +kernel
theorem dX5_readWord_76 : decode cX5_readWord 76 = .ok (.ifCond .eq 28, 3) := by decide +kernel
theorem dX5_readWord_79 : decode cX5_readWord 79 = .ok (.aload_n 0, 1) := by decide +kernel
theorem dX5_readWord_80 : decode cX5_readWord 80 = .ok (.iload_n 1, 1) := by decide +kernel
theorem dX5_readWord_81 : decode cX5_readWord 81 = .ok (.bipush 6, 2) := by decide +kernel
theorem dX5_readWord_83 : decode cX5_readWord 83 = .ok (.if_icmp .ge 7, 3) := by decide +kernel
theorem dX5_readWord_86 : decode cX5_readWord 86 = .ok (.iconst 3, 1) := by decide +kernel
theorem dX5_readWord_87 : decode cX5_readWord 87 = .ok (.goto 9, 3) := by decide +kernel
theorem dX5_readWord_90 : decode cX5_readWord 90 = .ok (.iconst 4, 1) := by decide +kernel
theorem dX5_readWord_91 : decode cX5_readWord 91 = .ok (.iload_n 1, 1) := by decide +kernel
theorem dX5_readWord_92 : decode cX5_readWord 92 = .ok (.iadd, 1) := by decide +kernel
theorem dX5_readWord_93 : decode cX5_readWord 93 = .ok (.bipush 6, 2) := by decide +kernel
theorem dX5_readWord_95 : decode cX5_readWord 95 = .ok (.isub, 1) := by decide +kernel
theorem dX5_readWord_96 : decode cX5_readWord 96 = .ok (.putfield 35, 3) := by decide +kernel
theorem dX5_readWord_99 : decode cX5_readWord 99 = .ok (.aload_n 0, 1) := by decide +kernel
theorem dX5_readWord_100 : decode cX5_readWord 100 = .ok (.iload_n 1, 1) := by decide +kernel
theorem dX5_readWord_101 : decode cX5_readWord 101 = .ok (.putfield 77, 3) := by decide +kernel
theorem dX5_readWord_104 : decode cX5_readWord 104 = .ok (.iinc 1 1, 3) := by decide +kernel
theorem dX5_readWord_107 : decode cX5_readWord 107 = .ok (.iload_n 3, 1) := by decide +kernel
theorem dX5_readWord_108 : decode cX5_readWord 108 = .ok (.iconst 1, 1) := by decide +kernel
theorem dX5_readWord_109 : decode cX5_readWord 109 = .ok (.iadd, 1) := by decide +kernel
theorem dX5_readWord_110 : decode cX5_readWord 110 = .ok (.istore_n 2, 1) := by decide +kernel
theorem dX5_readWord_111 : decode cX5_readWord 111 = .ok (.iinc 3 1, 3) := by decide +kernel
theorem dX5_readWord_114 : decode cX5_readWord 114 = .ok (.goto (-64), 3) := by decide +kernel
theorem dX5_readWord_117 : decode cX5_readWord 117 = .ok (.return_, 1) := by decide +kernel
theorem dX5_readNumber_0 : decode cX5_readNumber 0 = .ok (.aload_n 0, 1) := by decide +kernel
theorem dX5_readNumber_1 : decode cX5_readNumber 1 = .ok (.iconst 0, 1) := by decide +kernel
theorem dX5_readNumber_2 : decode cX5_readNumber 2 = .ok (.putfield 77, 3) := by decide +kernel
theorem dX5_readNumber_5 : decode cX5_readNumber 5 = .ok (.aload_n 0, 1) := by decide +kernel
theorem dX5_readNumber_6 : decode cX5_readNumber 6 = .ok (.getfield 22, 3) := by decide +kernel
theorem dX5_readNumber_9 : decode cX5_readNumber 9 = .ok (.aload_n 0, 1) := by decide +kernel
theorem dX5_readNumber_10 : decode cX5_readNumber 10 = .ok (.getfield 18, 3) := by decide +kernel
theorem dX5_readNumber_13 : decode cX5_readNumber 13 = .ok (.if_icmp .ge 55, 3) := by decide +kernel
theorem dX5_readNumber_16 : decode cX5_readNumber 16 = .ok (.aload_n 0, 1) := by decide +kernel
theorem dX5_readNumber_17 : decode cX5_readNumber 17 = .ok (.getfield 9, 3) := by decide +kernel
theorem dX5_readNumber_20 : decode cX5_readNumber 20 = .ok (.aload_n 0, 1) := by decide +kernel
theorem dX5_readNumber_21 : decode cX5_readNumber 21 = .ok (.getfield 22, 3) := by decide +kernel
theorem dX5_readNumber_24 : decode cX5_readNumber 24 = .ok (.iaload, 1) := by decide +kernel
theorem dX5_readNumber_25 : decode cX5_readNumber 25 = .ok (.invokestatic 89, 3) := by decide +kernel
theorem dX5_readNumber_28 : decode cX5_readNumber 28 = .ok (.ifCond .eq 40, 3) := by decide +kernel
theorem dX5_readNumber_31 : decode cX5_readNumber 31 = .ok (.aload_n 0, 1) := by decide +kernel
theorem dX5_readNumber_32 : decode cX5_readNumber 32 = .ok (.bipush 10, 2) := by decide +kernel
theorem dX5_readNumber_34 : decode cX5_readNumber 34 = .ok (.aload_n 0, 1) := by decide +kernel
theorem dX5_readNumber_35 : decode cX5_readNumber 35 = .ok (.getfield 77, 3) := by decide +kernel
theorem dX5_readNumber_38 : decode cX5_readNumber 38 = .ok (.imul, 1) := by decide +kernel
theorem dX5_readNumber_39 : decode cX5_readNumber 39 = .ok (.aload_n 0, 1) := by decide +kernel
theorem dX5_readNumber_40 : decode cX5_readNumber 40 = .ok (.getfield 9, 3) := by decide +kernel
theorem dX5_readNumber_43 : decode cX5_readNumber 43 = .ok (.aload_n 0, 1) := by decide +kernel
theorem dX5_readNumber_44 : decode cX5_readNumber 44 = .ok (.getfield 22, 3) := by decide +kernel
theorem dX5_readNumber_47 : decode cX5_readNumber 47 = .ok (.iaload, 1) := by decide +kernel
theorem dX5_readNumber_48 : decode cX5_readNumber 48 = .ok (.iadd, 1) := by decide +kernel
theorem dX5_readNumber_49 : decode cX5_readNumber 49 = .ok (.bipush 48, 2) := by decide +kernel
theorem dX5_readNumber_51 : decode cX5_readNumber 51 = .ok (.isub, 1) := by decide +kernel
theorem dX5_readNumber_52 : decode cX5_readNumber 52 = .ok (.putfield 77, 3) := by decide +kernel
theorem dX5_readNumber_55 : decode cX5_readNumber 55 = .ok (.aload_n 0, 1) := by decide +kernel
theorem dX5_readNumber_56 : decode cX5_readNumber 56 = .ok (.dup, 1) := by decide +kernel
theorem dX5_readNumber_57 : decode cX5_readNumber 57 = .ok (.getfield 22, 3) := by decide +kernel
theorem dX5_readNumber_60 : decode cX5_readNumber 60 = .ok (.iconst 1, 1) := by decide +kernel
theorem dX5_readNumber_61 : decode cX5_readNumber 61 = .ok (.iadd, 1) := by decide +kernel
theorem dX5_readNumber_62 : decode cX5_readNumber 62 = .ok (.putfield 22, 3) := by decide +kernel
theorem dX5_readNumber_65 : decode cX5_readNumber 65 = .ok (.goto (-60), 3) := by decide +kernel
theorem dX5_readNumber_68 : decode cX5_readNumber 68 = .ok (.aload_n 0, 1) := by decide +kernel
theorem dX5_readNumber_69 : decode cX5_readNumber 69 = .ok (.aload_n 0, 1) := by decide +kernel
theorem dX5_readNumber_70 : decode cX5_readNumber 70 = .ok (.getfield 22, 3) := by decide +kernel
theorem dX5_readNumber_73 : decode cX5_readNumber 73 = .ok (.aload_n 0, 1) := by decide +kernel
theorem dX5_readNumber_74 : decode cX5_readNumber 74 = .ok (.getfield 80, 3) := by decide +kernel
theorem dX5_readNumber_77 : decode cX5_readNumber 77 = .ok (.isub, 1) := by decide +kernel
theorem dX5_readNumber_78 : decode cX5_readNumber 78 = .ok (.iconst 4, 1) := by decide +kernel
theorem dX5_readNumber_79 : decode cX5_readNumber 79 = .ok (.if_icmp .le 7, 3) := by decide +kernel
theorem dX5_readNumber_82 : decode cX5_readNumber 82 = .ok (.iconst 1, 1) := by decide +kernel
theorem dX5_readNumber_83 : decode cX5_readNumber 83 = .ok (.goto 4, 3) := by decide +kernel
theorem dX5_readNumber_86 : decode cX5_readNumber 86 = .ok (.iconst 2, 1) := by decide +kernel
theorem dX5_readNumber_87 : decode cX5_readNumber 87 = .ok (.putfield 35, 3) := by decide +kernel
theorem dX5_readNumber_90 : decode cX5_readNumber 90 = .ok (.return_, 1) := by decide +kernel
theorem dX5_spells_0 : decode cX5_spells 0 = .ok (.aload_n 0, 1) := by decide +kernel
theorem dX5_spells_1 : decode cX5_spells 1 = .ok (.getfield 22, 3) := by decide +kernel
theorem dX5_spells_4 : decode cX5_spells 4 = .ok (.aload_n 0, 1) := by decide +kernel
theorem dX5_spells_5 : decode cX5_spells 5 = .ok (.getfield 80, 3) := by decide +kernel
theorem dX5_spells_8 : decode cX5_spells 8 = .ok (.isub, 1) := by decide +kernel
theorem dX5_spells_9 : decode cX5_spells 9 = .ok (.iload_n 2, 1) := by decide +kernel
theorem dX5_spells_10 : decode cX5_spells 10 = .ok (.iload_n 1, 1) := by decide +kernel
theorem dX5_spells_11 : decode cX5_spells 11 = .ok (.isub, 1) := by decide +kernel
theorem dX5_spells_12 : decode cX5_spells 12 = .ok (.if_icmp .eq 5, 3) := by decide +kernel
theorem dX5_spells_15 : decode cX5_spells 15 = .ok (.iconst 0, 1) := by decide +kernel
theorem dX5_spells_16 : decode cX5_spells 16 = .ok (.ireturn, 1) := by decide +kernel
theorem dX5_spells_17 : decode cX5_spells 17 = .ok (.iload_n 1, 1) := by decide +kernel
theorem dX5_spells_18 : decode cX5_spells 18 = .ok (.istore_n 3, 1) := by decide +kernel
theorem dX5_spells_19 : decode cX5_spells 19 = .ok (.iload_n 3, 1) := by decide +kernel
theorem dX5_spells_20 : decode cX5_spells 20 = .ok (.iload_n 2, 1) := by decide +kernel
theorem dX5_spells_21 : decode cX5_spells 21 = .ok (.if_icmp .ge 33, 3) := by decide +kernel
theorem dX5_spells_24 : decode cX5_spells 24 = .ok (.aload_n 0, 1) := by decide +kernel
theorem dX5_spells_25 : decode cX5_spells 25 = .ok (.getfield 9, 3) := by decide +kernel
theorem dX5_spells_28 : decode cX5_spells 28 = .ok (.aload_n 0, 1) := by decide +kernel
theorem dX5_spells_29 : decode cX5_spells 29 = .ok (.getfield 80, 3) := by decide +kernel
theorem dX5_spells_32 : decode cX5_spells 32 = .ok (.iload_n 3, 1) := by decide +kernel
theorem dX5_spells_33 : decode cX5_spells 33 = .ok (.iadd, 1) := by decide +kernel
theorem dX5_spells_34 : decode cX5_spells 34 = .ok (.iload_n 1, 1) := by decide +kernel
theorem dX5_spells_35 : decode cX5_spells 35 = .ok (.isub, 1) := by decide +kernel
theorem dX5_spells_36 : decode cX5_spells 36 = .ok (.iaload, 1) := by decide +kernel
theorem dX5_spells_37 : decode cX5_spells 37 = .ok (.ldc 98, 2) := by decide +kernel
theorem dX5_spells_39 : decode cX5_spells 39 = .ok (.iload_n 3, 1) := by decide +kernel
theorem dX5_spells_40 : decode cX5_spells 40 = .ok (.invokevirtual 106, 3) := by decide +kernel
theorem dX5_spells_43 : decode cX5_spells 43 = .ok (.if_icmp .eq 5, 3) := by decide +kernel
theorem dX5_spells_46 : decode cX5_spells 46 = .ok (.iconst 0, 1) := by decide +kernel
theorem dX5_spells_47 : decode cX5_spells 47 = .ok (.ireturn, 1) := by decide +kernel
theorem dX5_spells_48 : decode cX5_spells 48 = .ok (.iinc 3 1, 3) := by decide +kernel
theorem dX5_spells_51 : decode cX5_spells 51 = .ok (.goto (-32), 3) := by decide +kernel
theorem dX5_spells_54 : decode cX5_spells 54 = .ok (.iconst 1, 1) := by decide +kernel
theorem dX5_spells_55 : decode cX5_spells 55 = .ok (.ireturn, 1) := by decide +kernel
theorem dX5_isLetter_0 : decode cX5_isLetter 0 = .ok (.iload_n 0, 1) := by decide +kernel
theorem dX5_isLetter_1 : decode cX5_isLetter 1 = .ok (.bipush 97, 2) := by decide +kernel
theorem dX5_isLetter_3 : decode cX5_isLetter 3 = .ok (.if_icmp .lt 13, 3) := by decide +kernel
theorem dX5_isLetter_6 : decode cX5_isLetter 6 = .ok (.iload_n 0, 1) := by decide +kernel
theorem dX5_isLetter_7 : decode cX5_isLetter 7 = .ok (.bipush 122, 2) := by decide +kernel
theorem dX5_isLetter_9 : decode cX5_isLetter 9 = .ok (.if_icmp .gt 7, 3) := by decide +kernel
theorem dX5_isLetter_12 : decode cX5_isLetter 12 = .ok (.iconst 1, 1) := by decide +kernel
theorem dX5_isLetter_13 : decode cX5_isLetter 13 = .ok (.goto 4, 3) := by decide +kernel
theorem dX5_isLetter_16 : decode cX5_isLetter 16 = .ok (.iconst 0, 1) := by decide +kernel
theorem dX5_isLetter_17 : decode cX5_isLetter 17 = .ok (.ireturn, 1) := by decide +kernel
theorem dX5_isDigit_0 : decode cX5_isDigit 0 = .ok (.iload_n 0, 1) := by decide +kernel
theorem dX5_isDigit_1 : decode cX5_isDigit 1 = .ok (.bipush 48, 2) := by decide +kernel
theorem dX5_isDigit_3 : decode cX5_isDigit 3 = .ok (.if_icmp .lt 13, 3) := by decide +kernel
theorem dX5_isDigit_6 : decode cX5_isDigit 6 = .ok (.iload_n 0, 1) := by decide +kernel
theorem dX5_isDigit_7 : decode cX5_isDigit 7 = .ok (.bipush 57, 2) := by decide +kernel
theorem dX5_isDigit_9 : decode cX5_isDigit 9 = .ok (.if_icmp .gt 7, 3) := by decide +kernel
theorem dX5_isDigit_12 : decode cX5_isDigit 12 = .ok (.iconst 1, 1) := by decide +kernel
theorem dX5_isDigit_13 : decode cX5_isDigit 13 = .ok (.goto 4, 3) := by decide +kernel
theorem dX5_isDigit_16 : decode cX5_isDigit 16 = .ok (.iconst 0, 1) := by decide +kernel
theorem dX5_isDigit_17 : decode cX5_isDigit 17 = .ok (.ireturn, 1) := by decide +kernel
theorem dX5_isSign_0 : decode cX5_isSign 0 = .ok (.iload_n 0, 1) := by decide +kernel
theorem dX5_isSign_1 : decode cX5_isSign 1 = .ok (.bipush 40, 2) := by decide +kernel
theorem dX5_isSign_3 : decode cX5_isSign 3 = .ok (.if_icmp .eq 45, 3) := by decide +kernel
theorem dX5_isSign_6 : decode cX5_isSign 6 = .ok (.iload_n 0, 1) := by decide +kernel
theorem dX5_isSign_7 : decode cX5_isSign 7 = .ok (.bipush 41, 2) := by decide +kernel
theorem dX5_isSign_9 : decode cX5_isSign 9 = .ok (.if_icmp .eq 39, 3) := by decide +kernel
theorem dX5_isSign_12 : decode cX5_isSign 12 = .ok (.iload_n 0, 1) := by decide +kernel
theorem dX5_isSign_13 : decode cX5_isSign 13 = .ok (.bipush 59, 2) := by decide +kernel
theorem dX5_isSign_15 : decode cX5_isSign 15 = .ok (.if_icmp .eq 33, 3) := by decide +kernel
theorem dX5_isSign_18 : decode cX5_isSign 18 = .ok (.iload_n 0, 1) := by decide +kernel
theorem dX5_isSign_19 : decode cX5_isSign 19 = .ok (.bipush 43, 2) := by decide +kernel
theorem dX5_isSign_21 : decode cX5_isSign 21 = .ok (.if_icmp .eq 27, 3) := by decide +kernel
theorem dX5_isSign_24 : decode cX5_isSign 24 = .ok (.iload_n 0, 1) := by decide +kernel
theorem dX5_isSign_25 : decode cX5_isSign 25 = .ok (.bipush 45, 2) := by decide +kernel
theorem dX5_isSign_27 : decode cX5_isSign 27 = .ok (.if_icmp .eq 21, 3) := by decide +kernel
theorem dX5_isSign_30 : decode cX5_isSign 30 = .ok (.iload_n 0, 1) := by decide +kernel
theorem dX5_isSign_31 : decode cX5_isSign 31 = .ok (.bipush 42, 2) := by decide +kernel
theorem dX5_isSign_33 : decode cX5_isSign 33 = .ok (.if_icmp .eq 15, 3) := by decide +kernel
theorem dX5_isSign_36 : decode cX5_isSign 36 = .ok (.iload_n 0, 1) := by decide +kernel
theorem dX5_isSign_37 : decode cX5_isSign 37 = .ok (.bipush 60, 2) := by decide +kernel
theorem dX5_isSign_39 : decode cX5_isSign 39 = .ok (.if_icmp .eq 9, 3) := by decide +kernel
theorem dX5_isSign_42 : decode cX5_isSign 42 = .ok (.iload_n 0, 1) := by decide +kernel
theorem dX5_isSign_43 : decode cX5_isSign 43 = .ok (.bipush 61, 2) := by decide +kernel
theorem dX5_isSign_45 : decode cX5_isSign 45 = .ok (.if_icmp .ne 7, 3) := by decide +kernel
theorem dX5_isSign_48 : decode cX5_isSign 48 = .ok (.iconst 1, 1) := by decide +kernel
theorem dX5_isSign_49 : decode cX5_isSign 49 = .ok (.goto 4, 3) := by decide +kernel
theorem dX5_isSign_52 : decode cX5_isSign 52 = .ok (.iconst 0, 1) := by decide +kernel
theorem dX5_isSign_53 : decode cX5_isSign 53 = .ok (.ireturn, 1) := by decide +kernel
theorem dX6_init_0 : decode cX6_init 0 = .ok (.aload_n 0, 1) := by decide +kernel
theorem dX6_init_1 : decode cX6_init 1 = .ok (.invokespecial 3, 3) := by decide +kernel
theorem dX6_init_4 : decode cX6_init 4 = .ok (.aload_n 0, 1) := by decide +kernel
theorem dX6_init_5 : decode cX6_init 5 = .ok (.bipush 40, 2) := by decide +kernel
theorem dX6_init_7 : decode cX6_init 7 = .ok (.newarray .int, 2) := by decide +kernel
theorem dX6_init_9 : decode cX6_init 9 = .ok (.putfield 9, 3) := by decide +kernel
theorem dX6_init_12 : decode cX6_init 12 = .ok (.aload_n 0, 1) := by decide +kernel
theorem dX6_init_13 : decode cX6_init 13 = .ok (.iconst (-1), 1) := by decide +kernel
theorem dX6_init_14 : decode cX6_init 14 = .ok (.putfield 15, 3) := by decide +kernel
theorem dX6_init_17 : decode cX6_init 17 = .ok (.return_, 1) := by decide +kernel
theorem dX6_become_0 : decode cX6_become 0 = .ok (.aload_n 0, 1) := by decide +kernel
theorem dX6_become_1 : decode cX6_become 1 = .ok (.iload_n 1, 1) := by decide +kernel
theorem dX6_become_2 : decode cX6_become 2 = .ok (.putfield 15, 3) := by decide +kernel
theorem dX6_become_5 : decode cX6_become 5 = .ok (.aload_n 0, 1) := by decide +kernel
theorem dX6_become_6 : decode cX6_become 6 = .ok (.iload_n 2, 1) := by decide +kernel
theorem dX6_become_7 : decode cX6_become 7 = .ok (.putfield 19, 3) := by decide +kernel
theorem dX6_become_10 : decode cX6_become 10 = .ok (.aload_n 0, 1) := by decide +kernel
theorem dX6_become_11 : decode cX6_become 11 = .ok (.getfield 9, 3) := by decide +kernel
theorem dX6_become_14 : decode cX6_become 14 = .ok (.iconst 0, 1) := by decide +kernel
theorem dX6_become_15 : decode cX6_become 15 = .ok (.invokestatic 22, 3) := by decide +kernel
theorem dX6_become_18 : decode cX6_become 18 = .ok (.return_, 1) := by decide +kernel
theorem dX6_put_0 : decode cX6_put 0 = .ok (.aload_n 0, 1) := by decide +kernel
theorem dX6_put_1 : decode cX6_put 1 = .ok (.getfield 9, 3) := by decide +kernel
theorem dX6_put_4 : decode cX6_put 4 = .ok (.iload_n 1, 1) := by decide +kernel
theorem dX6_put_5 : decode cX6_put 5 = .ok (.aload_n 0, 1) := by decide +kernel
theorem dX6_put_6 : decode cX6_put 6 = .ok (.getfield 15, 3) := by decide +kernel
theorem dX6_put_9 : decode cX6_put 9 = .ok (.ifCond .ne 8, 3) := by decide +kernel
theorem dX6_put_12 : decode cX6_put 12 = .ok (.iload_n 2, 1) := by decide +kernel
theorem dX6_put_13 : decode cX6_put 13 = .ok (.i2b, 1) := by decide +kernel
theorem dX6_put_14 : decode cX6_put 14 = .ok (.goto 17, 3) := by decide +kernel
theorem dX6_put_17 : decode cX6_put 17 = .ok (.aload_n 0, 1) := by decide +kernel
theorem dX6_put_18 : decode cX6_put 18 = .ok (.getfield 15, 3) := by decide +kernel
theorem dX6_put_21 : decode cX6_put 21 = .ok (.iconst 1, 1) := by decide +kernel
theorem dX6_put_22 : decode cX6_put 22 = .ok (.if_icmp .ne 8, 3) := by decide +kernel
theorem dX6_put_25 : decode cX6_put 25 = .ok (.iload_n 2, 1) := by decide +kernel
theorem dX6_put_26 : decode cX6_put 26 = .ok (.i2s, 1) := by decide +kernel
theorem dX6_put_27 : decode cX6_put 27 = .ok (.goto 4, 3) := by decide +kernel
theorem dX6_put_30 : decode cX6_put 30 = .ok (.iload_n 2, 1) := by decide +kernel
theorem dX6_put_31 : decode cX6_put 31 = .ok (.iastore, 1) := by decide +kernel
theorem dX6_put_32 : decode cX6_put 32 = .ok (.return_, 1) := by decide +kernel
theorem dX6_holds_0 : decode cX6_holds 0 = .ok (.iload_n 1, 1) := by decide +kernel
theorem dX6_holds_1 : decode cX6_holds 1 = .ok (.ifCond .lt 21, 3) := by decide +kernel
theorem dX6_holds_4 : decode cX6_holds 4 = .ok (.iload_n 2, 1) := by decide +kernel
theorem dX6_holds_5 : decode cX6_holds 5 = .ok (.ifCond .lt 17, 3) := by decide +kernel
theorem dX6_holds_8 : decode cX6_holds 8 = .ok (.iload_n 1, 1) := by decide +kernel
theorem dX6_holds_9 : decode cX6_holds 9 = .ok (.aload_n 0, 1) := by decide +kernel
theorem dX6_holds_10 : decode cX6_holds 10 = .ok (.getfield 19, 3) := by decide +kernel
theorem dX6_holds_13 : decode cX6_holds 13 = .ok (.iload_n 2, 1) := by decide +kernel
theorem dX6_holds_14 : decode cX6_holds 14 = .ok (.isub, 1) := by decide +kernel
theorem dX6_holds_15 : decode cX6_holds 15 = .ok (.if_icmp .gt 7, 3) := by decide +kernel
theorem dX6_holds_18 : decode cX6_holds 18 = .ok (.iconst 1, 1) := by decide +kernel
theorem dX6_holds_19 : decode cX6_holds 19 = .ok (.goto 4, 3) := by decide +kernel
theorem dX6_holds_22 : decode cX6_holds 22 = .ok (.iconst 0, 1) := by decide +kernel
theorem dX6_holds_23 : decode cX6_holds 23 = .ok (.ireturn, 1) := by decide +kernel
theorem dX7_init_0 : decode cX7_init 0 = .ok (.aload_n 0, 1) := by decide +kernel
theorem dX7_init_1 : decode cX7_init 1 = .ok (.invokespecial 3, 3) := by decide +kernel
theorem dX7_init_4 : decode cX7_init 4 = .ok (.aload_n 0, 1) := by decide +kernel
theorem dX7_init_5 : decode cX7_init 5 = .ok (.bipush 40, 2) := by decide +kernel
theorem dX7_init_7 : decode cX7_init 7 = .ok (.newarray .int, 2) := by decide +kernel
theorem dX7_init_9 : decode cX7_init 9 = .ok (.putfield 9, 3) := by decide +kernel
theorem dX7_init_12 : decode cX7_init 12 = .ok (.aload_n 0, 1) := by decide +kernel
theorem dX7_init_13 : decode cX7_init 13 = .ok (.aload_n 1, 1) := by decide +kernel
theorem dX7_init_14 : decode cX7_init 14 = .ok (.putfield 15, 3) := by decide +kernel
theorem dX7_init_17 : decode cX7_init 17 = .ok (.aload_n 0, 1) := by decide +kernel
theorem dX7_init_18 : decode cX7_init 18 = .ok (.iload_n 2, 1) := by decide +kernel
theorem dX7_init_19 : decode cX7_init 19 = .ok (.putfield 18, 3) := by decide +kernel
theorem dX7_init_22 : decode cX7_init 22 = .ok (.aload_n 0, 1) := by decide +kernel
theorem dX7_init_23 : decode cX7_init 23 = .ok (.iload_n 3, 1) := by decide +kernel
theorem dX7_init_24 : decode cX7_init 24 = .ok (.putfield 22, 3) := by decide +kernel
theorem dX7_init_27 : decode cX7_init 27 = .ok (.return_, 1) := by decide +kernel
theorem dX7_valueOf_0 : decode cX7_valueOf 0 = .ok (.iload_n 1, 1) := by decide +kernel
theorem dX7_valueOf_1 : decode cX7_valueOf 1 = .ok (.ifCond .ne 7, 3) := by decide +kernel
theorem dX7_valueOf_4 : decode cX7_valueOf 4 = .ok (.iconst 0, 1) := by decide +kernel
theorem dX7_valueOf_5 : decode cX7_valueOf 5 = .ok (.goto 19, 3) := by decide +kernel
theorem dX7_valueOf_8 : decode cX7_valueOf 8 = .ok (.iload_n 1, 1) := by decide +kernel
theorem dX7_valueOf_9 : decode cX7_valueOf 9 = .ok (.iconst 1, 1) := by decide +kernel
theorem dX7_valueOf_10 : decode cX7_valueOf 10 = .ok (.if_icmp .ne 10, 3) := by decide +kernel
theorem dX7_valueOf_13 : decode cX7_valueOf 13 = .ok (.aload_n 0, 1) := by decide +kernel
theorem dX7_valueOf_14 : decode cX7_valueOf 14 = .ok (.getfield 18, 3) := by decide +kernel
theorem dX7_valueOf_17 : decode cX7_valueOf 17 = .ok (.goto 7, 3) := by decide +kernel
theorem dX7_valueOf_20 : decode cX7_valueOf 20 = .ok (.aload_n 0, 1) := by decide +kernel
theorem dX7_valueOf_21 : decode cX7_valueOf 21 = .ok (.getfield 22, 3) := by decide +kernel
theorem dX7_valueOf_24 : decode cX7_valueOf 24 = .ok (.istore_n 3, 1) := by decide +kernel
theorem dX7_valueOf_25 : decode cX7_valueOf 25 = .ok (.iload_n 1, 1) := by decide +kernel
theorem dX7_valueOf_26 : decode cX7_valueOf 26 = .ok (.ifCond .ne 10, 3) := by decide +kernel
theorem dX7_valueOf_29 : decode cX7_valueOf 29 = .ok (.aload_n 0, 1) := by decide +kernel
theorem dX7_valueOf_30 : decode cX7_valueOf 30 = .ok (.getfield 18, 3) := by decide +kernel
theorem dX7_valueOf_33 : decode cX7_valueOf 33 = .ok (.goto 20, 3) := by decide +kernel
theorem dX7_valueOf_36 : decode cX7_valueOf 36 = .ok (.iload_n 1, 1) := by decide +kernel
theorem dX7_valueOf_37 : decode cX7_valueOf 37 = .ok (.iconst 1, 1) := by decide +kernel
theorem dX7_valueOf_38 : decode cX7_valueOf 38 = .ok (.if_icmp .ne 10, 3) := by decide +kernel
theorem dX7_valueOf_41 : decode cX7_valueOf 41 = .ok (.aload_n 0, 1) := by decide +kernel
theorem dX7_valueOf_42 : decode cX7_valueOf 42 = .ok (.getfield 22, 3) := by decide +kernel
theorem dX7_valueOf_45 : decode cX7_valueOf 45 = .ok (.goto 8, 3) := by decide +kernel
theorem dX7_valueOf_48 : decode cX7_valueOf 48 = .ok (.aload_n 0, 1) := by decide +kernel
theorem dX7_valueOf_49 : decode cX7_valueOf 49 = .ok (.getfield 15, 3) := by decide +kernel
theorem dX7_valueOf_52 : decode cX7_valueOf 52 = .ok (.arraylength, 1) := by decide +kernel
theorem dX7_valueOf_53 : decode cX7_valueOf 53 = .ok (.istore 4, 2) := by decide +kernel
theorem dX7_valueOf_55 : decode cX7_valueOf 55 = .ok (.iconst (-1), 1) := by decide +kernel
theorem dX7_valueOf_56 : decode cX7_valueOf 56 = .ok (.istore 5, 2) := by decide +kernel
theorem dX7_valueOf_58 : decode cX7_valueOf 58 = .ok (.iload_n 3, 1) := by decide +kernel
theorem dX7_valueOf_59 : decode cX7_valueOf 59 = .ok (.istore 6, 2) := by decide +kernel
theorem dX7_valueOf_61 : decode cX7_valueOf 61 = .ok (.iload 6, 2) := by decide +kernel
theorem dX7_valueOf_63 : decode cX7_valueOf 63 = .ok (.iload 4, 2) := by decide +kernel
theorem dX7_valueOf_65 : decode cX7_valueOf 65 = .ok (.if_icmp .ge 167, 3) := by decide +kernel
theorem dX7_valueOf_68 : decode cX7_valueOf 68 = .ok (.aload_n 0, 1) := by decide +kernel
theorem dX7_valueOf_69 : decode cX7_valueOf 69 = .ok (.getfield 15, 3) := by decide +kernel
theorem dX7_valueOf_72 : decode cX7_valueOf 72 = .ok (.iload 6, 2) := by decide +kernel
theorem dX7_valueOf_74 : decode cX7_valueOf 74 = .ok (.iaload, 1) := by decide +kernel
theorem dX7_valueOf_75 : decode cX7_valueOf 75 = .ok (.istore 7, 2) := by decide +kernel
theorem dX7_valueOf_77 : decode cX7_valueOf 77 = .ok (.iload 7, 2) := by decide +kernel
theorem dX7_valueOf_79 : decode cX7_valueOf 79 = .ok (.bipush (-7), 2) := by decide +kernel
theorem dX7_valueOf_81 : decode cX7_valueOf 81 = .ok (.if_icmp .le 41, 3) := by decide +kernel
theorem dX7_valueOf_84 : decode cX7_valueOf 84 = .ok (.iload 5, 2) := by decide +kernel
theorem dX7_valueOf_86 : decode cX7_valueOf 86 = .ok (.iconst 1, 1) := by decide +kernel
theorem dX7_valueOf_87 : decode cX7_valueOf 87 = .ok (.iadd, 1) := by decide +kernel
theorem dX7_valueOf_88 : decode cX7_valueOf 88 = .ok (.bipush 40, 2) := by decide +kernel
theorem dX7_valueOf_90 : decode cX7_valueOf 90 = .ok (.if_icmp .ge 32, 3) := by decide +kernel
theorem dX7_valueOf_93 : decode cX7_valueOf 93 = .ok (.iinc 5 1, 3) := by decide +kernel
theorem dX7_valueOf_96 : decode cX7_valueOf 96 = .ok (.aload_n 0, 1) := by decide +kernel
theorem dX7_valueOf_97 : decode cX7_valueOf 97 = .ok (.getfield 9, 3) := by decide +kernel
theorem dX7_valueOf_100 : decode cX7_valueOf 100 = .ok (.iload 5, 2) := by decide +kernel
theorem dX7_valueOf_102 : decode cX7_valueOf 102 = .ok (.iload 7, 2) := by decide +kernel
theorem dX7_valueOf_104 : decode cX7_valueOf 104 = .ok (.ifCond .lt 8, 3) := by decide +kernel
theorem dX7_valueOf_107 : decode cX7_valueOf 107 = .ok (.iload 7, 2) := by decide +kernel
theorem dX7_valueOf_109 : decode cX7_valueOf 109 = .ok (.goto 9, 3) := by decide +kernel
theorem dX7_valueOf_112 : decode cX7_valueOf 112 = .ok (.aload_n 2, 1) := by decide +kernel
theorem dX7_valueOf_113 : decode cX7_valueOf 113 = .ok (.iconst (-1), 1) := by decide +kernel
theorem dX7_valueOf_114 : decode cX7_valueOf 114 = .ok (.iload 7, 2) := by decide +kernel
theorem dX7_valueOf_116 : decode cX7_valueOf 116 = .ok (.isub, 1) := by decide +kernel
theorem dX7_valueOf_117 : decode cX7_valueOf 117 = .ok (.iaload, 1) := by decide +kernel
theorem dX7_valueOf_118 : decode cX7_valueOf 118 = .ok (.iastore, 1) := by decide +kernel
theorem dX7_valueOf_119 : decode cX7_valueOf 119 = .ok (.goto 107, 3) := by decide +kernel
theorem dX7_valueOf_122 : decode cX7_valueOf 122 = .ok (.iload 7, 2) := by decide +kernel
theorem dX7_valueOf_124 : decode cX7_valueOf 124 = .ok (.bipush (-9), 2) := by decide +kernel
theorem dX7_valueOf_126 : decode cX7_valueOf 126 = .ok (.if_icmp .ne 33, 3) := by decide +kernel
theorem dX7_valueOf_129 : decode cX7_valueOf 129 = .ok (.iload 5, 2) := by decide +kernel
theorem dX7_valueOf_131 : decode cX7_valueOf 131 = .ok (.ifCond .lt 28, 3) := by decide +kernel
theorem dX7_valueOf_134 : decode cX7_valueOf 134 = .ok (.aload_n 0, 1) := by decide +kernel
theorem dX7_valueOf_135 : decode cX7_valueOf 135 = .ok (.getfield 9, 3) := by decide +kernel
theorem dX7_valueOf_138 : decode cX7_valueOf 138 = .ok (.iload 5, 2) := by decide +kernel
theorem dX7_valueOf_140 : decode cX7_valueOf 140 = .ok (.aload_n 0, 1) := by decide +kernel
theorem dX7_valueOf_141 : decode cX7_valueOf 141 = .ok (.getfield 9, 3) := by decide +kernel
theorem dX7_valueOf_144 : decode cX7_valueOf 144 = .ok (.iload 5, 2) := by decide +kernel
theorem dX7_valueOf_146 : decode cX7_valueOf 146 = .ok (.iaload, 1) := by decide +kernel
theorem dX7_valueOf_147 : decode cX7_valueOf 147 = .ok (.ifCond .ne 7, 3) := by decide +kernel
theorem dX7_valueOf_150 : decode cX7_valueOf 150 = .ok (.iconst 1, 1) := by decide +kernel
theorem dX7_valueOf_151 : decode cX7_valueOf 151 = .ok (.goto 4, 3) := by decide +kernel
theorem dX7_valueOf_154 : decode cX7_valueOf 154 = .ok (.iconst 0, 1) := by decide +kernel
theorem dX7_valueOf_155 : decode cX7_valueOf 155 = .ok (.iastore, 1) := by decide +kernel
theorem dX7_valueOf_156 : decode cX7_valueOf 156 = .ok (.goto 70, 3) := by decide +kernel
theorem dX7_valueOf_159 : decode cX7_valueOf 159 = .ok (.iload 7, 2) := by decide +kernel
theorem dX7_valueOf_161 : decode cX7_valueOf 161 = .ok (.bipush (-15), 2) := by decide +kernel
theorem dX7_valueOf_163 : decode cX7_valueOf 163 = .ok (.if_icmp .ne 26, 3) := by decide +kernel
theorem dX7_valueOf_166 : decode cX7_valueOf 166 = .ok (.iload 5, 2) := by decide +kernel
theorem dX7_valueOf_168 : decode cX7_valueOf 168 = .ok (.ifCond .lt 21, 3) := by decide +kernel
theorem dX7_valueOf_171 : decode cX7_valueOf 171 = .ok (.aload_n 0, 1) := by decide +kernel
theorem dX7_valueOf_172 : decode cX7_valueOf 172 = .ok (.getfield 9, 3) := by decide +kernel
theorem dX7_valueOf_175 : decode cX7_valueOf 175 = .ok (.iload 5, 2) := by decide +kernel
theorem dX7_valueOf_177 : decode cX7_valueOf 177 = .ok (.aload_n 0, 1) := by decide +kernel
theorem dX7_valueOf_178 : decode cX7_valueOf 178 = .ok (.getfield 9, 3) := by decide +kernel
theorem dX7_valueOf_181 : decode cX7_valueOf 181 = .ok (.iload 5, 2) := by decide +kernel
theorem dX7_valueOf_183 : decode cX7_valueOf 183 = .ok (.iaload, 1) := by decide +kernel
theorem dX7_valueOf_184 : decode cX7_valueOf 184 = .ok (.ineg, 1) := by decide +kernel
theorem dX7_valueOf_185 : decode cX7_valueOf 185 = .ok (.iastore, 1) := by decide +kernel
theorem dX7_valueOf_186 : decode cX7_valueOf 186 = .ok (.goto 40, 3) := by decide +kernel
theorem dX7_valueOf_189 : decode cX7_valueOf 189 = .ok (.iload 5, 2) := by decide +kernel
theorem dX7_valueOf_191 : decode cX7_valueOf 191 = .ok (.iconst 1, 1) := by decide +kernel
theorem dX7_valueOf_192 : decode cX7_valueOf 192 = .ok (.if_icmp .lt 34, 3) := by decide +kernel
theorem dX7_valueOf_195 : decode cX7_valueOf 195 = .ok (.iinc 5 (-1), 3) := by decide +kernel
theorem dX7_valueOf_198 : decode cX7_valueOf 198 = .ok (.aload_n 0, 1) := by decide +kernel
theorem dX7_valueOf_199 : decode cX7_valueOf 199 = .ok (.getfield 9, 3) := by decide +kernel
theorem dX7_valueOf_202 : decode cX7_valueOf 202 = .ok (.iload 5, 2) := by decide +kernel
theorem dX7_valueOf_204 : decode cX7_valueOf 204 = .ok (.iload 7, 2) := by decide +kernel
theorem dX7_valueOf_206 : decode cX7_valueOf 206 = .ok (.aload_n 0, 1) := by decide +kernel
theorem dX7_valueOf_207 : decode cX7_valueOf 207 = .ok (.getfield 9, 3) := by decide +kernel
theorem dX7_valueOf_210 : decode cX7_valueOf 210 = .ok (.iload 5, 2) := by decide +kernel
theorem dX7_valueOf_212 : decode cX7_valueOf 212 = .ok (.iaload, 1) := by decide +kernel
theorem dX7_valueOf_213 : decode cX7_valueOf 213 = .ok (.aload_n 0, 1) := by decide +kernel
theorem dX7_valueOf_214 : decode cX7_valueOf 214 = .ok (.getfield 9, 3) := by decide +kernel
theorem dX7_valueOf_217 : decode cX7_valueOf 217 = .ok (.iload 5, 2) := by decide +kernel
theorem dX7_valueOf_219 : decode cX7_valueOf 219 = .ok (.iconst 1, 1) := by decide +kernel
theorem dX7_valueOf_220 : decode cX7_valueOf 220 = .ok (.iadd, 1) := by decide +kernel
theorem dX7_valueOf_221 : decode cX7_valueOf 221 = .ok (.iaload, 1) := by decide +kernel
theorem dX7_valueOf_222 : decode cX7_valueOf 222 = .ok (.invokestatic 25, 3) := by decide +kernel
theorem dX7_valueOf_225 : decode cX7_valueOf 225 = .ok (.iastore, 1) := by decide +kernel
theorem dX7_valueOf_226 : decode cX7_valueOf 226 = .ok (.iinc 6 1, 3) := by decide +kernel
theorem dX7_valueOf_229 : decode cX7_valueOf 229 = .ok (.goto (-168), 3) := by decide +kernel
theorem dX7_valueOf_232 : decode cX7_valueOf 232 = .ok (.aload_n 0, 1) := by decide +kernel
theorem dX7_valueOf_233 : decode cX7_valueOf 233 = .ok (.getfield 9, 3) := by decide +kernel
theorem dX7_valueOf_236 : decode cX7_valueOf 236 = .ok (.iconst 0, 1) := by decide +kernel
theorem dX7_valueOf_237 : decode cX7_valueOf 237 = .ok (.iaload, 1) := by decide +kernel
theorem dX7_valueOf_238 : decode cX7_valueOf 238 = .ok (.ireturn, 1) := by decide +kernel
theorem dX7_joined_0 : decode cX7_joined 0 = .ok (.iload_n 0, 1) := by decide +kernel
theorem dX7_joined_1 : decode cX7_joined 1 = .ok (.tableswitch 101 (-13) (-7) #[97, 93, 82, 71, 101, 57, 43], 43) := by decide +kernel
theorem dX7_joined_44 : decode cX7_joined 44 = .ok (.iload_n 1, 1) := by decide +kernel
theorem dX7_joined_45 : decode cX7_joined 45 = .ok (.ifCond .ne 7, 3) := by decide +kernel
theorem dX7_joined_48 : decode cX7_joined 48 = .ok (.iload_n 2, 1) := by decide +kernel
theorem dX7_joined_49 : decode cX7_joined 49 = .ok (.ifCond .eq 7, 3) := by decide +kernel
theorem dX7_joined_52 : decode cX7_joined 52 = .ok (.iconst 1, 1) := by decide +kernel
theorem dX7_joined_53 : decode cX7_joined 53 = .ok (.goto 4, 3) := by decide +kernel
theorem dX7_joined_56 : decode cX7_joined 56 = .ok (.iconst 0, 1) := by decide +kernel
theorem dX7_joined_57 : decode cX7_joined 57 = .ok (.ireturn, 1) := by decide +kernel
theorem dX7_joined_58 : decode cX7_joined 58 = .ok (.iload_n 1, 1) := by decide +kernel
theorem dX7_joined_59 : decode cX7_joined 59 = .ok (.ifCond .eq 11, 3) := by decide +kernel
theorem dX7_joined_62 : decode cX7_joined 62 = .ok (.iload_n 2, 1) := by decide +kernel
theorem dX7_joined_63 : decode cX7_joined 63 = .ok (.ifCond .eq 7, 3) := by decide +kernel
theorem dX7_joined_66 : decode cX7_joined 66 = .ok (.iconst 1, 1) := by decide +kernel
theorem dX7_joined_67 : decode cX7_joined 67 = .ok (.goto 4, 3) := by decide +kernel
theorem dX7_joined_70 : decode cX7_joined 70 = .ok (.iconst 0, 1) := by decide +kernel
theorem dX7_joined_71 : decode cX7_joined 71 = .ok (.ireturn, 1) := by decide +kernel
theorem dX7_joined_72 : decode cX7_joined 72 = .ok (.iload_n 1, 1) := by decide +kernel
theorem dX7_joined_73 : decode cX7_joined 73 = .ok (.iload_n 2, 1) := by decide +kernel
theorem dX7_joined_74 : decode cX7_joined 74 = .ok (.if_icmp .ge 7, 3) := by decide +kernel
theorem dX7_joined_77 : decode cX7_joined 77 = .ok (.iconst 1, 1) := by decide +kernel
theorem dX7_joined_78 : decode cX7_joined 78 = .ok (.goto 4, 3) := by decide +kernel
theorem dX7_joined_81 : decode cX7_joined 81 = .ok (.iconst 0, 1) := by decide +kernel
theorem dX7_joined_82 : decode cX7_joined 82 = .ok (.ireturn, 1) := by decide +kernel
theorem dX7_joined_83 : decode cX7_joined 83 = .ok (.iload_n 1, 1) := by decide +kernel
theorem dX7_joined_84 : decode cX7_joined 84 = .ok (.iload_n 2, 1) := by decide +kernel
theorem dX7_joined_85 : decode cX7_joined 85 = .ok (.if_icmp .ne 7, 3) := by decide +kernel
theorem dX7_joined_88 : decode cX7_joined 88 = .ok (.iconst 1, 1) := by decide +kernel
theorem dX7_joined_89 : decode cX7_joined 89 = .ok (.goto 4, 3) := by decide +kernel
theorem dX7_joined_92 : decode cX7_joined 92 = .ok (.iconst 0, 1) := by decide +kernel
theorem dX7_joined_93 : decode cX7_joined 93 = .ok (.ireturn, 1) := by decide +kernel
theorem dX7_joined_94 : decode cX7_joined 94 = .ok (.iload_n 1, 1) := by decide +kernel
theorem dX7_joined_95 : decode cX7_joined 95 = .ok (.iload_n 2, 1) := by decide +kernel
theorem dX7_joined_96 : decode cX7_joined 96 = .ok (.iadd, 1) := by decide +kernel
theorem dX7_joined_97 : decode cX7_joined 97 = .ok (.ireturn, 1) := by decide +kernel
theorem dX7_joined_98 : decode cX7_joined 98 = .ok (.iload_n 1, 1) := by decide +kernel
theorem dX7_joined_99 : decode cX7_joined 99 = .ok (.iload_n 2, 1) := by decide +kernel
theorem dX7_joined_100 : decode cX7_joined 100 = .ok (.isub, 1) := by decide +kernel
theorem dX7_joined_101 : decode cX7_joined 101 = .ok (.ireturn, 1) := by decide +kernel
theorem dX7_joined_102 : decode cX7_joined 102 = .ok (.iload_n 1, 1) := by decide +kernel
theorem dX7_joined_103 : decode cX7_joined 103 = .ok (.iload_n 2, 1) := by decide +kernel
theorem dX7_joined_104 : decode cX7_joined 104 = .ok (.imul, 1) := by decide +kernel
theorem dX7_joined_105 : decode cX7_joined 105 = .ok (.ireturn, 1) := by decide +kernel
theorem dX8_init_0 : decode cX8_init 0 = .ok (.aload_n 0, 1) := by decide +kernel
theorem dX8_init_1 : decode cX8_init 1 = .ok (.invokespecial 3, 3) := by decide +kernel
theorem dX8_init_4 : decode cX8_init 4 = .ok (.return_, 1) := by decide +kernel
theorem dX8_cellIn_0 : decode cX8_cellIn 0 = .ok (.iload_n 2, 1) := by decide +kernel
theorem dX8_cellIn_1 : decode cX8_cellIn 1 = .ok (.ireturn, 1) := by decide +kernel
theorem dX8_shows_0 : decode cX8_shows 0 = .ok (.iload_n 1, 1) := by decide +kernel
theorem dX8_shows_1 : decode cX8_shows 1 = .ok (.bipush 9, 2) := by decide +kernel
theorem dX8_shows_3 : decode cX8_shows 3 = .ok (.iload_n 3, 1) := by decide +kernel
theorem dX8_shows_4 : decode cX8_shows 4 = .ok (.isub, 1) := by decide +kernel
theorem dX8_shows_5 : decode cX8_shows 5 = .ok (.if_icmp .gt 7, 3) := by decide +kernel
theorem dX8_shows_8 : decode cX8_shows 8 = .ok (.iconst 1, 1) := by decide +kernel
theorem dX8_shows_9 : decode cX8_shows 9 = .ok (.goto 4, 3) := by decide +kernel
theorem dX8_shows_12 : decode cX8_shows 12 = .ok (.iconst 0, 1) := by decide +kernel
theorem dX8_shows_13 : decode cX8_shows 13 = .ok (.ireturn, 1) := by decide +kernel
theorem dX8_worth_0 : decode cX8_worth 0 = .ok (.iload_n 1, 1) := by decide +kernel
theorem dX8_worth_1 : decode cX8_worth 1 = .ok (.ireturn, 1) := by decide +kernel
theorem dX9_init_0 : decode cX9_init 0 = .ok (.aload_n 0, 1) := by decide +kernel
theorem dX9_init_1 : decode cX9_init 1 = .ok (.invokespecial 3, 3) := by decide +kernel
theorem dX9_init_4 : decode cX9_init 4 = .ok (.aload_n 0, 1) := by decide +kernel
theorem dX9_init_5 : decode cX9_init 5 = .ok (.bipush 36, 2) := by decide +kernel
theorem dX9_init_7 : decode cX9_init 7 = .ok (.newarray .int, 2) := by decide +kernel
theorem dX9_init_9 : decode cX9_init 9 = .ok (.putfield 9, 3) := by decide +kernel
theorem dX9_init_12 : decode cX9_init 12 = .ok (.aload_n 0, 1) := by decide +kernel
theorem dX9_init_13 : decode cX9_init 13 = .ok (.bipush 6, 2) := by decide +kernel
theorem dX9_init_15 : decode cX9_init 15 = .ok (.newarray .int, 2) := by decide +kernel
theorem dX9_init_17 : decode cX9_init 17 = .ok (.putfield 15, 3) := by decide +kernel
theorem dX9_init_20 : decode cX9_init 20 = .ok (.aload_n 0, 1) := by decide +kernel
theorem dX9_init_21 : decode cX9_init 21 = .ok (.bipush 6, 2) := by decide +kernel
theorem dX9_init_23 : decode cX9_init 23 = .ok (.newarray .int, 2) := by decide +kernel
theorem dX9_init_25 : decode cX9_init 25 = .ok (.putfield 18, 3) := by decide +kernel
theorem dX9_init_28 : decode cX9_init 28 = .ok (.aload_n 0, 1) := by decide +kernel
theorem dX9_init_29 : decode cX9_init 29 = .ok (.bipush 6, 2) := by decide +kernel
theorem dX9_init_31 : decode cX9_init 31 = .ok (.newarray .int, 2) := by decide +kernel
theorem dX9_init_33 : decode cX9_init 33 = .ok (.putfield 21, 3) := by decide +kernel
theorem dX9_init_36 : decode cX9_init 36 = .ok (.aload_n 0, 1) := by decide +kernel
theorem dX9_init_37 : decode cX9_init 37 = .ok (.bipush 6, 2) := by decide +kernel
theorem dX9_init_39 : decode cX9_init 39 = .ok (.newarray .int, 2) := by decide +kernel
theorem dX9_init_41 : decode cX9_init 41 = .ok (.putfield 24, 3) := by decide +kernel
theorem dX9_init_44 : decode cX9_init 44 = .ok (.aload_n 0, 1) := by decide +kernel
theorem dX9_init_45 : decode cX9_init 45 = .ok (.iconst 5, 1) := by decide +kernel
theorem dX9_init_46 : decode cX9_init 46 = .ok (.newarray .int, 2) := by decide +kernel
theorem dX9_init_48 : decode cX9_init 48 = .ok (.putfield 27, 3) := by decide +kernel
theorem dX9_init_51 : decode cX9_init 51 = .ok (.aload_n 0, 1) := by decide +kernel
theorem dX9_init_52 : decode cX9_init 52 = .ok (.iconst 5, 1) := by decide +kernel
theorem dX9_init_53 : decode cX9_init 53 = .ok (.newarray .int, 2) := by decide +kernel
theorem dX9_init_55 : decode cX9_init 55 = .ok (.putfield 30, 3) := by decide +kernel
theorem dX9_init_58 : decode cX9_init 58 = .ok (.aload_n 0, 1) := by decide +kernel
theorem dX9_init_59 : decode cX9_init 59 = .ok (.iconst 5, 1) := by decide +kernel
theorem dX9_init_60 : decode cX9_init 60 = .ok (.newarray .int, 2) := by decide +kernel
theorem dX9_init_62 : decode cX9_init 62 = .ok (.putfield 33, 3) := by decide +kernel
theorem dX9_init_65 : decode cX9_init 65 = .ok (.aload_n 0, 1) := by decide +kernel
theorem dX9_init_66 : decode cX9_init 66 = .ok (.iconst 5, 1) := by decide +kernel
theorem dX9_init_67 : decode cX9_init 67 = .ok (.newarray .int, 2) := by decide +kernel
theorem dX9_init_69 : decode cX9_init 69 = .ok (.putfield 36, 3) := by decide +kernel
theorem dX9_init_72 : decode cX9_init 72 = .ok (.return_, 1) := by decide +kernel
theorem dX9_row_0 : decode cX9_row 0 = .ok (.iload_n 1, 1) := by decide +kernel
theorem dX9_row_1 : decode cX9_row 1 = .ok (.tableswitch 78 0 6 #[43, 48, 53, 58, 63, 68, 73], 43) := by decide +kernel
theorem dX9_row_44 : decode cX9_row 44 = .ok (.aload_n 0, 1) := by decide +kernel
theorem dX9_row_45 : decode cX9_row 45 = .ok (.getfield 15, 3) := by decide +kernel
theorem dX9_row_48 : decode cX9_row 48 = .ok (.areturn, 1) := by decide +kernel
theorem dX9_row_49 : decode cX9_row 49 = .ok (.aload_n 0, 1) := by decide +kernel
theorem dX9_row_50 : decode cX9_row 50 = .ok (.getfield 18, 3) := by decide +kernel
theorem dX9_row_53 : decode cX9_row 53 = .ok (.areturn, 1) := by decide +kernel
theorem dX9_row_54 : decode cX9_row 54 = .ok (.aload_n 0, 1) := by decide +kernel
theorem dX9_row_55 : decode cX9_row 55 = .ok (.getfield 21, 3) := by decide +kernel
theorem dX9_row_58 : decode cX9_row 58 = .ok (.areturn, 1) := by decide +kernel
theorem dX9_row_59 : decode cX9_row 59 = .ok (.aload_n 0, 1) := by decide +kernel
theorem dX9_row_60 : decode cX9_row 60 = .ok (.getfield 24, 3) := by decide +kernel
theorem dX9_row_63 : decode cX9_row 63 = .ok (.areturn, 1) := by decide +kernel
theorem dX9_row_64 : decode cX9_row 64 = .ok (.aload_n 0, 1) := by decide +kernel
theorem dX9_row_65 : decode cX9_row 65 = .ok (.getfield 27, 3) := by decide +kernel
theorem dX9_row_68 : decode cX9_row 68 = .ok (.areturn, 1) := by decide +kernel
theorem dX9_row_69 : decode cX9_row 69 = .ok (.aload_n 0, 1) := by decide +kernel
theorem dX9_row_70 : decode cX9_row 70 = .ok (.getfield 30, 3) := by decide +kernel
theorem dX9_row_73 : decode cX9_row 73 = .ok (.areturn, 1) := by decide +kernel
theorem dX9_row_74 : decode cX9_row 74 = .ok (.aload_n 0, 1) := by decide +kernel
theorem dX9_row_75 : decode cX9_row 75 = .ok (.getfield 33, 3) := by decide +kernel
theorem dX9_row_78 : decode cX9_row 78 = .ok (.areturn, 1) := by decide +kernel
theorem dX9_row_79 : decode cX9_row 79 = .ok (.aload_n 0, 1) := by decide +kernel
theorem dX9_row_80 : decode cX9_row 80 = .ok (.getfield 36, 3) := by decide +kernel
theorem dX9_row_83 : decode cX9_row 83 = .ok (.areturn, 1) := by decide +kernel
theorem dX9_owns_0 : decode cX9_owns 0 = .ok (.iload_n 2, 1) := by decide +kernel
theorem dX9_owns_1 : decode cX9_owns 1 = .ok (.iload_n 1, 1) := by decide +kernel
theorem dX9_owns_2 : decode cX9_owns 2 = .ok (.iconst 3, 1) := by decide +kernel
theorem dX9_owns_3 : decode cX9_owns 3 = .ok (.if_icmp .gt 10, 3) := by decide +kernel
theorem dX9_owns_6 : decode cX9_owns 6 = .ok (.aload_n 0, 1) := by decide +kernel
theorem dX9_owns_7 : decode cX9_owns 7 = .ok (.getfield 39, 3) := by decide +kernel
theorem dX9_owns_10 : decode cX9_owns 10 = .ok (.goto 7, 3) := by decide +kernel
theorem dX9_owns_13 : decode cX9_owns 13 = .ok (.aload_n 0, 1) := by decide +kernel
theorem dX9_owns_14 : decode cX9_owns 14 = .ok (.getfield 43, 3) := by decide +kernel
theorem dX9_owns_17 : decode cX9_owns 17 = .ok (.invokestatic 46, 3) := by decide +kernel
theorem dX9_owns_20 : decode cX9_owns 20 = .ok (.ireturn, 1) := by decide +kernel
theorem dX9_cellsAboveGround_0 : decode cX9_cellsAboveGround 0 = .ok (.iconst 0, 1) := by decide +kernel
theorem dX9_cellsAboveGround_1 : decode cX9_cellsAboveGround 1 = .ok (.istore_n 1, 1) := by decide +kernel
theorem dX9_cellsAboveGround_2 : decode cX9_cellsAboveGround 2 = .ok (.iconst 0, 1) := by decide +kernel
theorem dX9_cellsAboveGround_3 : decode cX9_cellsAboveGround 3 = .ok (.istore_n 2, 1) := by decide +kernel
theorem dX9_cellsAboveGround_4 : decode cX9_cellsAboveGround 4 = .ok (.iload_n 2, 1) := by decide +kernel
theorem dX9_cellsAboveGround_5 : decode cX9_cellsAboveGround 5 = .ok (.bipush 36, 2) := by decide +kernel
theorem dX9_cellsAboveGround_7 : decode cX9_cellsAboveGround 7 = .ok (.if_icmp .ge 26, 3) := by decide +kernel
theorem dX9_cellsAboveGround_10 : decode cX9_cellsAboveGround 10 = .ok (.iload_n 1, 1) := by decide +kernel
theorem dX9_cellsAboveGround_11 : decode cX9_cellsAboveGround 11 = .ok (.aload_n 0, 1) := by decide +kernel
theorem dX9_cellsAboveGround_12 : decode cX9_cellsAboveGround 12 = .ok (.getfield 9, 3) := by decide +kernel
theorem dX9_cellsAboveGround_15 : decode cX9_cellsAboveGround 15 = .ok (.iload_n 2, 1) := by decide +kernel
theorem dX9_cellsAboveGround_16 : decode cX9_cellsAboveGround 16 = .ok (.iaload, 1) := by decide +kernel
theorem dX9_cellsAboveGround_17 : decode cX9_cellsAboveGround 17 = .ok (.ifCond .le 7, 3) := by decide +kernel
theorem dX9_cellsAboveGround_20 : decode cX9_cellsAboveGround 20 = .ok (.iconst 1, 1) := by decide +kernel
theorem dX9_cellsAboveGround_21 : decode cX9_cellsAboveGround 21 = .ok (.goto 4, 3) := by decide +kernel
theorem dX9_cellsAboveGround_24 : decode cX9_cellsAboveGround 24 = .ok (.iconst 0, 1) := by decide +kernel
theorem dX9_cellsAboveGround_25 : decode cX9_cellsAboveGround 25 = .ok (.iadd, 1) := by decide +kernel
theorem dX9_cellsAboveGround_26 : decode cX9_cellsAboveGround 26 = .ok (.istore_n 1, 1) := by decide +kernel
theorem dX9_cellsAboveGround_27 : decode cX9_cellsAboveGround 27 = .ok (.iinc 2 1, 3) := by decide +kernel
theorem dX9_cellsAboveGround_30 : decode cX9_cellsAboveGround 30 = .ok (.goto (-26), 3) := by decide +kernel
theorem dX9_cellsAboveGround_33 : decode cX9_cellsAboveGround 33 = .ok (.iload_n 1, 1) := by decide +kernel
theorem dX9_cellsAboveGround_34 : decode cX9_cellsAboveGround 34 = .ok (.ireturn, 1) := by decide +kernel
theorem dX9_become_0 : decode cX9_become 0 = .ok (.aload_n 1, 1) := by decide +kernel
theorem dX9_become_1 : decode cX9_become 1 = .ok (.getfield 9, 3) := by decide +kernel
theorem dX9_become_4 : decode cX9_become 4 = .ok (.iconst 0, 1) := by decide +kernel
theorem dX9_become_5 : decode cX9_become 5 = .ok (.aload_n 0, 1) := by decide +kernel
theorem dX9_become_6 : decode cX9_become 6 = .ok (.getfield 9, 3) := by decide +kernel
theorem dX9_become_9 : decode cX9_become 9 = .ok (.iconst 0, 1) := by decide +kernel
theorem dX9_become_10 : decode cX9_become 10 = .ok (.bipush 36, 2) := by decide +kernel
theorem dX9_become_12 : decode cX9_become 12 = .ok (.invokestatic 50, 3) := by decide +kernel
theorem dX9_become_15 : decode cX9_become 15 = .ok (.aload_n 0, 1) := by decide +kernel
theorem dX9_become_16 : decode cX9_become 16 = .ok (.aload_n 1, 1) := by decide +kernel
theorem dX9_become_17 : decode cX9_become 17 = .ok (.getfield 56, 3) := by decide +kernel
theorem dX9_become_20 : decode cX9_become 20 = .ok (.putfield 56, 3) := by decide +kernel
theorem dX9_become_23 : decode cX9_become 23 = .ok (.aload_n 0, 1) := by decide +kernel
theorem dX9_become_24 : decode cX9_become 24 = .ok (.aload_n 1, 1) := by decide +kernel
theorem dX9_become_25 : decode cX9_become 25 = .ok (.getfield 59, 3) := by decide +kernel
theorem dX9_become_28 : decode cX9_become 28 = .ok (.putfield 59, 3) := by decide +kernel
theorem dX9_become_31 : decode cX9_become 31 = .ok (.aload_n 0, 1) := by decide +kernel
theorem dX9_become_32 : decode cX9_become 32 = .ok (.aload_n 1, 1) := by decide +kernel
theorem dX9_become_33 : decode cX9_become 33 = .ok (.getfield 39, 3) := by decide +kernel
theorem dX9_become_36 : decode cX9_become 36 = .ok (.putfield 39, 3) := by decide +kernel
theorem dX9_become_39 : decode cX9_become 39 = .ok (.aload_n 0, 1) := by decide +kernel
theorem dX9_become_40 : decode cX9_become 40 = .ok (.aload_n 1, 1) := by decide +kernel
theorem dX9_become_41 : decode cX9_become 41 = .ok (.getfield 43, 3) := by decide +kernel
theorem dX9_become_44 : decode cX9_become 44 = .ok (.putfield 43, 3) := by decide +kernel
theorem dX9_become_47 : decode cX9_become 47 = .ok (.iconst 0, 1) := by decide +kernel
theorem dX9_become_48 : decode cX9_become 48 = .ok (.istore_n 2, 1) := by decide +kernel
theorem dX9_become_49 : decode cX9_become 49 = .ok (.iload_n 2, 1) := by decide +kernel
theorem dX9_become_50 : decode cX9_become 50 = .ok (.bipush 7, 2) := by decide +kernel
theorem dX9_become_52 : decode cX9_become 52 = .ok (.if_icmp .gt 28, 3) := by decide +kernel
theorem dX9_become_55 : decode cX9_become 55 = .ok (.aload_n 0, 1) := by decide +kernel
theorem dX9_become_56 : decode cX9_become 56 = .ok (.iload_n 2, 1) := by decide +kernel
theorem dX9_become_57 : decode cX9_become 57 = .ok (.invokevirtual 62, 3) := by decide +kernel
theorem dX9_become_60 : decode cX9_become 60 = .ok (.astore_n 3, 1) := by decide +kernel
theorem dX9_become_61 : decode cX9_become 61 = .ok (.aload_n 1, 1) := by decide +kernel
theorem dX9_become_62 : decode cX9_become 62 = .ok (.iload_n 2, 1) := by decide +kernel
theorem dX9_become_63 : decode cX9_become 63 = .ok (.invokevirtual 62, 3) := by decide +kernel
theorem dX9_become_66 : decode cX9_become 66 = .ok (.iconst 0, 1) := by decide +kernel
theorem dX9_become_67 : decode cX9_become 67 = .ok (.aload_n 3, 1) := by decide +kernel
theorem dX9_become_68 : decode cX9_become 68 = .ok (.iconst 0, 1) := by decide +kernel
theorem dX9_become_69 : decode cX9_become 69 = .ok (.aload_n 3, 1) := by decide +kernel
theorem dX9_become_70 : decode cX9_become 70 = .ok (.arraylength, 1) := by decide +kernel
theorem dX9_become_71 : decode cX9_become 71 = .ok (.invokestatic 50, 3) := by decide +kernel
theorem dX9_become_74 : decode cX9_become 74 = .ok (.iinc 2 1, 3) := by decide +kernel
theorem dX9_become_77 : decode cX9_become 77 = .ok (.goto (-28), 3) := by decide +kernel
theorem dX9_become_80 : decode cX9_become 80 = .ok (.return_, 1) := by decide +kernel
theorem dX10_init_0 : decode cX10_init 0 = .ok (.aload_n 0, 1) := by decide +kernel
theorem dX10_init_1 : decode cX10_init 1 = .ok (.invokespecial 3, 3) := by decide +kernel
theorem dX10_init_4 : decode cX10_init 4 = .ok (.return_, 1) := by decide +kernel
theorem dX10_cellIn_0 : decode cX10_cellIn 0 = .ok (.iload_n 2, 1) := by decide +kernel
theorem dX10_cellIn_1 : decode cX10_cellIn 1 = .ok (.bipush 6, 2) := by decide +kernel
theorem dX10_cellIn_3 : decode cX10_cellIn 3 = .ok (.irem, 1) := by decide +kernel
theorem dX10_cellIn_4 : decode cX10_cellIn 4 = .ok (.iload_n 1, 1) := by decide +kernel
theorem dX10_cellIn_5 : decode cX10_cellIn 5 = .ok (.iload_n 3, 1) := by decide +kernel
theorem dX10_cellIn_6 : decode cX10_cellIn 6 = .ok (.iconst 1, 1) := by decide +kernel
theorem dX10_cellIn_7 : decode cX10_cellIn 7 = .ok (.iadd, 1) := by decide +kernel
theorem dX10_cellIn_8 : decode cX10_cellIn 8 = .ok (.idiv, 1) := by decide +kernel
theorem dX10_cellIn_9 : decode cX10_cellIn 9 = .ok (.iadd, 1) := by decide +kernel
theorem dX10_cellIn_10 : decode cX10_cellIn 10 = .ok (.bipush 6, 2) := by decide +kernel
theorem dX10_cellIn_12 : decode cX10_cellIn 12 = .ok (.irem, 1) := by decide +kernel
theorem dX10_cellIn_13 : decode cX10_cellIn 13 = .ok (.istore 4, 2) := by decide +kernel
theorem dX10_cellIn_15 : decode cX10_cellIn 15 = .ok (.iload_n 2, 1) := by decide +kernel
theorem dX10_cellIn_16 : decode cX10_cellIn 16 = .ok (.iload_n 2, 1) := by decide +kernel
theorem dX10_cellIn_17 : decode cX10_cellIn 17 = .ok (.bipush 6, 2) := by decide +kernel
theorem dX10_cellIn_19 : decode cX10_cellIn 19 = .ok (.irem, 1) := by decide +kernel
theorem dX10_cellIn_20 : decode cX10_cellIn 20 = .ok (.isub, 1) := by decide +kernel
theorem dX10_cellIn_21 : decode cX10_cellIn 21 = .ok (.iload 4, 2) := by decide +kernel
theorem dX10_cellIn_23 : decode cX10_cellIn 23 = .ok (.iadd, 1) := by decide +kernel
theorem dX10_cellIn_24 : decode cX10_cellIn 24 = .ok (.ireturn, 1) := by decide +kernel
theorem dX10_worth_0 : decode cX10_worth 0 = .ok (.aload_n 0, 1) := by decide +kernel
theorem dX10_worth_1 : decode cX10_worth 1 = .ok (.iload_n 1, 1) := by decide +kernel
theorem dX10_worth_2 : decode cX10_worth 2 = .ok (.iload_n 2, 1) := by decide +kernel
theorem dX10_worth_3 : decode cX10_worth 3 = .ok (.iload_n 3, 1) := by decide +kernel
theorem dX10_worth_4 : decode cX10_worth 4 = .ok (.invokespecial 9, 3) := by decide +kernel
theorem dX10_worth_7 : decode cX10_worth 7 = .ok (.iload_n 2, 1) := by decide +kernel
theorem dX10_worth_8 : decode cX10_worth 8 = .ok (.iadd, 1) := by decide +kernel
theorem dX10_worth_9 : decode cX10_worth 9 = .ok (.ireturn, 1) := by decide +kernel
theorem dX11_init_0 : decode cX11_init 0 = .ok (.aload_n 0, 1) := by decide +kernel
theorem dX11_init_1 : decode cX11_init 1 = .ok (.invokespecial 1, 3) := by decide +kernel
theorem dX11_init_4 : decode cX11_init 4 = .ok (.aload_n 0, 1) := by decide +kernel
theorem dX11_init_5 : decode cX11_init 5 = .ok (.new 7, 3) := by decide +kernel
theorem dX11_init_8 : decode cX11_init 8 = .ok (.dup, 1) := by decide +kernel
theorem dX11_init_9 : decode cX11_init 9 = .ok (.invokespecial 9, 3) := by decide +kernel
theorem dX11_init_12 : decode cX11_init 12 = .ok (.putfield 10, 3) := by decide +kernel
theorem dX11_init_15 : decode cX11_init 15 = .ok (.aload_n 0, 1) := by decide +kernel
theorem dX11_init_16 : decode cX11_init 16 = .ok (.new 7, 3) := by decide +kernel
theorem dX11_init_19 : decode cX11_init 19 = .ok (.dup, 1) := by decide +kernel
theorem dX11_init_20 : decode cX11_init 20 = .ok (.invokespecial 9, 3) := by decide +kernel
theorem dX11_init_23 : decode cX11_init 23 = .ok (.putfield 16, 3) := by decide +kernel
theorem dX11_init_26 : decode cX11_init 26 = .ok (.aload_n 0, 1) := by decide +kernel
theorem dX11_init_27 : decode cX11_init 27 = .ok (.bipush 6, 2) := by decide +kernel
theorem dX11_init_29 : decode cX11_init 29 = .ok (.anewarray 19, 3) := by decide +kernel
theorem dX11_init_32 : decode cX11_init 32 = .ok (.dup, 1) := by decide +kernel
theorem dX11_init_33 : decode cX11_init 33 = .ok (.iconst 0, 1) := by decide +kernel
theorem dX11_init_34 : decode cX11_init 34 = .ok (.new 19, 3) := by decide +kernel
theorem dX11_init_37 : decode cX11_init 37 = .ok (.dup, 1) := by decide +kernel
theorem dX11_init_38 : decode cX11_init 38 = .ok (.invokespecial 21, 3) := by decide +kernel
theorem dX11_init_41 : decode cX11_init 41 = .ok (.aastore, 1) := by decide +kernel
theorem dX11_init_42 : decode cX11_init 42 = .ok (.dup, 1) := by decide +kernel
theorem dX11_init_43 : decode cX11_init 43 = .ok (.iconst 1, 1) := by decide +kernel
theorem dX11_init_44 : decode cX11_init 44 = .ok (.new 22, 3) := by decide +kernel
theorem dX11_init_47 : decode cX11_init 47 = .ok (.dup, 1) := by decide +kernel
theorem dX11_init_48 : decode cX11_init 48 = .ok (.invokespecial 24, 3) := by decide +kernel
theorem dX11_init_51 : decode cX11_init 51 = .ok (.aastore, 1) := by decide +kernel
theorem dX11_init_52 : decode cX11_init 52 = .ok (.dup, 1) := by decide +kernel
theorem dX11_init_53 : decode cX11_init 53 = .ok (.iconst 2, 1) := by decide +kernel
theorem dX11_init_54 : decode cX11_init 54 = .ok (.new 25, 3) := by decide +kernel
theorem dX11_init_57 : decode cX11_init 57 = .ok (.dup, 1) := by decide +kernel
theorem dX11_init_58 : decode cX11_init 58 = .ok (.invokespecial 27, 3) := by decide +kernel
theorem dX11_init_61 : decode cX11_init 61 = .ok (.aastore, 1) := by decide +kernel
theorem dX11_init_62 : decode cX11_init 62 = .ok (.dup, 1) := by decide +kernel
theorem dX11_init_63 : decode cX11_init 63 = .ok (.iconst 3, 1) := by decide +kernel
theorem dX11_init_64 : decode cX11_init 64 = .ok (.new 28, 3) := by decide +kernel
theorem dX11_init_67 : decode cX11_init 67 = .ok (.dup, 1) := by decide +kernel
theorem dX11_init_68 : decode cX11_init 68 = .ok (.invokespecial 30, 3) := by decide +kernel
theorem dX11_init_71 : decode cX11_init 71 = .ok (.aastore, 1) := by decide +kernel
theorem dX11_init_72 : decode cX11_init 72 = .ok (.dup, 1) := by decide +kernel
theorem dX11_init_73 : decode cX11_init 73 = .ok (.iconst 4, 1) := by decide +kernel
theorem dX11_init_74 : decode cX11_init 74 = .ok (.new 31, 3) := by decide +kernel
theorem dX11_init_77 : decode cX11_init 77 = .ok (.dup, 1) := by decide +kernel
theorem dX11_init_78 : decode cX11_init 78 = .ok (.invokespecial 33, 3) := by decide +kernel
theorem dX11_init_81 : decode cX11_init 81 = .ok (.aastore, 1) := by decide +kernel
theorem dX11_init_82 : decode cX11_init 82 = .ok (.dup, 1) := by decide +kernel
theorem dX11_init_83 : decode cX11_init 83 = .ok (.iconst 5, 1) := by decide +kernel
theorem dX11_init_84 : decode cX11_init 84 = .ok (.new 34, 3) := by decide +kernel
theorem dX11_init_87 : decode cX11_init 87 = .ok (.dup, 1) := by decide +kernel
theorem dX11_init_88 : decode cX11_init 88 = .ok (.invokespecial 36, 3) := by decide +kernel
theorem dX11_init_91 : decode cX11_init 91 = .ok (.aastore, 1) := by decide +kernel
theorem dX11_init_92 : decode cX11_init 92 = .ok (.putfield 37, 3) := by decide +kernel
theorem dX11_init_95 : decode cX11_init 95 = .ok (.aload_n 0, 1) := by decide +kernel
theorem dX11_init_96 : decode cX11_init 96 = .ok (.new 41, 3) := by decide +kernel
theorem dX11_init_99 : decode cX11_init 99 = .ok (.dup, 1) := by decide +kernel
theorem dX11_init_100 : decode cX11_init 100 = .ok (.invokespecial 43, 3) := by decide +kernel
theorem dX11_init_103 : decode cX11_init 103 = .ok (.putfield 44, 3) := by decide +kernel
theorem dX11_init_106 : decode cX11_init 106 = .ok (.iconst 0, 1) := by decide +kernel
theorem dX11_init_107 : decode cX11_init 107 = .ok (.istore_n 1, 1) := by decide +kernel
theorem dX11_init_108 : decode cX11_init 108 = .ok (.iload_n 1, 1) := by decide +kernel
theorem dX11_init_109 : decode cX11_init 109 = .ok (.ldc 48, 2) := by decide +kernel
theorem dX11_init_111 : decode cX11_init 111 = .ok (.invokevirtual 50, 3) := by decide +kernel
theorem dX11_init_114 : decode cX11_init 114 = .ok (.if_icmp .ge 23, 3) := by decide +kernel
theorem dX11_init_117 : decode cX11_init 117 = .ok (.aload_n 0, 1) := by decide +kernel
theorem dX11_init_118 : decode cX11_init 118 = .ok (.getfield 44, 3) := by decide +kernel
theorem dX11_init_121 : decode cX11_init 121 = .ok (.ldc 48, 2) := by decide +kernel
theorem dX11_init_123 : decode cX11_init 123 = .ok (.iload_n 1, 1) := by decide +kernel
theorem dX11_init_124 : decode cX11_init 124 = .ok (.invokevirtual 56, 3) := by decide +kernel
theorem dX11_init_127 : decode cX11_init 127 = .ok (.invokevirtual 60, 3) := by decide +kernel
theorem dX11_init_130 : decode cX11_init 130 = .ok (.pop, 1) := by decide +kernel
theorem dX11_init_131 : decode cX11_init 131 = .ok (.iinc 1 1, 3) := by decide +kernel
theorem dX11_init_134 : decode cX11_init 134 = .ok (.goto (-26), 3) := by decide +kernel
theorem dX11_init_137 : decode cX11_init 137 = .ok (.aload_n 0, 1) := by decide +kernel
theorem dX11_init_138 : decode cX11_init 138 = .ok (.bipush 6, 2) := by decide +kernel
theorem dX11_init_140 : decode cX11_init 140 = .ok (.anewarray 64, 3) := by decide +kernel
theorem dX11_init_143 : decode cX11_init 143 = .ok (.putfield 66, 3) := by decide +kernel
theorem dX11_init_146 : decode cX11_init 146 = .ok (.aload_n 0, 1) := by decide +kernel
theorem dX11_init_147 : decode cX11_init 147 = .ok (.getfield 66, 3) := by decide +kernel
theorem dX11_init_150 : decode cX11_init 150 = .ok (.iconst 0, 1) := by decide +kernel
theorem dX11_init_151 : decode cX11_init 151 = .ok (.aload_n 0, 1) := by decide +kernel
theorem dX11_init_152 : decode cX11_init 152 = .ok (.getfield 44, 3) := by decide +kernel
theorem dX11_init_155 : decode cX11_init 155 = .ok (.invokevirtual 70, 3) := by decide +kernel
theorem dX11_init_158 : decode cX11_init 158 = .ok (.aastore, 1) := by decide +kernel
theorem dX11_init_159 : decode cX11_init 159 = .ok (.aload_n 0, 1) := by decide +kernel
theorem dX11_init_160 : decode cX11_init 160 = .ok (.getfield 44, 3) := by decide +kernel
theorem dX11_init_163 : decode cX11_init 163 = .ok (.iconst 0, 1) := by decide +kernel
theorem dX11_init_164 : decode cX11_init 164 = .ok (.putfield 74, 3) := by decide +kernel
theorem dX11_init_167 : decode cX11_init 167 = .ok (.aload_n 0, 1) := by decide +kernel
theorem dX11_init_168 : decode cX11_init 168 = .ok (.iconst 1, 1) := by decide +kernel
theorem dX11_init_169 : decode cX11_init 169 = .ok (.putfield 78, 3) := by decide +kernel
theorem dX11_init_172 : decode cX11_init 172 = .ok (.aload_n 0, 1) := by decide +kernel
theorem dX11_init_173 : decode cX11_init 173 = .ok (.new 81, 3) := by decide +kernel
theorem dX11_init_176 : decode cX11_init 176 = .ok (.dup, 1) := by decide +kernel
theorem dX11_init_177 : decode cX11_init 177 = .ok (.aload_n 0, 1) := by decide +kernel
theorem dX11_init_178 : decode cX11_init 178 = .ok (.getfield 10, 3) := by decide +kernel
theorem dX11_init_181 : decode cX11_init 181 = .ok (.aload_n 0, 1) := by decide +kernel
theorem dX11_init_182 : decode cX11_init 182 = .ok (.getfield 37, 3) := by decide +kernel
theorem dX11_init_185 : decode cX11_init 185 = .ok (.aload_n 0, 1) := by decide +kernel
theorem dX11_init_186 : decode cX11_init 186 = .ok (.getfield 66, 3) := by decide +kernel
theorem dX11_init_189 : decode cX11_init 189 = .ok (.invokespecial 83, 3) := by decide +kernel
theorem dX11_init_192 : decode cX11_init 192 = .ok (.putfield 86, 3) := by decide +kernel
theorem dX11_init_195 : decode cX11_init 195 = .ok (.aload_n 0, 1) := by decide +kernel
theorem dX11_init_196 : decode cX11_init 196 = .ok (.iconst 4, 1) := by decide +kernel
theorem dX11_init_197 : decode cX11_init 197 = .ok (.anewarray 90, 3) := by decide +kernel
theorem dX11_init_200 : decode cX11_init 200 = .ok (.putfield 92, 3) := by decide +kernel
theorem dX11_init_203 : decode cX11_init 203 = .ok (.iconst 0, 1) := by decide +kernel
theorem dX11_init_204 : decode cX11_init 204 = .ok (.istore_n 1, 1) := by decide +kernel
theorem dX11_init_205 : decode cX11_init 205 = .ok (.iload_n 1, 1) := by decide +kernel
theorem dX11_init_206 : decode cX11_init 206 = .ok (.iconst 4, 1) := by decide +kernel
theorem dX11_init_207 : decode cX11_init 207 = .ok (.if_icmp .ge 22, 3) := by decide +kernel
theorem dX11_init_210 : decode cX11_init 210 = .ok (.aload_n 0, 1) := by decide +kernel
theorem dX11_init_211 : decode cX11_init 211 = .ok (.getfield 92, 3) := by decide +kernel
theorem dX11_init_214 : decode cX11_init 214 = .ok (.iload_n 1, 1) := by decide +kernel
theorem dX11_init_215 : decode cX11_init 215 = .ok (.new 90, 3) := by decide +kernel
theorem dX11_init_218 : decode cX11_init 218 = .ok (.dup, 1) := by decide +kernel
theorem dX11_init_219 : decode cX11_init 219 = .ok (.invokespecial 96, 3) := by decide +kernel
theorem dX11_init_222 : decode cX11_init 222 = .ok (.aastore, 1) := by decide +kernel
theorem dX11_init_223 : decode cX11_init 223 = .ok (.iinc 1 1, 3) := by decide +kernel
theorem dX11_init_226 : decode cX11_init 226 = .ok (.goto (-21), 3) := by decide +kernel
theorem dX11_init_229 : decode cX11_init 229 = .ok (.return_, 1) := by decide +kernel
theorem dX11_town_0 : decode cX11_town 0 = .ok (.iload_n 1, 1) := by decide +kernel
theorem dX11_town_1 : decode cX11_town 1 = .ok (.ifCond .ne 45, 3) := by decide +kernel
theorem dX11_town_4 : decode cX11_town 4 = .ok (.iload_n 2, 1) := by decide +kernel
theorem dX11_town_5 : decode cX11_town 5 = .ok (.bipush 36, 2) := by decide +kernel
theorem dX11_town_7 : decode cX11_town 7 = .ok (.invokestatic 97, 3) := by decide +kernel
theorem dX11_town_10 : decode cX11_town 10 = .ok (.ifCond .eq 36, 3) := by decide +kernel
theorem dX11_town_13 : decode cX11_town 13 = .ok (.iload_n 3, 1) := by decide +kernel
theorem dX11_town_14 : decode cX11_town 14 = .ok (.bipush 10, 2) := by decide +kernel
theorem dX11_town_16 : decode cX11_town 16 = .ok (.invokestatic 97, 3) := by decide +kernel
theorem dX11_town_19 : decode cX11_town 19 = .ok (.ifCond .eq 27, 3) := by decide +kernel
theorem dX11_town_22 : decode cX11_town 22 = .ok (.aload_n 0, 1) := by decide +kernel
theorem dX11_town_23 : decode cX11_town 23 = .ok (.getfield 10, 3) := by decide +kernel
theorem dX11_town_26 : decode cX11_town 26 = .ok (.getfield 101, 3) := by decide +kernel
theorem dX11_town_29 : decode cX11_town 29 = .ok (.iload_n 2, 1) := by decide +kernel
theorem dX11_town_30 : decode cX11_town 30 = .ok (.iaload, 1) := by decide +kernel
theorem dX11_town_31 : decode cX11_town 31 = .ok (.istore 4, 2) := by decide +kernel
theorem dX11_town_33 : decode cX11_town 33 = .ok (.aload_n 0, 1) := by decide +kernel
theorem dX11_town_34 : decode cX11_town 34 = .ok (.getfield 10, 3) := by decide +kernel
theorem dX11_town_37 : decode cX11_town 37 = .ok (.getfield 101, 3) := by decide +kernel
theorem dX11_town_40 : decode cX11_town 40 = .ok (.iload_n 2, 1) := by decide +kernel
theorem dX11_town_41 : decode cX11_town 41 = .ok (.iload_n 3, 1) := by decide +kernel
theorem dX11_town_42 : decode cX11_town 42 = .ok (.iastore, 1) := by decide +kernel
theorem dX11_town_43 : decode cX11_town 43 = .ok (.iload 4, 2) := by decide +kernel
theorem dX11_town_45 : decode cX11_town 45 = .ok (.ireturn, 1) := by decide +kernel
theorem dX11_town_46 : decode cX11_town 46 = .ok (.iload_n 1, 1) := by decide +kernel
theorem dX11_town_47 : decode cX11_town 47 = .ok (.iconst 1, 1) := by decide +kernel
theorem dX11_town_48 : decode cX11_town 48 = .ok (.if_icmp .ne 32, 3) := by decide +kernel
theorem dX11_town_51 : decode cX11_town 51 = .ok (.iload_n 3, 1) := by decide +kernel
theorem dX11_town_52 : decode cX11_town 52 = .ok (.bipush 10, 2) := by decide +kernel
theorem dX11_town_54 : decode cX11_town 54 = .ok (.invokestatic 97, 3) := by decide +kernel
theorem dX11_town_57 : decode cX11_town 57 = .ok (.ifCond .eq 23, 3) := by decide +kernel
theorem dX11_town_60 : decode cX11_town 60 = .ok (.aload_n 0, 1) := by decide +kernel
theorem dX11_town_61 : decode cX11_town 61 = .ok (.getfield 10, 3) := by decide +kernel
theorem dX11_town_64 : decode cX11_town 64 = .ok (.getfield 105, 3) := by decide +kernel
theorem dX11_town_67 : decode cX11_town 67 = .ok (.istore 4, 2) := by decide +kernel
theorem dX11_town_69 : decode cX11_town 69 = .ok (.aload_n 0, 1) := by decide +kernel
theorem dX11_town_70 : decode cX11_town 70 = .ok (.getfield 10, 3) := by decide +kernel
theorem dX11_town_73 : decode cX11_town 73 = .ok (.iload_n 3, 1) := by decide +kernel
theorem dX11_town_74 : decode cX11_town 74 = .ok (.putfield 105, 3) := by decide +kernel
theorem dX11_town_77 : decode cX11_town 77 = .ok (.iload 4, 2) := by decide +kernel
theorem dX11_town_79 : decode cX11_town 79 = .ok (.ireturn, 1) := by decide +kernel
theorem dX11_town_80 : decode cX11_town 80 = .ok (.bipush (-2), 2) := by decide +kernel
theorem dX11_town_82 : decode cX11_town 82 = .ok (.ireturn, 1) := by decide +kernel
theorem dX11_high_0 : decode cX11_high 0 = .ok (.iload_n 1, 1) := by decide +kernel
theorem dX11_high_1 : decode cX11_high 1 = .ok (.bipush 36, 2) := by decide +kernel
theorem dX11_high_3 : decode cX11_high 3 = .ok (.invokestatic 97, 3) := by decide +kernel
theorem dX11_high_6 : decode cX11_high 6 = .ok (.ifCond .eq 15, 3) := by decide +kernel
theorem dX11_high_9 : decode cX11_high 9 = .ok (.aload_n 0, 1) := by decide +kernel
theorem dX11_high_10 : decode cX11_high 10 = .ok (.getfield 10, 3) := by decide +kernel
theorem dX11_high_13 : decode cX11_high 13 = .ok (.getfield 101, 3) := by decide +kernel
theorem dX11_high_16 : decode cX11_high 16 = .ok (.iload_n 1, 1) := by decide +kernel
theorem dX11_high_17 : decode cX11_high 17 = .ok (.iaload, 1) := by decide +kernel
theorem dX11_high_18 : decode cX11_high 18 = .ok (.goto 5, 3) := by decide +kernel
theorem dX11_high_21 : decode cX11_high 21 = .ok (.bipush (-2), 2) := by decide +kernel
theorem dX11_high_23 : decode cX11_high 23 = .ok (.ireturn, 1) := by decide +kernel
theorem dX11_thing_0 : decode cX11_thing 0 = .ok (.iconst 3, 1) := by decide +kernel
theorem dX11_thing_1 : decode cX11_thing 1 = .ok (.iload_n 1, 1) := by decide +kernel
theorem dX11_thing_2 : decode cX11_thing 2 = .ok (.invokestatic 108, 3) := by decide +kernel
theorem dX11_thing_5 : decode cX11_thing 5 = .ok (.ifCond .eq 26, 3) := by decide +kernel
theorem dX11_thing_8 : decode cX11_thing 8 = .ok (.iconst 0, 1) := by decide +kernel
theorem dX11_thing_9 : decode cX11_thing 9 = .ok (.iload_n 2, 1) := by decide +kernel
theorem dX11_thing_10 : decode cX11_thing 10 = .ok (.invokestatic 108, 3) := by decide +kernel
theorem dX11_thing_13 : decode cX11_thing 13 = .ok (.ifCond .eq 18, 3) := by decide +kernel
theorem dX11_thing_16 : decode cX11_thing 16 = .ok (.iload_n 3, 1) := by decide +kernel
theorem dX11_thing_17 : decode cX11_thing 17 = .ok (.ifCond .lt 14, 3) := by decide +kernel
theorem dX11_thing_20 : decode cX11_thing 20 = .ok (.iconst 1, 1) := by decide +kernel
theorem dX11_thing_21 : decode cX11_thing 21 = .ok (.iload_n 3, 1) := by decide +kernel
theorem dX11_thing_22 : decode cX11_thing 22 = .ok (.bipush 10, 2) := by decide +kernel
theorem dX11_thing_24 : decode cX11_thing 24 = .ok (.idiv, 1) := by decide +kernel
theorem dX11_thing_25 : decode cX11_thing 25 = .ok (.invokestatic 108, 3) := by decide +kernel
theorem dX11_thing_28 : decode cX11_thing 28 = .ok (.ifCond .ne 6, 3) := by decide +kernel
theorem dX11_thing_31 : decode cX11_thing 31 = .ok (.bipush (-2), 2) := by decide +kernel
theorem dX11_thing_33 : decode cX11_thing 33 = .ok (.ireturn, 1) := by decide +kernel
theorem dX11_thing_34 : decode cX11_thing 34 = .ok (.aload_n 0, 1) := by decide +kernel
theorem dX11_thing_35 : decode cX11_thing 35 = .ok (.getfield 10, 3) := by decide +kernel
theorem dX11_thing_38 : decode cX11_thing 38 = .ok (.getfield 111, 3) := by decide +kernel
theorem dX11_thing_41 : decode cX11_thing 41 = .ok (.bipush 6, 2) := by decide +kernel
theorem dX11_thing_43 : decode cX11_thing 43 = .ok (.if_icmp .lt 6, 3) := by decide +kernel
theorem dX11_thing_46 : decode cX11_thing 46 = .ok (.bipush (-4), 2) := by decide +kernel
theorem dX11_thing_48 : decode cX11_thing 48 = .ok (.ireturn, 1) := by decide +kernel
theorem dX11_thing_49 : decode cX11_thing 49 = .ok (.aload_n 0, 1) := by decide +kernel
theorem dX11_thing_50 : decode cX11_thing 50 = .ok (.getfield 10, 3) := by decide +kernel
theorem dX11_thing_53 : decode cX11_thing 53 = .ok (.getfield 111, 3) := by decide +kernel
theorem dX11_thing_56 : decode cX11_thing 56 = .ok (.istore 4, 2) := by decide +kernel
theorem dX11_thing_58 : decode cX11_thing 58 = .ok (.aload_n 0, 1) := by decide +kernel
theorem dX11_thing_59 : decode cX11_thing 59 = .ok (.getfield 10, 3) := by decide +kernel
theorem dX11_thing_62 : decode cX11_thing 62 = .ok (.getfield 114, 3) := by decide +kernel
theorem dX11_thing_65 : decode cX11_thing 65 = .ok (.iload 4, 2) := by decide +kernel
theorem dX11_thing_67 : decode cX11_thing 67 = .ok (.iload_n 1, 1) := by decide +kernel
theorem dX11_thing_68 : decode cX11_thing 68 = .ok (.iastore, 1) := by decide +kernel
theorem dX11_thing_69 : decode cX11_thing 69 = .ok (.aload_n 0, 1) := by decide +kernel
theorem dX11_thing_70 : decode cX11_thing 70 = .ok (.getfield 10, 3) := by decide +kernel
theorem dX11_thing_73 : decode cX11_thing 73 = .ok (.getfield 116, 3) := by decide +kernel
theorem dX11_thing_76 : decode cX11_thing 76 = .ok (.iload 4, 2) := by decide +kernel
theorem dX11_thing_78 : decode cX11_thing 78 = .ok (.iload_n 2, 1) := by decide +kernel
theorem dX11_thing_79 : decode cX11_thing 79 = .ok (.iastore, 1) := by decide +kernel
theorem dX11_thing_80 : decode cX11_thing 80 = .ok (.aload_n 0, 1) := by decide +kernel
theorem dX11_thing_81 : decode cX11_thing 81 = .ok (.getfield 10, 3) := by decide +kernel
theorem dX11_thing_84 : decode cX11_thing 84 = .ok (.getfield 119, 3) := by decide +kernel
theorem dX11_thing_87 : decode cX11_thing 87 = .ok (.iload 4, 2) := by decide +kernel
theorem dX11_thing_89 : decode cX11_thing 89 = .ok (.iload_n 3, 1) := by decide +kernel
theorem dX11_thing_90 : decode cX11_thing 90 = .ok (.bipush 10, 2) := by decide +kernel
theorem dX11_thing_92 : decode cX11_thing 92 = .ok (.idiv, 1) := by decide +kernel
theorem dX11_thing_93 : decode cX11_thing 93 = .ok (.iastore, 1) := by decide +kernel
theorem dX11_thing_94 : decode cX11_thing 94 = .ok (.aload_n 0, 1) := by decide +kernel
theorem dX11_thing_95 : decode cX11_thing 95 = .ok (.getfield 10, 3) := by decide +kernel
theorem dX11_thing_98 : decode cX11_thing 98 = .ok (.getfield 122, 3) := by decide +kernel
theorem dX11_thing_101 : decode cX11_thing 101 = .ok (.iload 4, 2) := by decide +kernel
theorem dX11_thing_103 : decode cX11_thing 103 = .ok (.iload_n 3, 1) := by decide +kernel
theorem dX11_thing_104 : decode cX11_thing 104 = .ok (.bipush 10, 2) := by decide +kernel
theorem dX11_thing_106 : decode cX11_thing 106 = .ok (.irem, 1) := by decide +kernel
theorem dX11_thing_107 : decode cX11_thing 107 = .ok (.iastore, 1) := by decide +kernel
theorem dX11_thing_108 : decode cX11_thing 108 = .ok (.aload_n 0, 1) := by decide +kernel
theorem dX11_thing_109 : decode cX11_thing 109 = .ok (.getfield 10, 3) := by decide +kernel
theorem dX11_thing_112 : decode cX11_thing 112 = .ok (.iload 4, 2) := by decide +kernel
theorem dX11_thing_114 : decode cX11_thing 114 = .ok (.iconst 1, 1) := by decide +kernel
theorem dX11_thing_115 : decode cX11_thing 115 = .ok (.iadd, 1) := by decide +kernel
theorem dX11_thing_116 : decode cX11_thing 116 = .ok (.putfield 111, 3) := by decide +kernel
theorem dX11_thing_119 : decode cX11_thing 119 = .ok (.iload 4, 2) := by decide +kernel
theorem dX11_thing_121 : decode cX11_thing 121 = .ok (.ireturn, 1) := by decide +kernel
theorem dX11_sleeper_0 : decode cX11_sleeper 0 = .ok (.iconst 4, 1) := by decide +kernel
theorem dX11_sleeper_1 : decode cX11_sleeper 1 = .ok (.iload_n 1, 1) := by decide +kernel
theorem dX11_sleeper_2 : decode cX11_sleeper 2 = .ok (.invokestatic 108, 3) := by decide +kernel
theorem dX11_sleeper_5 : decode cX11_sleeper 5 = .ok (.ifCond .eq 39, 3) := by decide +kernel
theorem dX11_sleeper_8 : decode cX11_sleeper 8 = .ok (.iload_n 2, 1) := by decide +kernel
theorem dX11_sleeper_9 : decode cX11_sleeper 9 = .ok (.ifCond .lt 35, 3) := by decide +kernel
theorem dX11_sleeper_12 : decode cX11_sleeper 12 = .ok (.bipush 6, 2) := by decide +kernel
theorem dX11_sleeper_14 : decode cX11_sleeper 14 = .ok (.iload_n 2, 1) := by decide +kernel
theorem dX11_sleeper_15 : decode cX11_sleeper 15 = .ok (.bipush 10, 2) := by decide +kernel
theorem dX11_sleeper_17 : decode cX11_sleeper 17 = .ok (.idiv, 1) := by decide +kernel
theorem dX11_sleeper_18 : decode cX11_sleeper 18 = .ok (.invokestatic 108, 3) := by decide +kernel
theorem dX11_sleeper_21 : decode cX11_sleeper 21 = .ok (.ifCond .eq 23, 3) := by decide +kernel
theorem dX11_sleeper_24 : decode cX11_sleeper 24 = .ok (.iconst 5, 1) := by decide +kernel
theorem dX11_sleeper_25 : decode cX11_sleeper 25 = .ok (.iload_n 2, 1) := by decide +kernel
theorem dX11_sleeper_26 : decode cX11_sleeper 26 = .ok (.bipush 10, 2) := by decide +kernel
theorem dX11_sleeper_28 : decode cX11_sleeper 28 = .ok (.irem, 1) := by decide +kernel
theorem dX11_sleeper_29 : decode cX11_sleeper 29 = .ok (.invokestatic 108, 3) := by decide +kernel
theorem dX11_sleeper_32 : decode cX11_sleeper 32 = .ok (.ifCond .eq 12, 3) := by decide +kernel
theorem dX11_sleeper_35 : decode cX11_sleeper 35 = .ok (.bipush 7, 2) := by decide +kernel
theorem dX11_sleeper_37 : decode cX11_sleeper 37 = .ok (.iload_n 3, 1) := by decide +kernel
theorem dX11_sleeper_38 : decode cX11_sleeper 38 = .ok (.invokestatic 108, 3) := by decide +kernel
theorem dX11_sleeper_41 : decode cX11_sleeper 41 = .ok (.ifCond .ne 6, 3) := by decide +kernel
theorem dX11_sleeper_44 : decode cX11_sleeper 44 = .ok (.bipush (-2), 2) := by decide +kernel
theorem dX11_sleeper_46 : decode cX11_sleeper 46 = .ok (.ireturn, 1) := by decide +kernel
theorem dX11_sleeper_47 : decode cX11_sleeper 47 = .ok (.aload_n 0, 1) := by decide +kernel
theorem dX11_sleeper_48 : decode cX11_sleeper 48 = .ok (.getfield 10, 3) := by decide +kernel
theorem dX11_sleeper_51 : decode cX11_sleeper 51 = .ok (.getfield 125, 3) := by decide +kernel
theorem dX11_sleeper_54 : decode cX11_sleeper 54 = .ok (.iconst 5, 1) := by decide +kernel
theorem dX11_sleeper_55 : decode cX11_sleeper 55 = .ok (.if_icmp .lt 6, 3) := by decide +kernel
theorem dX11_sleeper_58 : decode cX11_sleeper 58 = .ok (.bipush (-4), 2) := by decide +kernel
theorem dX11_sleeper_60 : decode cX11_sleeper 60 = .ok (.ireturn, 1) := by decide +kernel
theorem dX11_sleeper_61 : decode cX11_sleeper 61 = .ok (.aload_n 0, 1) := by decide +kernel
theorem dX11_sleeper_62 : decode cX11_sleeper 62 = .ok (.getfield 10, 3) := by decide +kernel
theorem dX11_sleeper_65 : decode cX11_sleeper 65 = .ok (.getfield 125, 3) := by decide +kernel
theorem dX11_sleeper_68 : decode cX11_sleeper 68 = .ok (.istore 4, 2) := by decide +kernel
theorem dX11_sleeper_70 : decode cX11_sleeper 70 = .ok (.aload_n 0, 1) := by decide +kernel
theorem dX11_sleeper_71 : decode cX11_sleeper 71 = .ok (.getfield 10, 3) := by decide +kernel
theorem dX11_sleeper_74 : decode cX11_sleeper 74 = .ok (.getfield 128, 3) := by decide +kernel
theorem dX11_sleeper_77 : decode cX11_sleeper 77 = .ok (.iload 4, 2) := by decide +kernel
theorem dX11_sleeper_79 : decode cX11_sleeper 79 = .ok (.iload_n 1, 1) := by decide +kernel
theorem dX11_sleeper_80 : decode cX11_sleeper 80 = .ok (.iastore, 1) := by decide +kernel
theorem dX11_sleeper_81 : decode cX11_sleeper 81 = .ok (.aload_n 0, 1) := by decide +kernel
theorem dX11_sleeper_82 : decode cX11_sleeper 82 = .ok (.getfield 10, 3) := by decide +kernel
theorem dX11_sleeper_85 : decode cX11_sleeper 85 = .ok (.getfield 131, 3) := by decide +kernel
theorem dX11_sleeper_88 : decode cX11_sleeper 88 = .ok (.iload 4, 2) := by decide +kernel
theorem dX11_sleeper_90 : decode cX11_sleeper 90 = .ok (.iload_n 2, 1) := by decide +kernel
theorem dX11_sleeper_91 : decode cX11_sleeper 91 = .ok (.bipush 10, 2) := by decide +kernel
theorem dX11_sleeper_93 : decode cX11_sleeper 93 = .ok (.idiv, 1) := by decide +kernel
theorem dX11_sleeper_94 : decode cX11_sleeper 94 = .ok (.iastore, 1) := by decide +kernel
theorem dX11_sleeper_95 : decode cX11_sleeper 95 = .ok (.aload_n 0, 1) := by decide +kernel
theorem dX11_sleeper_96 : decode cX11_sleeper 96 = .ok (.getfield 10, 3) := by decide +kernel
theorem dX11_sleeper_99 : decode cX11_sleeper 99 = .ok (.getfield 134, 3) := by decide +kernel
theorem dX11_sleeper_102 : decode cX11_sleeper 102 = .ok (.iload 4, 2) := by decide +kernel
theorem dX11_sleeper_104 : decode cX11_sleeper 104 = .ok (.iload_n 2, 1) := by decide +kernel
theorem dX11_sleeper_105 : decode cX11_sleeper 105 = .ok (.bipush 10, 2) := by decide +kernel
theorem dX11_sleeper_107 : decode cX11_sleeper 107 = .ok (.irem, 1) := by decide +kernel
theorem dX11_sleeper_108 : decode cX11_sleeper 108 = .ok (.iastore, 1) := by decide +kernel
theorem dX11_sleeper_109 : decode cX11_sleeper 109 = .ok (.aload_n 0, 1) := by decide +kernel
theorem dX11_sleeper_110 : decode cX11_sleeper 110 = .ok (.getfield 10, 3) := by decide +kernel
theorem dX11_sleeper_113 : decode cX11_sleeper 113 = .ok (.getfield 137, 3) := by decide +kernel
theorem dX11_sleeper_116 : decode cX11_sleeper 116 = .ok (.iload 4, 2) := by decide +kernel
theorem dX11_sleeper_118 : decode cX11_sleeper 118 = .ok (.iload_n 3, 1) := by decide +kernel
theorem dX11_sleeper_119 : decode cX11_sleeper 119 = .ok (.iastore, 1) := by decide +kernel
theorem dX11_sleeper_120 : decode cX11_sleeper 120 = .ok (.aload_n 0, 1) := by decide +kernel
theorem dX11_sleeper_121 : decode cX11_sleeper 121 = .ok (.getfield 10, 3) := by decide +kernel
theorem dX11_sleeper_124 : decode cX11_sleeper 124 = .ok (.iload 4, 2) := by decide +kernel
theorem dX11_sleeper_126 : decode cX11_sleeper 126 = .ok (.iconst 1, 1) := by decide +kernel
theorem dX11_sleeper_127 : decode cX11_sleeper 127 = .ok (.iadd, 1) := by decide +kernel
theorem dX11_sleeper_128 : decode cX11_sleeper 128 = .ok (.putfield 125, 3) := by decide +kernel
theorem dX11_sleeper_131 : decode cX11_sleeper 131 = .ok (.iload 4, 2) := by decide +kernel
theorem dX11_sleeper_133 : decode cX11_sleeper 133 = .ok (.ireturn, 1) := by decide +kernel
theorem dX11_set_0 : decode cX11_set 0 = .ok (.iload_n 1, 1) := by decide +kernel
theorem dX11_set_1 : decode cX11_set 1 = .ok (.ifCond .lt 8, 3) := by decide +kernel
theorem dX11_set_4 : decode cX11_set 4 = .ok (.iload_n 1, 1) := by decide +kernel
theorem dX11_set_5 : decode cX11_set 5 = .ok (.iconst 5, 1) := by decide +kernel
theorem dX11_set_6 : decode cX11_set 6 = .ok (.if_icmp .le 6, 3) := by decide +kernel
theorem dX11_set_9 : decode cX11_set 9 = .ok (.bipush (-2), 2) := by decide +kernel
theorem dX11_set_11 : decode cX11_set 11 = .ok (.ireturn, 1) := by decide +kernel
theorem dX11_set_12 : decode cX11_set 12 = .ok (.iload_n 1, 1) := by decide +kernel
theorem dX11_set_13 : decode cX11_set 13 = .ok (.iconst 3, 1) := by decide +kernel
theorem dX11_set_14 : decode cX11_set 14 = .ok (.if_icmp .ge 7, 3) := by decide +kernel
theorem dX11_set_17 : decode cX11_set 17 = .ok (.iload_n 1, 1) := by decide +kernel
theorem dX11_set_18 : decode cX11_set 18 = .ok (.goto 6, 3) := by decide +kernel
theorem dX11_set_21 : decode cX11_set 21 = .ok (.iload_n 1, 1) := by decide +kernel
theorem dX11_set_22 : decode cX11_set 22 = .ok (.iconst 1, 1) := by decide +kernel
theorem dX11_set_23 : decode cX11_set 23 = .ok (.iadd, 1) := by decide +kernel
theorem dX11_set_24 : decode cX11_set 24 = .ok (.istore 4, 2) := by decide +kernel
theorem dX11_set_26 : decode cX11_set 26 = .ok (.aload_n 0, 1) := by decide +kernel
theorem dX11_set_27 : decode cX11_set 27 = .ok (.getfield 10, 3) := by decide +kernel
theorem dX11_set_30 : decode cX11_set 30 = .ok (.iload 4, 2) := by decide +kernel
theorem dX11_set_32 : decode cX11_set 32 = .ok (.iload_n 2, 1) := by decide +kernel
theorem dX11_set_33 : decode cX11_set 33 = .ok (.invokevirtual 140, 3) := by decide +kernel
theorem dX11_set_36 : decode cX11_set 36 = .ok (.ifCond .eq 12, 3) := by decide +kernel
theorem dX11_set_39 : decode cX11_set 39 = .ok (.iload 4, 2) := by decide +kernel
theorem dX11_set_41 : decode cX11_set 41 = .ok (.iload_n 3, 1) := by decide +kernel
theorem dX11_set_42 : decode cX11_set 42 = .ok (.invokestatic 108, 3) := by decide +kernel
theorem dX11_set_45 : decode cX11_set 45 = .ok (.ifCond .ne 6, 3) := by decide +kernel
theorem dX11_set_48 : decode cX11_set 48 = .ok (.bipush (-2), 2) := by decide +kernel
theorem dX11_set_50 : decode cX11_set 50 = .ok (.ireturn, 1) := by decide +kernel
theorem dX11_set_51 : decode cX11_set 51 = .ok (.aload_n 0, 1) := by decide +kernel
theorem dX11_set_52 : decode cX11_set 52 = .ok (.getfield 10, 3) := by decide +kernel
theorem dX11_set_55 : decode cX11_set 55 = .ok (.iload 4, 2) := by decide +kernel
theorem dX11_set_57 : decode cX11_set 57 = .ok (.invokevirtual 143, 3) := by decide +kernel
theorem dX11_set_60 : decode cX11_set 60 = .ok (.astore 5, 2) := by decide +kernel
theorem dX11_set_62 : decode cX11_set 62 = .ok (.aload 5, 2) := by decide +kernel
theorem dX11_set_64 : decode cX11_set 64 = .ok (.iload_n 2, 1) := by decide +kernel
theorem dX11_set_65 : decode cX11_set 65 = .ok (.iaload, 1) := by decide +kernel
theorem dX11_set_66 : decode cX11_set 66 = .ok (.istore 6, 2) := by decide +kernel
theorem dX11_set_68 : decode cX11_set 68 = .ok (.aload 5, 2) := by decide +kernel
theorem dX11_set_70 : decode cX11_set 70 = .ok (.iload_n 2, 1) := by decide +kernel
theorem dX11_set_71 : decode cX11_set 71 = .ok (.iload_n 3, 1) := by decide +kernel
theorem dX11_set_72 : decode cX11_set 72 = .ok (.iastore, 1) := by decide +kernel
theorem dX11_set_73 : decode cX11_set 73 = .ok (.iload 6, 2) := by decide +kernel
theorem dX11_set_75 : decode cX11_set 75 = .ok (.ireturn, 1) := by decide +kernel
theorem dX11_told_0 : decode cX11_told 0 = .ok (.iload_n 2, 1) := by decide +kernel
theorem dX11_told_1 : decode cX11_told 1 = .ok (.ifCond .lt 21, 3) := by decide +kernel
theorem dX11_told_4 : decode cX11_told 4 = .ok (.iload_n 2, 1) := by decide +kernel
theorem dX11_told_5 : decode cX11_told 5 = .ok (.bipush 7, 2) := by decide +kernel
theorem dX11_told_7 : decode cX11_told 7 = .ok (.if_icmp .gt 15, 3) := by decide +kernel
theorem dX11_told_10 : decode cX11_told 10 = .ok (.aload_n 0, 1) := by decide +kernel
theorem dX11_told_11 : decode cX11_told 11 = .ok (.getfield 10, 3) := by decide +kernel
theorem dX11_told_14 : decode cX11_told 14 = .ok (.iload_n 2, 1) := by decide +kernel
theorem dX11_told_15 : decode cX11_told 15 = .ok (.iload_n 1, 1) := by decide +kernel
theorem dX11_told_16 : decode cX11_told 16 = .ok (.invokevirtual 140, 3) := by decide +kernel
theorem dX11_told_19 : decode cX11_told 19 = .ok (.ifCond .ne 6, 3) := by decide +kernel
theorem dX11_told_22 : decode cX11_told 22 = .ok (.bipush (-2), 2) := by decide +kernel
theorem dX11_told_24 : decode cX11_told 24 = .ok (.ireturn, 1) := by decide +kernel
theorem dX11_told_25 : decode cX11_told 25 = .ok (.aload_n 0, 1) := by decide +kernel
theorem dX11_told_26 : decode cX11_told 26 = .ok (.getfield 10, 3) := by decide +kernel
theorem dX11_told_29 : decode cX11_told 29 = .ok (.iload_n 2, 1) := by decide +kernel
theorem dX11_told_30 : decode cX11_told 30 = .ok (.invokevirtual 143, 3) := by decide +kernel
theorem dX11_told_33 : decode cX11_told 33 = .ok (.iload_n 1, 1) := by decide +kernel
theorem dX11_told_34 : decode cX11_told 34 = .ok (.iaload, 1) := by decide +kernel
theorem dX11_told_35 : decode cX11_told 35 = .ok (.ireturn, 1) := by decide +kernel
theorem dX11_where_0 : decode cX11_where 0 = .ok (.aload_n 0, 1) := by decide +kernel
theorem dX11_where_1 : decode cX11_where 1 = .ok (.iload_n 1, 1) := by decide +kernel
theorem dX11_where_2 : decode cX11_where 2 = .ok (.invokevirtual 147, 3) := by decide +kernel
theorem dX11_where_5 : decode cX11_where 5 = .ok (.ifCond .eq 12, 3) := by decide +kernel
theorem dX11_where_8 : decode cX11_where 8 = .ok (.iload_n 2, 1) := by decide +kernel
theorem dX11_where_9 : decode cX11_where 9 = .ok (.bipush 24, 2) := by decide +kernel
theorem dX11_where_11 : decode cX11_where 11 = .ok (.invokestatic 97, 3) := by decide +kernel
theorem dX11_where_14 : decode cX11_where 14 = .ok (.ifCond .ne 6, 3) := by decide +kernel
theorem dX11_where_17 : decode cX11_where 17 = .ok (.bipush (-2), 2) := by decide +kernel
theorem dX11_where_19 : decode cX11_where 19 = .ok (.ireturn, 1) := by decide +kernel
theorem dX11_where_20 : decode cX11_where 20 = .ok (.aload_n 0, 1) := by decide +kernel
theorem dX11_where_21 : decode cX11_where 21 = .ok (.iload_n 1, 1) := by decide +kernel
theorem dX11_where_22 : decode cX11_where 22 = .ok (.invokevirtual 150, 3) := by decide +kernel
theorem dX11_where_25 : decode cX11_where 25 = .ok (.iload_n 2, 1) := by decide +kernel
theorem dX11_where_26 : decode cX11_where 26 = .ok (.aload_n 0, 1) := by decide +kernel
theorem dX11_where_27 : decode cX11_where 27 = .ok (.getfield 10, 3) := by decide +kernel
theorem dX11_where_30 : decode cX11_where 30 = .ok (.getfield 116, 3) := by decide +kernel
theorem dX11_where_33 : decode cX11_where 33 = .ok (.iload_n 1, 1) := by decide +kernel
theorem dX11_where_34 : decode cX11_where 34 = .ok (.iaload, 1) := by decide +kernel
theorem dX11_where_35 : decode cX11_where 35 = .ok (.aload_n 0, 1) := by decide +kernel
theorem dX11_where_36 : decode cX11_where 36 = .ok (.getfield 10, 3) := by decide +kernel
theorem dX11_where_39 : decode cX11_where 39 = .ok (.getfield 122, 3) := by decide +kernel
theorem dX11_where_42 : decode cX11_where 42 = .ok (.iload_n 1, 1) := by decide +kernel
theorem dX11_where_43 : decode cX11_where 43 = .ok (.iaload, 1) := by decide +kernel
theorem dX11_where_44 : decode cX11_where 44 = .ok (.invokevirtual 154, 3) := by decide +kernel
theorem dX11_where_47 : decode cX11_where 47 = .ok (.ireturn, 1) := by decide +kernel
theorem dX11_feed_0 : decode cX11_feed 0 = .ok (.iload_n 1, 1) := by decide +kernel
theorem dX11_feed_1 : decode cX11_feed 1 = .ok (.ifCond .lt 10, 3) := by decide +kernel
theorem dX11_feed_4 : decode cX11_feed 4 = .ok (.iload_n 1, 1) := by decide +kernel
theorem dX11_feed_5 : decode cX11_feed 5 = .ok (.sipush 255, 3) := by decide +kernel
theorem dX11_feed_8 : decode cX11_feed 8 = .ok (.if_icmp .le 6, 3) := by decide +kernel
theorem dX11_feed_11 : decode cX11_feed 11 = .ok (.bipush (-2), 2) := by decide +kernel
theorem dX11_feed_13 : decode cX11_feed 13 = .ok (.ireturn, 1) := by decide +kernel
theorem dX11_feed_14 : decode cX11_feed 14 = .ok (.aload_n 0, 1) := by decide +kernel
theorem dX11_feed_15 : decode cX11_feed 15 = .ok (.getfield 44, 3) := by decide +kernel
theorem dX11_feed_18 : decode cX11_feed 18 = .ok (.iload_n 1, 1) := by decide +kernel
theorem dX11_feed_19 : decode cX11_feed 19 = .ok (.invokevirtual 60, 3) := by decide +kernel
theorem dX11_feed_22 : decode cX11_feed 22 = .ok (.ifCond .eq 13, 3) := by decide +kernel
theorem dX11_feed_25 : decode cX11_feed 25 = .ok (.aload_n 0, 1) := by decide +kernel
theorem dX11_feed_26 : decode cX11_feed 26 = .ok (.getfield 44, 3) := by decide +kernel
theorem dX11_feed_29 : decode cX11_feed 29 = .ok (.getfield 74, 3) := by decide +kernel
theorem dX11_feed_32 : decode cX11_feed 32 = .ok (.goto 5, 3) := by decide +kernel
theorem dX11_feed_35 : decode cX11_feed 35 = .ok (.bipush (-4), 2) := by decide +kernel
theorem dX11_feed_37 : decode cX11_feed 37 = .ok (.ireturn, 1) := by decide +kernel
theorem dX11_text_0 : decode cX11_text 0 = .ok (.aload_n 0, 1) := by decide +kernel
theorem dX11_text_1 : decode cX11_text 1 = .ok (.getfield 78, 3) := by decide +kernel
theorem dX11_text_4 : decode cX11_text 4 = .ok (.bipush 6, 2) := by decide +kernel
theorem dX11_text_6 : decode cX11_text 6 = .ok (.if_icmp .lt 6, 3) := by decide +kernel
theorem dX11_text_9 : decode cX11_text 9 = .ok (.bipush (-4), 2) := by decide +kernel
theorem dX11_text_11 : decode cX11_text 11 = .ok (.ireturn, 1) := by decide +kernel
theorem dX11_text_12 : decode cX11_text 12 = .ok (.aload_n 0, 1) := by decide +kernel
theorem dX11_text_13 : decode cX11_text 13 = .ok (.getfield 44, 3) := by decide +kernel
theorem dX11_text_16 : decode cX11_text 16 = .ok (.invokevirtual 70, 3) := by decide +kernel
theorem dX11_text_19 : decode cX11_text 19 = .ok (.astore_n 1, 1) := by decide +kernel
theorem dX11_text_20 : decode cX11_text 20 = .ok (.aload_n 0, 1) := by decide +kernel
theorem dX11_text_21 : decode cX11_text 21 = .ok (.getfield 44, 3) := by decide +kernel
theorem dX11_text_24 : decode cX11_text 24 = .ok (.iconst 0, 1) := by decide +kernel
theorem dX11_text_25 : decode cX11_text 25 = .ok (.putfield 74, 3) := by decide +kernel
theorem dX11_text_28 : decode cX11_text 28 = .ok (.aload_n 1, 1) := by decide +kernel
theorem dX11_text_29 : decode cX11_text 29 = .ok (.ifnonnull 14, 3) := by decide +kernel
theorem dX11_text_32 : decode cX11_text 32 = .ok (.bipush (-100), 2) := by decide +kernel
theorem dX11_text_34 : decode cX11_text 34 = .ok (.aload_n 0, 1) := by decide +kernel
theorem dX11_text_35 : decode cX11_text 35 = .ok (.getfield 44, 3) := by decide +kernel
theorem dX11_text_38 : decode cX11_text 38 = .ok (.getfield 158, 3) := by decide +kernel
theorem dX11_text_41 : decode cX11_text 41 = .ok (.isub, 1) := by decide +kernel
theorem dX11_text_42 : decode cX11_text 42 = .ok (.ireturn, 1) := by decide +kernel
theorem dX11_text_43 : decode cX11_text 43 = .ok (.aload_n 0, 1) := by decide +kernel
theorem dX11_text_44 : decode cX11_text 44 = .ok (.getfield 78, 3) := by decide +kernel
theorem dX11_text_47 : decode cX11_text 47 = .ok (.istore_n 2, 1) := by decide +kernel
theorem dX11_text_48 : decode cX11_text 48 = .ok (.aload_n 0, 1) := by decide +kernel
theorem dX11_text_49 : decode cX11_text 49 = .ok (.getfield 66, 3) := by decide +kernel
theorem dX11_text_52 : decode cX11_text 52 = .ok (.iload_n 2, 1) := by decide +kernel
theorem dX11_text_53 : decode cX11_text 53 = .ok (.aload_n 1, 1) := by decide +kernel
theorem dX11_text_54 : decode cX11_text 54 = .ok (.aastore, 1) := by decide +kernel
theorem dX11_text_55 : decode cX11_text 55 = .ok (.aload_n 0, 1) := by decide +kernel
theorem dX11_text_56 : decode cX11_text 56 = .ok (.iload_n 2, 1) := by decide +kernel
theorem dX11_text_57 : decode cX11_text 57 = .ok (.iconst 1, 1) := by decide +kernel
theorem dX11_text_58 : decode cX11_text 58 = .ok (.iadd, 1) := by decide +kernel
theorem dX11_text_59 : decode cX11_text 59 = .ok (.putfield 78, 3) := by decide +kernel
theorem dX11_text_62 : decode cX11_text 62 = .ok (.iload_n 2, 1) := by decide +kernel
theorem dX11_text_63 : decode cX11_text 63 = .ok (.ireturn, 1) := by decide +kernel
theorem dX11_force_0 : decode cX11_force 0 = .ok (.iload_n 1, 1) := by decide +kernel
theorem dX11_force_1 : decode cX11_force 1 = .ok (.aload_n 0, 1) := by decide +kernel
theorem dX11_force_2 : decode cX11_force 2 = .ok (.getfield 78, 3) := by decide +kernel
theorem dX11_force_5 : decode cX11_force 5 = .ok (.invokestatic 97, 3) := by decide +kernel
theorem dX11_force_8 : decode cX11_force 8 = .ok (.ifCond .ne 6, 3) := by decide +kernel
theorem dX11_force_11 : decode cX11_force 11 = .ok (.bipush (-2), 2) := by decide +kernel
theorem dX11_force_13 : decode cX11_force 13 = .ok (.ireturn, 1) := by decide +kernel
theorem dX11_force_14 : decode cX11_force 14 = .ok (.aload_n 0, 1) := by decide +kernel
theorem dX11_force_15 : decode cX11_force 15 = .ok (.getfield 10, 3) := by decide +kernel
theorem dX11_force_18 : decode cX11_force 18 = .ok (.getfield 161, 3) := by decide +kernel
theorem dX11_force_21 : decode cX11_force 21 = .ok (.istore_n 2, 1) := by decide +kernel
theorem dX11_force_22 : decode cX11_force 22 = .ok (.aload_n 0, 1) := by decide +kernel
theorem dX11_force_23 : decode cX11_force 23 = .ok (.getfield 10, 3) := by decide +kernel
theorem dX11_force_26 : decode cX11_force 26 = .ok (.iload_n 1, 1) := by decide +kernel
theorem dX11_force_27 : decode cX11_force 27 = .ok (.putfield 161, 3) := by decide +kernel
theorem dX11_force_30 : decode cX11_force 30 = .ok (.iload_n 2, 1) := by decide +kernel
theorem dX11_force_31 : decode cX11_force 31 = .ok (.ireturn, 1) := by decide +kernel
theorem dX11_seen_0 : decode cX11_seen 0 = .ok (.aload_n 0, 1) := by decide +kernel
theorem dX11_seen_1 : decode cX11_seen 1 = .ok (.iload_n 1, 1) := by decide +kernel
theorem dX11_seen_2 : decode cX11_seen 2 = .ok (.invokevirtual 164, 3) := by decide +kernel
theorem dX11_seen_5 : decode cX11_seen 5 = .ok (.ifCond .eq 12, 3) := by decide +kernel
theorem dX11_seen_8 : decode cX11_seen 8 = .ok (.iload_n 2, 1) := by decide +kernel
theorem dX11_seen_9 : decode cX11_seen 9 = .ok (.bipush 6, 2) := by decide +kernel
theorem dX11_seen_11 : decode cX11_seen 11 = .ok (.invokestatic 97, 3) := by decide +kernel
theorem dX11_seen_14 : decode cX11_seen 14 = .ok (.ifCond .ne 6, 3) := by decide +kernel
theorem dX11_seen_17 : decode cX11_seen 17 = .ok (.bipush (-2), 2) := by decide +kernel
theorem dX11_seen_19 : decode cX11_seen 19 = .ok (.ireturn, 1) := by decide +kernel
theorem dX11_seen_20 : decode cX11_seen 20 = .ok (.aload_n 0, 1) := by decide +kernel
theorem dX11_seen_21 : decode cX11_seen 21 = .ok (.getfield 86, 3) := by decide +kernel
theorem dX11_seen_24 : decode cX11_seen 24 = .ok (.iload_n 1, 1) := by decide +kernel
theorem dX11_seen_25 : decode cX11_seen 25 = .ok (.invokevirtual 167, 3) := by decide +kernel
theorem dX11_seen_28 : decode cX11_seen 28 = .ok (.aload_n 0, 1) := by decide +kernel
theorem dX11_seen_29 : decode cX11_seen 29 = .ok (.getfield 86, 3) := by decide +kernel
theorem dX11_seen_32 : decode cX11_seen 32 = .ok (.iload_n 1, 1) := by decide +kernel
theorem dX11_seen_33 : decode cX11_seen 33 = .ok (.iload_n 2, 1) := by decide +kernel
theorem dX11_seen_34 : decode cX11_seen 34 = .ok (.invokevirtual 171, 3) := by decide +kernel
theorem dX11_seen_37 : decode cX11_seen 37 = .ok (.ireturn, 1) := by decide +kernel
theorem dX11_has_0 : decode cX11_has 0 = .ok (.aload_n 0, 1) := by decide +kernel
theorem dX11_has_1 : decode cX11_has 1 = .ok (.iload_n 1, 1) := by decide +kernel
theorem dX11_has_2 : decode cX11_has 2 = .ok (.invokevirtual 164, 3) := by decide +kernel
theorem dX11_has_5 : decode cX11_has 5 = .ok (.ifCond .ne 6, 3) := by decide +kernel
theorem dX11_has_8 : decode cX11_has 8 = .ok (.bipush (-2), 2) := by decide +kernel
theorem dX11_has_10 : decode cX11_has 10 = .ok (.ireturn, 1) := by decide +kernel
theorem dX11_has_11 : decode cX11_has 11 = .ok (.aload_n 0, 1) := by decide +kernel
theorem dX11_has_12 : decode cX11_has 12 = .ok (.getfield 86, 3) := by decide +kernel
theorem dX11_has_15 : decode cX11_has 15 = .ok (.invokevirtual 175, 3) := by decide +kernel
theorem dX11_has_18 : decode cX11_has 18 = .ok (.aload_n 0, 1) := by decide +kernel
theorem dX11_has_19 : decode cX11_has 19 = .ok (.getfield 86, 3) := by decide +kernel
theorem dX11_has_22 : decode cX11_has 22 = .ok (.getfield 178, 3) := by decide +kernel
theorem dX11_has_25 : decode cX11_has 25 = .ok (.iload_n 1, 1) := by decide +kernel
theorem dX11_has_26 : decode cX11_has 26 = .ok (.iaload, 1) := by decide +kernel
theorem dX11_has_27 : decode cX11_has 27 = .ok (.ireturn, 1) := by decide +kernel
theorem dX11_whose_0 : decode cX11_whose 0 = .ok (.aload_n 0, 1) := by decide +kernel
theorem dX11_whose_1 : decode cX11_whose 1 = .ok (.iload_n 1, 1) := by decide +kernel
theorem dX11_whose_2 : decode cX11_whose 2 = .ok (.invokevirtual 147, 3) := by decide +kernel
theorem dX11_whose_5 : decode cX11_whose 5 = .ok (.ifCond .ne 6, 3) := by decide +kernel
theorem dX11_whose_8 : decode cX11_whose 8 = .ok (.bipush (-2), 2) := by decide +kernel
theorem dX11_whose_10 : decode cX11_whose 10 = .ok (.ireturn, 1) := by decide +kernel
theorem dX11_whose_11 : decode cX11_whose 11 = .ok (.aload_n 0, 1) := by decide +kernel
theorem dX11_whose_12 : decode cX11_whose 12 = .ok (.getfield 86, 3) := by decide +kernel
theorem dX11_whose_15 : decode cX11_whose 15 = .ok (.invokevirtual 175, 3) := by decide +kernel
theorem dX11_whose_18 : decode cX11_whose 18 = .ok (.iconst 0, 1) := by decide +kernel
theorem dX11_whose_19 : decode cX11_whose 19 = .ok (.istore_n 2, 1) := by decide +kernel
theorem dX11_whose_20 : decode cX11_whose 20 = .ok (.iload_n 2, 1) := by decide +kernel
theorem dX11_whose_21 : decode cX11_whose 21 = .ok (.aload_n 0, 1) := by decide +kernel
theorem dX11_whose_22 : decode cX11_whose 22 = .ok (.getfield 10, 3) := by decide +kernel
theorem dX11_whose_25 : decode cX11_whose 25 = .ok (.getfield 125, 3) := by decide +kernel
theorem dX11_whose_28 : decode cX11_whose 28 = .ok (.if_icmp .ge 24, 3) := by decide +kernel
theorem dX11_whose_31 : decode cX11_whose 31 = .ok (.aload_n 0, 1) := by decide +kernel
theorem dX11_whose_32 : decode cX11_whose 32 = .ok (.getfield 86, 3) := by decide +kernel
theorem dX11_whose_35 : decode cX11_whose 35 = .ok (.getfield 178, 3) := by decide +kernel
theorem dX11_whose_38 : decode cX11_whose 38 = .ok (.iload_n 2, 1) := by decide +kernel
theorem dX11_whose_39 : decode cX11_whose 39 = .ok (.iaload, 1) := by decide +kernel
theorem dX11_whose_40 : decode cX11_whose 40 = .ok (.iload_n 1, 1) := by decide +kernel
theorem dX11_whose_41 : decode cX11_whose 41 = .ok (.if_icmp .ne 5, 3) := by decide +kernel
theorem dX11_whose_44 : decode cX11_whose 44 = .ok (.iload_n 2, 1) := by decide +kernel
theorem dX11_whose_45 : decode cX11_whose 45 = .ok (.ireturn, 1) := by decide +kernel
theorem dX11_whose_46 : decode cX11_whose 46 = .ok (.iinc 2 1, 3) := by decide +kernel
theorem dX11_whose_49 : decode cX11_whose 49 = .ok (.goto (-29), 3) := by decide +kernel
theorem dX11_whose_52 : decode cX11_whose 52 = .ok (.iconst (-1), 1) := by decide +kernel
theorem dX11_whose_53 : decode cX11_whose 53 = .ok (.ireturn, 1) := by decide +kernel
theorem dX11_left_0 : decode cX11_left 0 = .ok (.iload_n 1, 1) := by decide +kernel
theorem dX11_left_1 : decode cX11_left 1 = .ok (.iconst (-1), 1) := by decide +kernel
theorem dX11_left_2 : decode cX11_left 2 = .ok (.if_icmp .eq 14, 3) := by decide +kernel
theorem dX11_left_5 : decode cX11_left 5 = .ok (.aload_n 0, 1) := by decide +kernel
theorem dX11_left_6 : decode cX11_left 6 = .ok (.iload_n 1, 1) := by decide +kernel
theorem dX11_left_7 : decode cX11_left 7 = .ok (.invokevirtual 164, 3) := by decide +kernel
theorem dX11_left_10 : decode cX11_left 10 = .ok (.ifCond .ne 6, 3) := by decide +kernel
theorem dX11_left_13 : decode cX11_left 13 = .ok (.ldc 181, 2) := by decide +kernel
theorem dX11_left_15 : decode cX11_left 15 = .ok (.ireturn, 1) := by decide +kernel
theorem dX11_left_16 : decode cX11_left 16 = .ok (.aload_n 0, 1) := by decide +kernel
theorem dX11_left_17 : decode cX11_left 17 = .ok (.getfield 86, 3) := by decide +kernel
theorem dX11_left_20 : decode cX11_left 20 = .ok (.invokevirtual 175, 3) := by decide +kernel
theorem dX11_left_23 : decode cX11_left 23 = .ok (.iload_n 1, 1) := by decide +kernel
theorem dX11_left_24 : decode cX11_left 24 = .ok (.iconst (-1), 1) := by decide +kernel
theorem dX11_left_25 : decode cX11_left 25 = .ok (.if_icmp .ne 13, 3) := by decide +kernel
theorem dX11_left_28 : decode cX11_left 28 = .ok (.aload_n 0, 1) := by decide +kernel
theorem dX11_left_29 : decode cX11_left 29 = .ok (.getfield 86, 3) := by decide +kernel
theorem dX11_left_32 : decode cX11_left 32 = .ok (.invokevirtual 182, 3) := by decide +kernel
theorem dX11_left_35 : decode cX11_left 35 = .ok (.goto 11, 3) := by decide +kernel
theorem dX11_left_38 : decode cX11_left 38 = .ok (.aload_n 0, 1) := by decide +kernel
theorem dX11_left_39 : decode cX11_left 39 = .ok (.getfield 86, 3) := by decide +kernel
theorem dX11_left_42 : decode cX11_left 42 = .ok (.iload_n 1, 1) := by decide +kernel
theorem dX11_left_43 : decode cX11_left 43 = .ok (.invokevirtual 185, 3) := by decide +kernel
theorem dX11_left_46 : decode cX11_left 46 = .ok (.ireturn, 1) := by decide +kernel
theorem dX11_best_0 : decode cX11_best 0 = .ok (.aload_n 0, 1) := by decide +kernel
theorem dX11_best_1 : decode cX11_best 1 = .ok (.iload_n 1, 1) := by decide +kernel
theorem dX11_best_2 : decode cX11_best 2 = .ok (.invokevirtual 164, 3) := by decide +kernel
theorem dX11_best_5 : decode cX11_best 5 = .ok (.ifCond .eq 19, 3) := by decide +kernel
theorem dX11_best_8 : decode cX11_best 8 = .ok (.iload_n 2, 1) := by decide +kernel
theorem dX11_best_9 : decode cX11_best 9 = .ok (.iconst 3, 1) := by decide +kernel
theorem dX11_best_10 : decode cX11_best 10 = .ok (.invokestatic 97, 3) := by decide +kernel
theorem dX11_best_13 : decode cX11_best 13 = .ok (.ifCond .eq 11, 3) := by decide +kernel
theorem dX11_best_16 : decode cX11_best 16 = .ok (.iload_n 3, 1) := by decide +kernel
theorem dX11_best_17 : decode cX11_best 17 = .ok (.iconst 3, 1) := by decide +kernel
theorem dX11_best_18 : decode cX11_best 18 = .ok (.invokestatic 97, 3) := by decide +kernel
theorem dX11_best_21 : decode cX11_best 21 = .ok (.ifCond .ne 6, 3) := by decide +kernel
theorem dX11_best_24 : decode cX11_best 24 = .ok (.ldc 181, 2) := by decide +kernel
theorem dX11_best_26 : decode cX11_best 26 = .ok (.ireturn, 1) := by decide +kernel
theorem dX11_best_27 : decode cX11_best 27 = .ok (.aload_n 0, 1) := by decide +kernel
theorem dX11_best_28 : decode cX11_best 28 = .ok (.iload_n 1, 1) := by decide +kernel
theorem dX11_best_29 : decode cX11_best 29 = .ok (.iload_n 2, 1) := by decide +kernel
theorem dX11_best_30 : decode cX11_best 30 = .ok (.invokevirtual 189, 3) := by decide +kernel
theorem dX11_best_33 : decode cX11_best 33 = .ok (.iload_n 3, 1) := by decide +kernel
theorem dX11_best_34 : decode cX11_best 34 = .ok (.ifCond .ne 8, 3) := by decide +kernel
theorem dX11_best_37 : decode cX11_best 37 = .ok (.aload_n 0, 1) := by decide +kernel
theorem dX11_best_38 : decode cX11_best 38 = .ok (.getfield 193, 3) := by decide +kernel
theorem dX11_best_41 : decode cX11_best 41 = .ok (.ireturn, 1) := by decide +kernel
theorem dX11_best_42 : decode cX11_best 42 = .ok (.iload_n 3, 1) := by decide +kernel
theorem dX11_best_43 : decode cX11_best 43 = .ok (.iconst 1, 1) := by decide +kernel
theorem dX11_best_44 : decode cX11_best 44 = .ok (.if_icmp .ne 10, 3) := by decide +kernel
theorem dX11_best_47 : decode cX11_best 47 = .ok (.aload_n 0, 1) := by decide +kernel
theorem dX11_best_48 : decode cX11_best 48 = .ok (.getfield 196, 3) := by decide +kernel
theorem dX11_best_51 : decode cX11_best 51 = .ok (.goto 7, 3) := by decide +kernel
theorem dX11_best_54 : decode cX11_best 54 = .ok (.aload_n 0, 1) := by decide +kernel
theorem dX11_best_55 : decode cX11_best 55 = .ok (.getfield 199, 3) := by decide +kernel
theorem dX11_best_58 : decode cX11_best 58 = .ok (.ireturn, 1) := by decide +kernel
theorem dX11_turn_0 : decode cX11_turn 0 = .ok (.aload_n 0, 1) := by decide +kernel
theorem dX11_turn_1 : decode cX11_turn 1 = .ok (.iload_n 1, 1) := by decide +kernel
theorem dX11_turn_2 : decode cX11_turn 2 = .ok (.invokevirtual 164, 3) := by decide +kernel
theorem dX11_turn_5 : decode cX11_turn 5 = .ok (.ifCond .ne 6, 3) := by decide +kernel
theorem dX11_turn_8 : decode cX11_turn 8 = .ok (.ldc 181, 2) := by decide +kernel
theorem dX11_turn_10 : decode cX11_turn 10 = .ok (.ireturn, 1) := by decide +kernel
theorem dX11_turn_11 : decode cX11_turn 11 = .ok (.aload_n 0, 1) := by decide +kernel
theorem dX11_turn_12 : decode cX11_turn 12 = .ok (.iload_n 1, 1) := by decide +kernel
theorem dX11_turn_13 : decode cX11_turn 13 = .ok (.iconst 2, 1) := by decide +kernel
theorem dX11_turn_14 : decode cX11_turn 14 = .ok (.invokevirtual 189, 3) := by decide +kernel
theorem dX11_turn_17 : decode cX11_turn 17 = .ok (.aload_n 0, 1) := by decide +kernel
theorem dX11_turn_18 : decode cX11_turn 18 = .ok (.getfield 10, 3) := by decide +kernel
theorem dX11_turn_21 : decode cX11_turn 21 = .ok (.getfield 131, 3) := by decide +kernel
theorem dX11_turn_24 : decode cX11_turn 24 = .ok (.iload_n 1, 1) := by decide +kernel
theorem dX11_turn_25 : decode cX11_turn 25 = .ok (.aload_n 0, 1) := by decide +kernel
theorem dX11_turn_26 : decode cX11_turn 26 = .ok (.getfield 193, 3) := by decide +kernel
theorem dX11_turn_29 : decode cX11_turn 29 = .ok (.iastore, 1) := by decide +kernel
theorem dX11_turn_30 : decode cX11_turn 30 = .ok (.aload_n 0, 1) := by decide +kernel
theorem dX11_turn_31 : decode cX11_turn 31 = .ok (.getfield 10, 3) := by decide +kernel
theorem dX11_turn_34 : decode cX11_turn 34 = .ok (.getfield 134, 3) := by decide +kernel
theorem dX11_turn_37 : decode cX11_turn 37 = .ok (.iload_n 1, 1) := by decide +kernel
theorem dX11_turn_38 : decode cX11_turn 38 = .ok (.aload_n 0, 1) := by decide +kernel
theorem dX11_turn_39 : decode cX11_turn 39 = .ok (.getfield 196, 3) := by decide +kernel
theorem dX11_turn_42 : decode cX11_turn 42 = .ok (.iastore, 1) := by decide +kernel
theorem dX11_turn_43 : decode cX11_turn 43 = .ok (.aload_n 0, 1) := by decide +kernel
theorem dX11_turn_44 : decode cX11_turn 44 = .ok (.getfield 199, 3) := by decide +kernel
theorem dX11_turn_47 : decode cX11_turn 47 = .ok (.ireturn, 1) := by decide +kernel
theorem dX11_rest_0 : decode cX11_rest 0 = .ok (.iconst 0, 1) := by decide +kernel
theorem dX11_rest_1 : decode cX11_rest 1 = .ok (.istore_n 1, 1) := by decide +kernel
theorem dX11_rest_2 : decode cX11_rest 2 = .ok (.iload_n 1, 1) := by decide +kernel
theorem dX11_rest_3 : decode cX11_rest 3 = .ok (.aload_n 0, 1) := by decide +kernel
theorem dX11_rest_4 : decode cX11_rest 4 = .ok (.getfield 10, 3) := by decide +kernel
theorem dX11_rest_7 : decode cX11_rest 7 = .ok (.getfield 125, 3) := by decide +kernel
theorem dX11_rest_10 : decode cX11_rest 10 = .ok (.if_icmp .ge 41, 3) := by decide +kernel
theorem dX11_rest_13 : decode cX11_rest 13 = .ok (.aload_n 0, 1) := by decide +kernel
theorem dX11_rest_14 : decode cX11_rest 14 = .ok (.getfield 86, 3) := by decide +kernel
theorem dX11_rest_17 : decode cX11_rest 17 = .ok (.invokevirtual 175, 3) := by decide +kernel
theorem dX11_rest_20 : decode cX11_rest 20 = .ok (.aload_n 0, 1) := by decide +kernel
theorem dX11_rest_21 : decode cX11_rest 21 = .ok (.getfield 86, 3) := by decide +kernel
theorem dX11_rest_24 : decode cX11_rest 24 = .ok (.iload_n 1, 1) := by decide +kernel
theorem dX11_rest_25 : decode cX11_rest 25 = .ok (.invokevirtual 185, 3) := by decide +kernel
theorem dX11_rest_28 : decode cX11_rest 28 = .ok (.istore_n 2, 1) := by decide +kernel
theorem dX11_rest_29 : decode cX11_rest 29 = .ok (.aload_n 0, 1) := by decide +kernel
theorem dX11_rest_30 : decode cX11_rest 30 = .ok (.iload_n 1, 1) := by decide +kernel
theorem dX11_rest_31 : decode cX11_rest 31 = .ok (.iconst 2, 1) := by decide +kernel
theorem dX11_rest_32 : decode cX11_rest 32 = .ok (.invokevirtual 189, 3) := by decide +kernel
theorem dX11_rest_35 : decode cX11_rest 35 = .ok (.aload_n 0, 1) := by decide +kernel
theorem dX11_rest_36 : decode cX11_rest 36 = .ok (.getfield 199, 3) := by decide +kernel
theorem dX11_rest_39 : decode cX11_rest 39 = .ok (.iload_n 2, 1) := by decide +kernel
theorem dX11_rest_40 : decode cX11_rest 40 = .ok (.if_icmp .le 5, 3) := by decide +kernel
theorem dX11_rest_43 : decode cX11_rest 43 = .ok (.iconst 0, 1) := by decide +kernel
theorem dX11_rest_44 : decode cX11_rest 44 = .ok (.ireturn, 1) := by decide +kernel
theorem dX11_rest_45 : decode cX11_rest 45 = .ok (.iinc 1 1, 3) := by decide +kernel
theorem dX11_rest_48 : decode cX11_rest 48 = .ok (.goto (-46), 3) := by decide +kernel
theorem dX11_rest_51 : decode cX11_rest 51 = .ok (.iconst 1, 1) := by decide +kernel
theorem dX11_rest_52 : decode cX11_rest 52 = .ok (.ireturn, 1) := by decide +kernel
theorem dX11_beds_0 : decode cX11_beds 0 = .ok (.iload_n 1, 1) := by decide +kernel
theorem dX11_beds_1 : decode cX11_beds 1 = .ok (.ifCond .eq 11, 3) := by decide +kernel
theorem dX11_beds_4 : decode cX11_beds 4 = .ok (.iload_n 1, 1) := by decide +kernel
theorem dX11_beds_5 : decode cX11_beds 5 = .ok (.iconst 1, 1) := by decide +kernel
theorem dX11_beds_6 : decode cX11_beds 6 = .ok (.if_icmp .eq 6, 3) := by decide +kernel
theorem dX11_beds_9 : decode cX11_beds 9 = .ok (.ldc 181, 2) := by decide +kernel
theorem dX11_beds_11 : decode cX11_beds 11 = .ok (.ireturn, 1) := by decide +kernel
theorem dX11_beds_12 : decode cX11_beds 12 = .ok (.aload_n 0, 1) := by decide +kernel
theorem dX11_beds_13 : decode cX11_beds 13 = .ok (.getfield 86, 3) := by decide +kernel
theorem dX11_beds_16 : decode cX11_beds 16 = .ok (.invokevirtual 202, 3) := by decide +kernel
theorem dX11_beds_19 : decode cX11_beds 19 = .ok (.iload_n 1, 1) := by decide +kernel
theorem dX11_beds_20 : decode cX11_beds 20 = .ok (.ifCond .ne 13, 3) := by decide +kernel
theorem dX11_beds_23 : decode cX11_beds 23 = .ok (.aload_n 0, 1) := by decide +kernel
theorem dX11_beds_24 : decode cX11_beds 24 = .ok (.getfield 86, 3) := by decide +kernel
theorem dX11_beds_27 : decode cX11_beds 27 = .ok (.getfield 205, 3) := by decide +kernel
theorem dX11_beds_30 : decode cX11_beds 30 = .ok (.goto 10, 3) := by decide +kernel
theorem dX11_beds_33 : decode cX11_beds 33 = .ok (.aload_n 0, 1) := by decide +kernel
theorem dX11_beds_34 : decode cX11_beds 34 = .ok (.getfield 86, 3) := by decide +kernel
theorem dX11_beds_37 : decode cX11_beds 37 = .ok (.getfield 208, 3) := by decide +kernel
theorem dX11_beds_40 : decode cX11_beds 40 = .ok (.ireturn, 1) := by decide +kernel
theorem dX11_wall_0 : decode cX11_wall 0 = .ok (.aload_n 0, 1) := by decide +kernel
theorem dX11_wall_1 : decode cX11_wall 1 = .ok (.iload_n 1, 1) := by decide +kernel
theorem dX11_wall_2 : decode cX11_wall 2 = .ok (.invokevirtual 164, 3) := by decide +kernel
theorem dX11_wall_5 : decode cX11_wall 5 = .ok (.ifCond .eq 16, 3) := by decide +kernel
theorem dX11_wall_8 : decode cX11_wall 8 = .ok (.aload_n 0, 1) := by decide +kernel
theorem dX11_wall_9 : decode cX11_wall 9 = .ok (.iload_n 2, 1) := by decide +kernel
theorem dX11_wall_10 : decode cX11_wall 10 = .ok (.invokevirtual 164, 3) := by decide +kernel
theorem dX11_wall_13 : decode cX11_wall 13 = .ok (.ifCond .eq 8, 3) := by decide +kernel
theorem dX11_wall_16 : decode cX11_wall 16 = .ok (.iload_n 1, 1) := by decide +kernel
theorem dX11_wall_17 : decode cX11_wall 17 = .ok (.iload_n 2, 1) := by decide +kernel
theorem dX11_wall_18 : decode cX11_wall 18 = .ok (.if_icmp .ne 6, 3) := by decide +kernel
theorem dX11_wall_21 : decode cX11_wall 21 = .ok (.bipush (-2), 2) := by decide +kernel
theorem dX11_wall_23 : decode cX11_wall 23 = .ok (.ireturn, 1) := by decide +kernel
theorem dX11_wall_24 : decode cX11_wall 24 = .ok (.aload_n 0, 1) := by decide +kernel
theorem dX11_wall_25 : decode cX11_wall 25 = .ok (.getfield 86, 3) := by decide +kernel
theorem dX11_wall_28 : decode cX11_wall 28 = .ok (.invokevirtual 175, 3) := by decide +kernel
theorem dX11_wall_31 : decode cX11_wall 31 = .ok (.aload_n 0, 1) := by decide +kernel
theorem dX11_wall_32 : decode cX11_wall 32 = .ok (.getfield 86, 3) := by decide +kernel
theorem dX11_wall_35 : decode cX11_wall 35 = .ok (.iload_n 1, 1) := by decide +kernel
theorem dX11_wall_36 : decode cX11_wall 36 = .ok (.invokevirtual 185, 3) := by decide +kernel
theorem dX11_wall_39 : decode cX11_wall 39 = .ok (.istore_n 3, 1) := by decide +kernel
theorem dX11_wall_40 : decode cX11_wall 40 = .ok (.aload_n 0, 1) := by decide +kernel
theorem dX11_wall_41 : decode cX11_wall 41 = .ok (.getfield 86, 3) := by decide +kernel
theorem dX11_wall_44 : decode cX11_wall 44 = .ok (.iload_n 2, 1) := by decide +kernel
theorem dX11_wall_45 : decode cX11_wall 45 = .ok (.invokevirtual 185, 3) := by decide +kernel
theorem dX11_wall_48 : decode cX11_wall 48 = .ok (.istore 4, 2) := by decide +kernel
theorem dX11_wall_50 : decode cX11_wall 50 = .ok (.iconst (-1), 1) := by decide +kernel
theorem dX11_wall_51 : decode cX11_wall 51 = .ok (.istore 5, 2) := by decide +kernel
theorem dX11_wall_53 : decode cX11_wall 53 = .ok (.iconst 0, 1) := by decide +kernel
theorem dX11_wall_54 : decode cX11_wall 54 = .ok (.istore 6, 2) := by decide +kernel
theorem dX11_wall_56 : decode cX11_wall 56 = .ok (.iload 6, 2) := by decide +kernel
theorem dX11_wall_58 : decode cX11_wall 58 = .ok (.bipush 36, 2) := by decide +kernel
theorem dX11_wall_60 : decode cX11_wall 60 = .ok (.if_icmp .ge 56, 3) := by decide +kernel
theorem dX11_wall_63 : decode cX11_wall 63 = .ok (.aload_n 0, 1) := by decide +kernel
theorem dX11_wall_64 : decode cX11_wall 64 = .ok (.iload 6, 2) := by decide +kernel
theorem dX11_wall_66 : decode cX11_wall 66 = .ok (.bipush 9, 2) := by decide +kernel
theorem dX11_wall_68 : decode cX11_wall 68 = .ok (.invokevirtual 211, 3) := by decide +kernel
theorem dX11_wall_71 : decode cX11_wall 71 = .ok (.aload_n 0, 1) := by decide +kernel
theorem dX11_wall_72 : decode cX11_wall 72 = .ok (.getfield 86, 3) := by decide +kernel
theorem dX11_wall_75 : decode cX11_wall 75 = .ok (.iload_n 1, 1) := by decide +kernel
theorem dX11_wall_76 : decode cX11_wall 76 = .ok (.invokevirtual 185, 3) := by decide +kernel
theorem dX11_wall_79 : decode cX11_wall 79 = .ok (.iload_n 3, 1) := by decide +kernel
theorem dX11_wall_80 : decode cX11_wall 80 = .ok (.if_icmp .lt 30, 3) := by decide +kernel
theorem dX11_wall_83 : decode cX11_wall 83 = .ok (.aload_n 0, 1) := by decide +kernel
theorem dX11_wall_84 : decode cX11_wall 84 = .ok (.getfield 86, 3) := by decide +kernel
theorem dX11_wall_87 : decode cX11_wall 87 = .ok (.iload_n 2, 1) := by decide +kernel
theorem dX11_wall_88 : decode cX11_wall 88 = .ok (.invokevirtual 185, 3) := by decide +kernel
theorem dX11_wall_91 : decode cX11_wall 91 = .ok (.iload 4, 2) := by decide +kernel
theorem dX11_wall_93 : decode cX11_wall 93 = .ok (.if_icmp .ge 17, 3) := by decide +kernel
theorem dX11_wall_96 : decode cX11_wall 96 = .ok (.aload_n 0, 1) := by decide +kernel
theorem dX11_wall_97 : decode cX11_wall 97 = .ok (.getfield 86, 3) := by decide +kernel
theorem dX11_wall_100 : decode cX11_wall 100 = .ok (.iload_n 2, 1) := by decide +kernel
theorem dX11_wall_101 : decode cX11_wall 101 = .ok (.invokevirtual 185, 3) := by decide +kernel
theorem dX11_wall_104 : decode cX11_wall 104 = .ok (.istore 4, 2) := by decide +kernel
theorem dX11_wall_106 : decode cX11_wall 106 = .ok (.iload 6, 2) := by decide +kernel
theorem dX11_wall_108 : decode cX11_wall 108 = .ok (.istore 5, 2) := by decide +kernel
theorem dX11_wall_110 : decode cX11_wall 110 = .ok (.iinc 6 1, 3) := by decide +kernel
theorem dX11_wall_113 : decode cX11_wall 113 = .ok (.goto (-57), 3) := by decide +kernel
theorem dX11_wall_116 : decode cX11_wall 116 = .ok (.iload 5, 2) := by decide +kernel
theorem dX11_wall_118 : decode cX11_wall 118 = .ok (.ireturn, 1) := by decide +kernel
theorem dX11_fell_0 : decode cX11_fell 0 = .ok (.aload_n 0, 1) := by decide +kernel
theorem dX11_fell_1 : decode cX11_fell 1 = .ok (.iload_n 1, 1) := by decide +kernel
theorem dX11_fell_2 : decode cX11_fell 2 = .ok (.invokevirtual 164, 3) := by decide +kernel
theorem dX11_fell_5 : decode cX11_fell 5 = .ok (.ifCond .ne 6, 3) := by decide +kernel
theorem dX11_fell_8 : decode cX11_fell 8 = .ok (.bipush (-2), 2) := by decide +kernel
theorem dX11_fell_10 : decode cX11_fell 10 = .ok (.ireturn, 1) := by decide +kernel
theorem dX11_fell_11 : decode cX11_fell 11 = .ok (.aload_n 0, 1) := by decide +kernel
theorem dX11_fell_12 : decode cX11_fell 12 = .ok (.getfield 86, 3) := by decide +kernel
theorem dX11_fell_15 : decode cX11_fell 15 = .ok (.invokevirtual 175, 3) := by decide +kernel
theorem dX11_fell_18 : decode cX11_fell 18 = .ok (.aload_n 0, 1) := by decide +kernel
theorem dX11_fell_19 : decode cX11_fell 19 = .ok (.getfield 86, 3) := by decide +kernel
theorem dX11_fell_22 : decode cX11_fell 22 = .ok (.iload_n 1, 1) := by decide +kernel
theorem dX11_fell_23 : decode cX11_fell 23 = .ok (.invokevirtual 185, 3) := by decide +kernel
theorem dX11_fell_26 : decode cX11_fell 26 = .ok (.istore_n 2, 1) := by decide +kernel
theorem dX11_fell_27 : decode cX11_fell 27 = .ok (.iconst (-1), 1) := by decide +kernel
theorem dX11_fell_28 : decode cX11_fell 28 = .ok (.istore_n 3, 1) := by decide +kernel
theorem dX11_fell_29 : decode cX11_fell 29 = .ok (.iconst 0, 1) := by decide +kernel
theorem dX11_fell_30 : decode cX11_fell 30 = .ok (.istore 4, 2) := by decide +kernel
theorem dX11_fell_32 : decode cX11_fell 32 = .ok (.iload 4, 2) := by decide +kernel
theorem dX11_fell_34 : decode cX11_fell 34 = .ok (.bipush 36, 2) := by decide +kernel
theorem dX11_fell_36 : decode cX11_fell 36 = .ok (.if_icmp .ge 40, 3) := by decide +kernel
theorem dX11_fell_39 : decode cX11_fell 39 = .ok (.aload_n 0, 1) := by decide +kernel
theorem dX11_fell_40 : decode cX11_fell 40 = .ok (.iload 4, 2) := by decide +kernel
theorem dX11_fell_42 : decode cX11_fell 42 = .ok (.iconst 0, 1) := by decide +kernel
theorem dX11_fell_43 : decode cX11_fell 43 = .ok (.invokevirtual 211, 3) := by decide +kernel
theorem dX11_fell_46 : decode cX11_fell 46 = .ok (.aload_n 0, 1) := by decide +kernel
theorem dX11_fell_47 : decode cX11_fell 47 = .ok (.getfield 86, 3) := by decide +kernel
theorem dX11_fell_50 : decode cX11_fell 50 = .ok (.iload_n 1, 1) := by decide +kernel
theorem dX11_fell_51 : decode cX11_fell 51 = .ok (.invokevirtual 185, 3) := by decide +kernel
theorem dX11_fell_54 : decode cX11_fell 54 = .ok (.iload_n 2, 1) := by decide +kernel
theorem dX11_fell_55 : decode cX11_fell 55 = .ok (.if_icmp .le 15, 3) := by decide +kernel
theorem dX11_fell_58 : decode cX11_fell 58 = .ok (.aload_n 0, 1) := by decide +kernel
theorem dX11_fell_59 : decode cX11_fell 59 = .ok (.getfield 86, 3) := by decide +kernel
theorem dX11_fell_62 : decode cX11_fell 62 = .ok (.iload_n 1, 1) := by decide +kernel
theorem dX11_fell_63 : decode cX11_fell 63 = .ok (.invokevirtual 185, 3) := by decide +kernel
theorem dX11_fell_66 : decode cX11_fell 66 = .ok (.istore_n 2, 1) := by decide +kernel
theorem dX11_fell_67 : decode cX11_fell 67 = .ok (.iload 4, 2) := by decide +kernel
theorem dX11_fell_69 : decode cX11_fell 69 = .ok (.istore_n 3, 1) := by decide +kernel
theorem dX11_fell_70 : decode cX11_fell 70 = .ok (.iinc 4 1, 3) := by decide +kernel
theorem dX11_fell_73 : decode cX11_fell 73 = .ok (.goto (-41), 3) := by decide +kernel
theorem dX11_fell_76 : decode cX11_fell 76 = .ok (.iload_n 3, 1) := by decide +kernel
theorem dX11_fell_77 : decode cX11_fell 77 = .ok (.ireturn, 1) := by decide +kernel
theorem dX11_turned_0 : decode cX11_turned 0 = .ok (.iload_n 1, 1) := by decide +kernel
theorem dX11_turned_1 : decode cX11_turned 1 = .ok (.invokestatic 214, 3) := by decide +kernel
theorem dX11_turned_4 : decode cX11_turned 4 = .ok (.ifCond .eq 11, 3) := by decide +kernel
theorem dX11_turned_7 : decode cX11_turned 7 = .ok (.iload_n 2, 1) := by decide +kernel
theorem dX11_turned_8 : decode cX11_turned 8 = .ok (.iconst 2, 1) := by decide +kernel
theorem dX11_turned_9 : decode cX11_turned 9 = .ok (.invokestatic 97, 3) := by decide +kernel
theorem dX11_turned_12 : decode cX11_turned 12 = .ok (.ifCond .ne 6, 3) := by decide +kernel
theorem dX11_turned_15 : decode cX11_turned 15 = .ok (.bipush (-2), 2) := by decide +kernel
theorem dX11_turned_17 : decode cX11_turned 17 = .ok (.ireturn, 1) := by decide +kernel
theorem dX11_turned_18 : decode cX11_turned 18 = .ok (.aload_n 0, 1) := by decide +kernel
theorem dX11_turned_19 : decode cX11_turned 19 = .ok (.iload_n 1, 1) := by decide +kernel
theorem dX11_turned_20 : decode cX11_turned 20 = .ok (.invokevirtual 217, 3) := by decide +kernel
theorem dX11_turned_23 : decode cX11_turned 23 = .ok (.istore_n 3, 1) := by decide +kernel
theorem dX11_turned_24 : decode cX11_turned 24 = .ok (.iload_n 3, 1) := by decide +kernel
theorem dX11_turned_25 : decode cX11_turned 25 = .ok (.ifCond .eq 5, 3) := by decide +kernel
theorem dX11_turned_28 : decode cX11_turned 28 = .ok (.iload_n 3, 1) := by decide +kernel
theorem dX11_turned_29 : decode cX11_turned 29 = .ok (.ireturn, 1) := by decide +kernel
theorem dX11_turned_30 : decode cX11_turned 30 = .ok (.iconst 0, 1) := by decide +kernel
theorem dX11_turned_31 : decode cX11_turned 31 = .ok (.istore 4, 2) := by decide +kernel
theorem dX11_turned_33 : decode cX11_turned 33 = .ok (.iconst (-1), 1) := by decide +kernel
theorem dX11_turned_34 : decode cX11_turned 34 = .ok (.istore 5, 2) := by decide +kernel
theorem dX11_turned_36 : decode cX11_turned 36 = .ok (.aload_n 0, 1) := by decide +kernel
theorem dX11_turned_37 : decode cX11_turned 37 = .ok (.getfield 86, 3) := by decide +kernel
theorem dX11_turned_40 : decode cX11_turned 40 = .ok (.invokevirtual 220, 3) := by decide +kernel
theorem dX11_turned_43 : decode cX11_turned 43 = .ok (.iconst 0, 1) := by decide +kernel
theorem dX11_turned_44 : decode cX11_turned 44 = .ok (.istore 6, 2) := by decide +kernel
theorem dX11_turned_46 : decode cX11_turned 46 = .ok (.iload 6, 2) := by decide +kernel
theorem dX11_turned_48 : decode cX11_turned 48 = .ok (.aload_n 0, 1) := by decide +kernel
theorem dX11_turned_49 : decode cX11_turned 49 = .ok (.getfield 10, 3) := by decide +kernel
theorem dX11_turned_52 : decode cX11_turned 52 = .ok (.getfield 125, 3) := by decide +kernel
theorem dX11_turned_55 : decode cX11_turned 55 = .ok (.if_icmp .ge 85, 3) := by decide +kernel
theorem dX11_turned_58 : decode cX11_turned 58 = .ok (.iconst 0, 1) := by decide +kernel
theorem dX11_turned_59 : decode cX11_turned 59 = .ok (.istore 7, 2) := by decide +kernel
theorem dX11_turned_61 : decode cX11_turned 61 = .ok (.iload 7, 2) := by decide +kernel
theorem dX11_turned_63 : decode cX11_turned 63 = .ok (.iconst 4, 1) := by decide +kernel
theorem dX11_turned_64 : decode cX11_turned 64 = .ok (.if_icmp .ge 70, 3) := by decide +kernel
theorem dX11_turned_67 : decode cX11_turned 67 = .ok (.iload 7, 2) := by decide +kernel
theorem dX11_turned_69 : decode cX11_turned 69 = .ok (.aload_n 0, 1) := by decide +kernel
theorem dX11_turned_70 : decode cX11_turned 70 = .ok (.getfield 10, 3) := by decide +kernel
theorem dX11_turned_73 : decode cX11_turned 73 = .ok (.getfield 134, 3) := by decide +kernel
theorem dX11_turned_76 : decode cX11_turned 76 = .ok (.iload 6, 2) := by decide +kernel
theorem dX11_turned_78 : decode cX11_turned 78 = .ok (.iaload, 1) := by decide +kernel
theorem dX11_turned_79 : decode cX11_turned 79 = .ok (.if_icmp .eq 49, 3) := by decide +kernel
theorem dX11_turned_82 : decode cX11_turned 82 = .ok (.aload_n 0, 1) := by decide +kernel
theorem dX11_turned_83 : decode cX11_turned 83 = .ok (.iload_n 1, 1) := by decide +kernel
theorem dX11_turned_84 : decode cX11_turned 84 = .ok (.iload 6, 2) := by decide +kernel
theorem dX11_turned_86 : decode cX11_turned 86 = .ok (.aload_n 0, 1) := by decide +kernel
theorem dX11_turned_87 : decode cX11_turned 87 = .ok (.getfield 10, 3) := by decide +kernel
theorem dX11_turned_90 : decode cX11_turned 90 = .ok (.getfield 131, 3) := by decide +kernel
theorem dX11_turned_93 : decode cX11_turned 93 = .ok (.iload 6, 2) := by decide +kernel
theorem dX11_turned_95 : decode cX11_turned 95 = .ok (.iaload, 1) := by decide +kernel
theorem dX11_turned_96 : decode cX11_turned 96 = .ok (.iload 7, 2) := by decide +kernel
theorem dX11_turned_98 : decode cX11_turned 98 = .ok (.invokevirtual 223, 3) := by decide +kernel
theorem dX11_turned_101 : decode cX11_turned 101 = .ok (.ifCond .eq 27, 3) := by decide +kernel
theorem dX11_turned_104 : decode cX11_turned 104 = .ok (.iinc 4 1, 3) := by decide +kernel
theorem dX11_turned_107 : decode cX11_turned 107 = .ok (.iload 5, 2) := by decide +kernel
theorem dX11_turned_109 : decode cX11_turned 109 = .ok (.iconst (-1), 1) := by decide +kernel
theorem dX11_turned_110 : decode cX11_turned 110 = .ok (.if_icmp .ne 14, 3) := by decide +kernel
theorem dX11_turned_113 : decode cX11_turned 113 = .ok (.bipush 10, 2) := by decide +kernel
theorem dX11_turned_115 : decode cX11_turned 115 = .ok (.iload 6, 2) := by decide +kernel
theorem dX11_turned_117 : decode cX11_turned 117 = .ok (.imul, 1) := by decide +kernel
theorem dX11_turned_118 : decode cX11_turned 118 = .ok (.iload 7, 2) := by decide +kernel
theorem dX11_turned_120 : decode cX11_turned 120 = .ok (.iadd, 1) := by decide +kernel
theorem dX11_turned_121 : decode cX11_turned 121 = .ok (.goto 5, 3) := by decide +kernel
theorem dX11_turned_124 : decode cX11_turned 124 = .ok (.iload 5, 2) := by decide +kernel
theorem dX11_turned_126 : decode cX11_turned 126 = .ok (.istore 5, 2) := by decide +kernel
theorem dX11_turned_128 : decode cX11_turned 128 = .ok (.iinc 7 1, 3) := by decide +kernel
theorem dX11_turned_131 : decode cX11_turned 131 = .ok (.goto (-70), 3) := by decide +kernel
theorem dX11_turned_134 : decode cX11_turned 134 = .ok (.iinc 6 1, 3) := by decide +kernel
theorem dX11_turned_137 : decode cX11_turned 137 = .ok (.goto (-91), 3) := by decide +kernel
theorem dX11_turned_140 : decode cX11_turned 140 = .ok (.iload_n 2, 1) := by decide +kernel
theorem dX11_turned_141 : decode cX11_turned 141 = .ok (.ifCond .ne 8, 3) := by decide +kernel
theorem dX11_turned_144 : decode cX11_turned 144 = .ok (.iload 4, 2) := by decide +kernel
theorem dX11_turned_146 : decode cX11_turned 146 = .ok (.goto 5, 3) := by decide +kernel
theorem dX11_turned_149 : decode cX11_turned 149 = .ok (.iload 5, 2) := by decide +kernel
theorem dX11_turned_151 : decode cX11_turned 151 = .ok (.ireturn, 1) := by decide +kernel
theorem dX11_woke_0 : decode cX11_woke 0 = .ok (.iload_n 1, 1) := by decide +kernel
theorem dX11_woke_1 : decode cX11_woke 1 = .ok (.invokestatic 214, 3) := by decide +kernel
theorem dX11_woke_4 : decode cX11_woke 4 = .ok (.ifCond .eq 11, 3) := by decide +kernel
theorem dX11_woke_7 : decode cX11_woke 7 = .ok (.aload_n 0, 1) := by decide +kernel
theorem dX11_woke_8 : decode cX11_woke 8 = .ok (.iload_n 2, 1) := by decide +kernel
theorem dX11_woke_9 : decode cX11_woke 9 = .ok (.invokevirtual 164, 3) := by decide +kernel
theorem dX11_woke_12 : decode cX11_woke 12 = .ok (.ifCond .ne 6, 3) := by decide +kernel
theorem dX11_woke_15 : decode cX11_woke 15 = .ok (.bipush (-2), 2) := by decide +kernel
theorem dX11_woke_17 : decode cX11_woke 17 = .ok (.ireturn, 1) := by decide +kernel
theorem dX11_woke_18 : decode cX11_woke 18 = .ok (.aload_n 0, 1) := by decide +kernel
theorem dX11_woke_19 : decode cX11_woke 19 = .ok (.iload_n 1, 1) := by decide +kernel
theorem dX11_woke_20 : decode cX11_woke 20 = .ok (.invokevirtual 217, 3) := by decide +kernel
theorem dX11_woke_23 : decode cX11_woke 23 = .ok (.istore_n 3, 1) := by decide +kernel
theorem dX11_woke_24 : decode cX11_woke 24 = .ok (.iload_n 3, 1) := by decide +kernel
theorem dX11_woke_25 : decode cX11_woke 25 = .ok (.ifCond .eq 5, 3) := by decide +kernel
theorem dX11_woke_28 : decode cX11_woke 28 = .ok (.iload_n 3, 1) := by decide +kernel
theorem dX11_woke_29 : decode cX11_woke 29 = .ok (.ireturn, 1) := by decide +kernel
theorem dX11_woke_30 : decode cX11_woke 30 = .ok (.iconst 0, 1) := by decide +kernel
theorem dX11_woke_31 : decode cX11_woke 31 = .ok (.istore 4, 2) := by decide +kernel
theorem dX11_woke_33 : decode cX11_woke 33 = .ok (.aload_n 0, 1) := by decide +kernel
theorem dX11_woke_34 : decode cX11_woke 34 = .ok (.getfield 86, 3) := by decide +kernel
theorem dX11_woke_37 : decode cX11_woke 37 = .ok (.invokevirtual 220, 3) := by decide +kernel
theorem dX11_woke_40 : decode cX11_woke 40 = .ok (.iconst 0, 1) := by decide +kernel
theorem dX11_woke_41 : decode cX11_woke 41 = .ok (.istore 5, 2) := by decide +kernel
theorem dX11_woke_43 : decode cX11_woke 43 = .ok (.iload 5, 2) := by decide +kernel
theorem dX11_woke_45 : decode cX11_woke 45 = .ok (.bipush 24, 2) := by decide +kernel
theorem dX11_woke_47 : decode cX11_woke 47 = .ok (.if_icmp .ge 38, 3) := by decide +kernel
theorem dX11_woke_50 : decode cX11_woke 50 = .ok (.aload_n 0, 1) := by decide +kernel
theorem dX11_woke_51 : decode cX11_woke 51 = .ok (.iload_n 1, 1) := by decide +kernel
theorem dX11_woke_52 : decode cX11_woke 52 = .ok (.iload_n 2, 1) := by decide +kernel
theorem dX11_woke_53 : decode cX11_woke 53 = .ok (.iload 5, 2) := by decide +kernel
theorem dX11_woke_55 : decode cX11_woke 55 = .ok (.aload_n 0, 1) := by decide +kernel
theorem dX11_woke_56 : decode cX11_woke 56 = .ok (.getfield 10, 3) := by decide +kernel
theorem dX11_woke_59 : decode cX11_woke 59 = .ok (.getfield 134, 3) := by decide +kernel
theorem dX11_woke_62 : decode cX11_woke 62 = .ok (.iload_n 2, 1) := by decide +kernel
theorem dX11_woke_63 : decode cX11_woke 63 = .ok (.iaload, 1) := by decide +kernel
theorem dX11_woke_64 : decode cX11_woke 64 = .ok (.invokevirtual 223, 3) := by decide +kernel
theorem dX11_woke_67 : decode cX11_woke 67 = .ok (.ifCond .eq 12, 3) := by decide +kernel
theorem dX11_woke_70 : decode cX11_woke 70 = .ok (.iload 4, 2) := by decide +kernel
theorem dX11_woke_72 : decode cX11_woke 72 = .ok (.iconst 1, 1) := by decide +kernel
theorem dX11_woke_73 : decode cX11_woke 73 = .ok (.iload 5, 2) := by decide +kernel
theorem dX11_woke_75 : decode cX11_woke 75 = .ok (.ishl, 1) := by decide +kernel
theorem dX11_woke_76 : decode cX11_woke 76 = .ok (.ior, 1) := by decide +kernel
theorem dX11_woke_77 : decode cX11_woke 77 = .ok (.istore 4, 2) := by decide +kernel
theorem dX11_woke_79 : decode cX11_woke 79 = .ok (.iinc 5 1, 3) := by decide +kernel
theorem dX11_woke_82 : decode cX11_woke 82 = .ok (.goto (-39), 3) := by decide +kernel
theorem dX11_woke_85 : decode cX11_woke 85 = .ok (.iload 4, 2) := by decide +kernel
theorem dX11_woke_87 : decode cX11_woke 87 = .ok (.ireturn, 1) := by decide +kernel
theorem dX11_judge_0 : decode cX11_judge 0 = .ok (.iload_n 1, 1) := by decide +kernel
theorem dX11_judge_1 : decode cX11_judge 1 = .ok (.invokestatic 214, 3) := by decide +kernel
theorem dX11_judge_4 : decode cX11_judge 4 = .ok (.ifCond .ne 6, 3) := by decide +kernel
theorem dX11_judge_7 : decode cX11_judge 7 = .ok (.bipush (-2), 2) := by decide +kernel
theorem dX11_judge_9 : decode cX11_judge 9 = .ok (.ireturn, 1) := by decide +kernel
theorem dX11_judge_10 : decode cX11_judge 10 = .ok (.aload_n 0, 1) := by decide +kernel
theorem dX11_judge_11 : decode cX11_judge 11 = .ok (.iload_n 1, 1) := by decide +kernel
theorem dX11_judge_12 : decode cX11_judge 12 = .ok (.invokevirtual 217, 3) := by decide +kernel
theorem dX11_judge_15 : decode cX11_judge 15 = .ok (.istore_n 2, 1) := by decide +kernel
theorem dX11_judge_16 : decode cX11_judge 16 = .ok (.iload_n 2, 1) := by decide +kernel
theorem dX11_judge_17 : decode cX11_judge 17 = .ok (.ifCond .eq 5, 3) := by decide +kernel
theorem dX11_judge_20 : decode cX11_judge 20 = .ok (.iload_n 2, 1) := by decide +kernel
theorem dX11_judge_21 : decode cX11_judge 21 = .ok (.ireturn, 1) := by decide +kernel
theorem dX11_judge_22 : decode cX11_judge 22 = .ok (.aload_n 0, 1) := by decide +kernel
theorem dX11_judge_23 : decode cX11_judge 23 = .ok (.getfield 86, 3) := by decide +kernel
theorem dX11_judge_26 : decode cX11_judge 26 = .ok (.invokevirtual 175, 3) := by decide +kernel
theorem dX11_judge_29 : decode cX11_judge 29 = .ok (.aload_n 0, 1) := by decide +kernel
theorem dX11_judge_30 : decode cX11_judge 30 = .ok (.aload_n 0, 1) := by decide +kernel
theorem dX11_judge_31 : decode cX11_judge 31 = .ok (.getfield 92, 3) := by decide +kernel
theorem dX11_judge_34 : decode cX11_judge 34 = .ok (.iload_n 1, 1) := by decide +kernel
theorem dX11_judge_35 : decode cX11_judge 35 = .ok (.aaload, 1) := by decide +kernel
theorem dX11_judge_36 : decode cX11_judge 36 = .ok (.invokevirtual 227, 3) := by decide +kernel
theorem dX11_judge_39 : decode cX11_judge 39 = .ok (.ireturn, 1) := by decide +kernel
theorem dX11_drawn_0 : decode cX11_drawn 0 = .ok (.aload_n 0, 1) := by decide +kernel
theorem dX11_drawn_1 : decode cX11_drawn 1 = .ok (.getfield 10, 3) := by decide +kernel
theorem dX11_drawn_4 : decode cX11_drawn 4 = .ok (.getfield 105, 3) := by decide +kernel
theorem dX11_drawn_7 : decode cX11_drawn 7 = .ok (.istore_n 2, 1) := by decide +kernel
theorem dX11_drawn_8 : decode cX11_drawn 8 = .ok (.aload_n 0, 1) := by decide +kernel
theorem dX11_drawn_9 : decode cX11_drawn 9 = .ok (.getfield 10, 3) := by decide +kernel
theorem dX11_drawn_12 : decode cX11_drawn 12 = .ok (.iload_n 1, 1) := by decide +kernel
theorem dX11_drawn_13 : decode cX11_drawn 13 = .ok (.invokestatic 231, 3) := by decide +kernel
theorem dX11_drawn_16 : decode cX11_drawn 16 = .ok (.putfield 105, 3) := by decide +kernel
theorem dX11_drawn_19 : decode cX11_drawn 19 = .ok (.aload_n 0, 1) := by decide +kernel
theorem dX11_drawn_20 : decode cX11_drawn 20 = .ok (.getfield 86, 3) := by decide +kernel
theorem dX11_drawn_23 : decode cX11_drawn 23 = .ok (.invokevirtual 175, 3) := by decide +kernel
theorem dX11_drawn_26 : decode cX11_drawn 26 = .ok (.aload_n 0, 1) := by decide +kernel
theorem dX11_drawn_27 : decode cX11_drawn 27 = .ok (.getfield 86, 3) := by decide +kernel
theorem dX11_drawn_30 : decode cX11_drawn 30 = .ok (.invokevirtual 182, 3) := by decide +kernel
theorem dX11_drawn_33 : decode cX11_drawn 33 = .ok (.istore_n 3, 1) := by decide +kernel
theorem dX11_drawn_34 : decode cX11_drawn 34 = .ok (.aload_n 0, 1) := by decide +kernel
theorem dX11_drawn_35 : decode cX11_drawn 35 = .ok (.getfield 10, 3) := by decide +kernel
theorem dX11_drawn_38 : decode cX11_drawn 38 = .ok (.iload_n 2, 1) := by decide +kernel
theorem dX11_drawn_39 : decode cX11_drawn 39 = .ok (.putfield 105, 3) := by decide +kernel
theorem dX11_drawn_42 : decode cX11_drawn 42 = .ok (.iload_n 3, 1) := by decide +kernel
theorem dX11_drawn_43 : decode cX11_drawn 43 = .ok (.ireturn, 1) := by decide +kernel
theorem dX11_chance_0 : decode cX11_chance 0 = .ok (.iload_n 2, 1) := by decide +kernel
theorem dX11_chance_1 : decode cX11_chance 1 = .ok (.iconst 1, 1) := by decide +kernel
theorem dX11_chance_2 : decode cX11_chance 2 = .ok (.if_icmp .lt 26, 3) := by decide +kernel
theorem dX11_chance_5 : decode cX11_chance 5 = .ok (.iload_n 2, 1) := by decide +kernel
theorem dX11_chance_6 : decode cX11_chance 6 = .ok (.bipush 20, 2) := by decide +kernel
theorem dX11_chance_8 : decode cX11_chance 8 = .ok (.if_icmp .gt 20, 3) := by decide +kernel
theorem dX11_chance_11 : decode cX11_chance 11 = .ok (.aload_n 0, 1) := by decide +kernel
theorem dX11_chance_12 : decode cX11_chance 12 = .ok (.iload_n 3, 1) := by decide +kernel
theorem dX11_chance_13 : decode cX11_chance 13 = .ok (.invokevirtual 164, 3) := by decide +kernel
theorem dX11_chance_16 : decode cX11_chance 16 = .ok (.ifCond .eq 12, 3) := by decide +kernel
theorem dX11_chance_19 : decode cX11_chance 19 = .ok (.iload 4, 2) := by decide +kernel
theorem dX11_chance_21 : decode cX11_chance 21 = .ok (.iconst 2, 1) := by decide +kernel
theorem dX11_chance_22 : decode cX11_chance 22 = .ok (.invokestatic 97, 3) := by decide +kernel
theorem dX11_chance_25 : decode cX11_chance 25 = .ok (.ifCond .ne 7, 3) := by decide +kernel
theorem dX11_chance_28 : decode cX11_chance 28 = .ok (.ldc2_w 234, 3) := by decide +kernel
theorem dX11_chance_31 : decode cX11_chance 31 = .ok (.lreturn, 1) := by decide +kernel
theorem dX11_chance_32 : decode cX11_chance 32 = .ok (.aload_n 0, 1) := by decide +kernel
theorem dX11_chance_33 : decode cX11_chance 33 = .ok (.getfield 10, 3) := by decide +kernel
theorem dX11_chance_36 : decode cX11_chance 36 = .ok (.getfield 105, 3) := by decide +kernel
theorem dX11_chance_39 : decode cX11_chance 39 = .ok (.istore 5, 2) := by decide +kernel
theorem dX11_chance_41 : decode cX11_chance 41 = .ok (.iconst 0, 1) := by decide +kernel
theorem dX11_chance_42 : decode cX11_chance 42 = .ok (.istore 6, 2) := by decide +kernel
theorem dX11_chance_44 : decode cX11_chance 44 = .ok (.iconst 0, 1) := by decide +kernel
theorem dX11_chance_45 : decode cX11_chance 45 = .ok (.istore 7, 2) := by decide +kernel
theorem dX11_chance_47 : decode cX11_chance 47 = .ok (.iload 7, 2) := by decide +kernel
theorem dX11_chance_49 : decode cX11_chance 49 = .ok (.iload_n 2, 1) := by decide +kernel
theorem dX11_chance_50 : decode cX11_chance 50 = .ok (.if_icmp .ge 46, 3) := by decide +kernel
theorem dX11_chance_53 : decode cX11_chance 53 = .ok (.aload_n 0, 1) := by decide +kernel
theorem dX11_chance_54 : decode cX11_chance 54 = .ok (.getfield 10, 3) := by decide +kernel
theorem dX11_chance_57 : decode cX11_chance 57 = .ok (.iload_n 1, 1) := by decide +kernel
theorem dX11_chance_58 : decode cX11_chance 58 = .ok (.iload 7, 2) := by decide +kernel
theorem dX11_chance_60 : decode cX11_chance 60 = .ok (.iadd, 1) := by decide +kernel
theorem dX11_chance_61 : decode cX11_chance 61 = .ok (.invokestatic 231, 3) := by decide +kernel
theorem dX11_chance_64 : decode cX11_chance 64 = .ok (.putfield 105, 3) := by decide +kernel
theorem dX11_chance_67 : decode cX11_chance 67 = .ok (.aload_n 0, 1) := by decide +kernel
theorem dX11_chance_68 : decode cX11_chance 68 = .ok (.getfield 86, 3) := by decide +kernel
theorem dX11_chance_71 : decode cX11_chance 71 = .ok (.invokevirtual 175, 3) := by decide +kernel
theorem dX11_chance_74 : decode cX11_chance 74 = .ok (.aload_n 0, 1) := by decide +kernel
theorem dX11_chance_75 : decode cX11_chance 75 = .ok (.getfield 86, 3) := by decide +kernel
theorem dX11_chance_78 : decode cX11_chance 78 = .ok (.getfield 178, 3) := by decide +kernel
theorem dX11_chance_81 : decode cX11_chance 81 = .ok (.iload_n 3, 1) := by decide +kernel
theorem dX11_chance_82 : decode cX11_chance 82 = .ok (.iaload, 1) := by decide +kernel
theorem dX11_chance_83 : decode cX11_chance 83 = .ok (.iconst (-1), 1) := by decide +kernel
theorem dX11_chance_84 : decode cX11_chance 84 = .ok (.if_icmp .eq 6, 3) := by decide +kernel
theorem dX11_chance_87 : decode cX11_chance 87 = .ok (.iinc 6 1, 3) := by decide +kernel
theorem dX11_chance_90 : decode cX11_chance 90 = .ok (.iinc 7 1, 3) := by decide +kernel
theorem dX11_chance_93 : decode cX11_chance 93 = .ok (.goto (-46), 3) := by decide +kernel
theorem dX11_chance_96 : decode cX11_chance 96 = .ok (.aload_n 0, 1) := by decide +kernel
theorem dX11_chance_97 : decode cX11_chance 97 = .ok (.getfield 10, 3) := by decide +kernel
theorem dX11_chance_100 : decode cX11_chance 100 = .ok (.iload 5, 2) := by decide +kernel
theorem dX11_chance_102 : decode cX11_chance 102 = .ok (.putfield 105, 3) := by decide +kernel
theorem dX11_chance_105 : decode cX11_chance 105 = .ok (.iload 6, 2) := by decide +kernel
theorem dX11_chance_107 : decode cX11_chance 107 = .ok (.iload_n 2, 1) := by decide +kernel
theorem dX11_chance_108 : decode cX11_chance 108 = .ok (.invokestatic 236, 3) := by decide +kernel
theorem dX11_chance_111 : decode cX11_chance 111 = .ok (.istore 7, 2) := by decide +kernel
theorem dX11_chance_113 : decode cX11_chance 113 = .ok (.iload 4, 2) := by decide +kernel
theorem dX11_chance_115 : decode cX11_chance 115 = .ok (.ifCond .ne 12, 3) := by decide +kernel
theorem dX11_chance_118 : decode cX11_chance 118 = .ok (.iload 6, 2) := by decide +kernel
theorem dX11_chance_120 : decode cX11_chance 120 = .ok (.iload 7, 2) := by decide +kernel
theorem dX11_chance_122 : decode cX11_chance 122 = .ok (.idiv, 1) := by decide +kernel
theorem dX11_chance_123 : decode cX11_chance 123 = .ok (.i2l, 1) := by decide +kernel
theorem dX11_chance_124 : decode cX11_chance 124 = .ok (.goto 8, 3) := by decide +kernel
theorem dX11_chance_127 : decode cX11_chance 127 = .ok (.iload_n 2, 1) := by decide +kernel
theorem dX11_chance_128 : decode cX11_chance 128 = .ok (.iload 7, 2) := by decide +kernel
theorem dX11_chance_130 : decode cX11_chance 130 = .ok (.idiv, 1) := by decide +kernel
theorem dX11_chance_131 : decode cX11_chance 131 = .ok (.i2l, 1) := by decide +kernel
theorem dX11_chance_132 : decode cX11_chance 132 = .ok (.lreturn, 1) := by decide +kernel
theorem dX11_image_0 : decode cX11_image 0 = .ok (.aload_n 0, 1) := by decide +kernel
theorem dX11_image_1 : decode cX11_image 1 = .ok (.getfield 16, 3) := by decide +kernel
theorem dX11_image_4 : decode cX11_image 4 = .ok (.aload_n 0, 1) := by decide +kernel
theorem dX11_image_5 : decode cX11_image 5 = .ok (.getfield 10, 3) := by decide +kernel
theorem dX11_image_8 : decode cX11_image 8 = .ok (.invokevirtual 239, 3) := by decide +kernel
theorem dX11_image_11 : decode cX11_image 11 = .ok (.aload_n 0, 1) := by decide +kernel
theorem dX11_image_12 : decode cX11_image 12 = .ok (.iconst 1, 1) := by decide +kernel
theorem dX11_image_13 : decode cX11_image 13 = .ok (.putfield 243, 3) := by decide +kernel
theorem dX11_image_16 : decode cX11_image 16 = .ok (.aload_n 0, 1) := by decide +kernel
theorem dX11_image_17 : decode cX11_image 17 = .ok (.getfield 10, 3) := by decide +kernel
theorem dX11_image_20 : decode cX11_image 20 = .ok (.getfield 125, 3) := by decide +kernel
theorem dX11_image_23 : decode cX11_image 23 = .ok (.ireturn, 1) := by decide +kernel
theorem dX11_back_0 : decode cX11_back 0 = .ok (.aload_n 0, 1) := by decide +kernel
theorem dX11_back_1 : decode cX11_back 1 = .ok (.getfield 243, 3) := by decide +kernel
theorem dX11_back_4 : decode cX11_back 4 = .ok (.ifCond .ne 6, 3) := by decide +kernel
theorem dX11_back_7 : decode cX11_back 7 = .ok (.bipush (-3), 2) := by decide +kernel
theorem dX11_back_9 : decode cX11_back 9 = .ok (.ireturn, 1) := by decide +kernel
theorem dX11_back_10 : decode cX11_back 10 = .ok (.aload_n 0, 1) := by decide +kernel
theorem dX11_back_11 : decode cX11_back 11 = .ok (.getfield 10, 3) := by decide +kernel
theorem dX11_back_14 : decode cX11_back 14 = .ok (.aload_n 0, 1) := by decide +kernel
theorem dX11_back_15 : decode cX11_back 15 = .ok (.getfield 16, 3) := by decide +kernel
theorem dX11_back_18 : decode cX11_back 18 = .ok (.invokevirtual 239, 3) := by decide +kernel
theorem dX11_back_21 : decode cX11_back 21 = .ok (.aload_n 0, 1) := by decide +kernel
theorem dX11_back_22 : decode cX11_back 22 = .ok (.getfield 10, 3) := by decide +kernel
theorem dX11_back_25 : decode cX11_back 25 = .ok (.getfield 125, 3) := by decide +kernel
theorem dX11_back_28 : decode cX11_back 28 = .ok (.ireturn, 1) := by decide +kernel
theorem dX11_count_0 : decode cX11_count 0 = .ok (.iload_n 1, 1) := by decide +kernel
theorem dX11_count_1 : decode cX11_count 1 = .ok (.tableswitch 96 0 6 #[43, 51, 59, 67, 75, 80, 88], 43) := by decide +kernel
theorem dX11_count_44 : decode cX11_count 44 = .ok (.aload_n 0, 1) := by decide +kernel
theorem dX11_count_45 : decode cX11_count 45 = .ok (.getfield 10, 3) := by decide +kernel
theorem dX11_count_48 : decode cX11_count 48 = .ok (.getfield 125, 3) := by decide +kernel
theorem dX11_count_51 : decode cX11_count 51 = .ok (.ireturn, 1) := by decide +kernel
theorem dX11_count_52 : decode cX11_count 52 = .ok (.aload_n 0, 1) := by decide +kernel
theorem dX11_count_53 : decode cX11_count 53 = .ok (.getfield 10, 3) := by decide +kernel
theorem dX11_count_56 : decode cX11_count 56 = .ok (.getfield 111, 3) := by decide +kernel
theorem dX11_count_59 : decode cX11_count 59 = .ok (.ireturn, 1) := by decide +kernel
theorem dX11_count_60 : decode cX11_count 60 = .ok (.aload_n 0, 1) := by decide +kernel
theorem dX11_count_61 : decode cX11_count 61 = .ok (.getfield 10, 3) := by decide +kernel
theorem dX11_count_64 : decode cX11_count 64 = .ok (.invokevirtual 247, 3) := by decide +kernel
theorem dX11_count_67 : decode cX11_count 67 = .ok (.ireturn, 1) := by decide +kernel
theorem dX11_count_68 : decode cX11_count 68 = .ok (.aload_n 0, 1) := by decide +kernel
theorem dX11_count_69 : decode cX11_count 69 = .ok (.getfield 10, 3) := by decide +kernel
theorem dX11_count_72 : decode cX11_count 72 = .ok (.getfield 105, 3) := by decide +kernel
theorem dX11_count_75 : decode cX11_count 75 = .ok (.ireturn, 1) := by decide +kernel
theorem dX11_count_76 : decode cX11_count 76 = .ok (.aload_n 0, 1) := by decide +kernel
theorem dX11_count_77 : decode cX11_count 77 = .ok (.getfield 78, 3) := by decide +kernel
theorem dX11_count_80 : decode cX11_count 80 = .ok (.ireturn, 1) := by decide +kernel
theorem dX11_count_81 : decode cX11_count 81 = .ok (.aload_n 0, 1) := by decide +kernel
theorem dX11_count_82 : decode cX11_count 82 = .ok (.getfield 44, 3) := by decide +kernel
theorem dX11_count_85 : decode cX11_count 85 = .ok (.getfield 74, 3) := by decide +kernel
theorem dX11_count_88 : decode cX11_count 88 = .ok (.ireturn, 1) := by decide +kernel
theorem dX11_count_89 : decode cX11_count 89 = .ok (.aload_n 0, 1) := by decide +kernel
theorem dX11_count_90 : decode cX11_count 90 = .ok (.getfield 10, 3) := by decide +kernel
theorem dX11_count_93 : decode cX11_count 93 = .ok (.getfield 161, 3) := by decide +kernel
theorem dX11_count_96 : decode cX11_count 96 = .ok (.ireturn, 1) := by decide +kernel
theorem dX11_count_97 : decode cX11_count 97 = .ok (.bipush (-2), 2) := by decide +kernel
theorem dX11_count_99 : decode cX11_count 99 = .ok (.ireturn, 1) := by decide +kernel
theorem dX11_sheet_0 : decode cX11_sheet 0 = .ok (.iload_n 1, 1) := by decide +kernel
theorem dX11_sheet_1 : decode cX11_sheet 1 = .ok (.invokestatic 214, 3) := by decide +kernel
theorem dX11_sheet_4 : decode cX11_sheet 4 = .ok (.ifCond .eq 13, 3) := by decide +kernel
theorem dX11_sheet_7 : decode cX11_sheet 7 = .ok (.iload_n 2, 1) := by decide +kernel
theorem dX11_sheet_8 : decode cX11_sheet 8 = .ok (.iconst (-1), 1) := by decide +kernel
theorem dX11_sheet_9 : decode cX11_sheet 9 = .ok (.if_icmp .lt 8, 3) := by decide +kernel
theorem dX11_sheet_12 : decode cX11_sheet 12 = .ok (.iload_n 2, 1) := by decide +kernel
theorem dX11_sheet_13 : decode cX11_sheet 13 = .ok (.iconst 2, 1) := by decide +kernel
theorem dX11_sheet_14 : decode cX11_sheet 14 = .ok (.if_icmp .le 6, 3) := by decide +kernel
theorem dX11_sheet_17 : decode cX11_sheet 17 = .ok (.bipush (-2), 2) := by decide +kernel
theorem dX11_sheet_19 : decode cX11_sheet 19 = .ok (.ireturn, 1) := by decide +kernel
theorem dX11_sheet_20 : decode cX11_sheet 20 = .ok (.iload_n 2, 1) := by decide +kernel
theorem dX11_sheet_21 : decode cX11_sheet 21 = .ok (.iconst (-1), 1) := by decide +kernel
theorem dX11_sheet_22 : decode cX11_sheet 22 = .ok (.if_icmp .eq 12, 3) := by decide +kernel
theorem dX11_sheet_25 : decode cX11_sheet 25 = .ok (.iload_n 3, 1) := by decide +kernel
theorem dX11_sheet_26 : decode cX11_sheet 26 = .ok (.bipush 40, 2) := by decide +kernel
theorem dX11_sheet_28 : decode cX11_sheet 28 = .ok (.if_icmp .le 6, 3) := by decide +kernel
theorem dX11_sheet_31 : decode cX11_sheet 31 = .ok (.bipush (-2), 2) := by decide +kernel
theorem dX11_sheet_33 : decode cX11_sheet 33 = .ok (.ireturn, 1) := by decide +kernel
theorem dX11_sheet_34 : decode cX11_sheet 34 = .ok (.iload_n 2, 1) := by decide +kernel
theorem dX11_sheet_35 : decode cX11_sheet 35 = .ok (.iconst (-1), 1) := by decide +kernel
theorem dX11_sheet_36 : decode cX11_sheet 36 = .ok (.if_icmp .eq 10, 3) := by decide +kernel
theorem dX11_sheet_39 : decode cX11_sheet 39 = .ok (.iload_n 3, 1) := by decide +kernel
theorem dX11_sheet_40 : decode cX11_sheet 40 = .ok (.ifCond .ge 6, 3) := by decide +kernel
theorem dX11_sheet_43 : decode cX11_sheet 43 = .ok (.bipush (-14), 2) := by decide +kernel
theorem dX11_sheet_45 : decode cX11_sheet 45 = .ok (.ireturn, 1) := by decide +kernel
theorem dX11_sheet_46 : decode cX11_sheet 46 = .ok (.aload_n 0, 1) := by decide +kernel
theorem dX11_sheet_47 : decode cX11_sheet 47 = .ok (.getfield 92, 3) := by decide +kernel
theorem dX11_sheet_50 : decode cX11_sheet 50 = .ok (.iload_n 1, 1) := by decide +kernel
theorem dX11_sheet_51 : decode cX11_sheet 51 = .ok (.aaload, 1) := by decide +kernel
theorem dX11_sheet_52 : decode cX11_sheet 52 = .ok (.iload_n 2, 1) := by decide +kernel
theorem dX11_sheet_53 : decode cX11_sheet 53 = .ok (.iload_n 2, 1) := by decide +kernel
theorem dX11_sheet_54 : decode cX11_sheet 54 = .ok (.iconst (-1), 1) := by decide +kernel
theorem dX11_sheet_55 : decode cX11_sheet 55 = .ok (.if_icmp .ne 7, 3) := by decide +kernel
theorem dX11_sheet_58 : decode cX11_sheet 58 = .ok (.iconst 0, 1) := by decide +kernel
theorem dX11_sheet_59 : decode cX11_sheet 59 = .ok (.goto 4, 3) := by decide +kernel
theorem dX11_sheet_62 : decode cX11_sheet 62 = .ok (.iload_n 3, 1) := by decide +kernel
theorem dX11_sheet_63 : decode cX11_sheet 63 = .ok (.invokevirtual 250, 3) := by decide +kernel
theorem dX11_sheet_66 : decode cX11_sheet 66 = .ok (.iconst 1, 1) := by decide +kernel
theorem dX11_sheet_67 : decode cX11_sheet 67 = .ok (.ireturn, 1) := by decide +kernel
theorem dX11_cell_0 : decode cX11_cell 0 = .ok (.iload_n 1, 1) := by decide +kernel
theorem dX11_cell_1 : decode cX11_cell 1 = .ok (.invokestatic 214, 3) := by decide +kernel
theorem dX11_cell_4 : decode cX11_cell 4 = .ok (.ifCond .ne 6, 3) := by decide +kernel
theorem dX11_cell_7 : decode cX11_cell 7 = .ok (.bipush (-2), 2) := by decide +kernel
theorem dX11_cell_9 : decode cX11_cell 9 = .ok (.ireturn, 1) := by decide +kernel
theorem dX11_cell_10 : decode cX11_cell 10 = .ok (.aload_n 0, 1) := by decide +kernel
theorem dX11_cell_11 : decode cX11_cell 11 = .ok (.getfield 92, 3) := by decide +kernel
theorem dX11_cell_14 : decode cX11_cell 14 = .ok (.iload_n 1, 1) := by decide +kernel
theorem dX11_cell_15 : decode cX11_cell 15 = .ok (.aaload, 1) := by decide +kernel
theorem dX11_cell_16 : decode cX11_cell 16 = .ok (.astore 4, 2) := by decide +kernel
theorem dX11_cell_18 : decode cX11_cell 18 = .ok (.aload 4, 2) := by decide +kernel
theorem dX11_cell_20 : decode cX11_cell 20 = .ok (.getfield 252, 3) := by decide +kernel
theorem dX11_cell_23 : decode cX11_cell 23 = .ok (.iconst (-1), 1) := by decide +kernel
theorem dX11_cell_24 : decode cX11_cell 24 = .ok (.if_icmp .ne 6, 3) := by decide +kernel
theorem dX11_cell_27 : decode cX11_cell 27 = .ok (.bipush (-11), 2) := by decide +kernel
theorem dX11_cell_29 : decode cX11_cell 29 = .ok (.ireturn, 1) := by decide +kernel
theorem dX11_cell_30 : decode cX11_cell 30 = .ok (.iload_n 2, 1) := by decide +kernel
theorem dX11_cell_31 : decode cX11_cell 31 = .ok (.aload 4, 2) := by decide +kernel
theorem dX11_cell_33 : decode cX11_cell 33 = .ok (.getfield 255, 3) := by decide +kernel
theorem dX11_cell_36 : decode cX11_cell 36 = .ok (.invokestatic 97, 3) := by decide +kernel
theorem dX11_cell_39 : decode cX11_cell 39 = .ok (.ifCond .ne 6, 3) := by decide +kernel
theorem dX11_cell_42 : decode cX11_cell 42 = .ok (.bipush (-12), 2) := by decide +kernel
theorem dX11_cell_44 : decode cX11_cell 44 = .ok (.ireturn, 1) := by decide +kernel
theorem dX11_cell_45 : decode cX11_cell 45 = .ok (.aload 4, 2) := by decide +kernel
theorem dX11_cell_47 : decode cX11_cell 47 = .ok (.iload_n 2, 1) := by decide +kernel
theorem dX11_cell_48 : decode cX11_cell 48 = .ok (.iload_n 3, 1) := by decide +kernel
theorem dX11_cell_49 : decode cX11_cell 49 = .ok (.invokevirtual 256, 3) := by decide +kernel
theorem dX11_cell_52 : decode cX11_cell 52 = .ok (.iconst 1, 1) := by decide +kernel
theorem dX11_cell_53 : decode cX11_cell 53 = .ok (.ireturn, 1) := by decide +kernel
theorem dX11_copy_0 : decode cX11_copy 0 = .ok (.iload_n 1, 1) := by decide +kernel
theorem dX11_copy_1 : decode cX11_copy 1 = .ok (.invokestatic 214, 3) := by decide +kernel
theorem dX11_copy_4 : decode cX11_copy 4 = .ok (.ifCond .eq 10, 3) := by decide +kernel
theorem dX11_copy_7 : decode cX11_copy 7 = .ok (.iload_n 3, 1) := by decide +kernel
theorem dX11_copy_8 : decode cX11_copy 8 = .ok (.invokestatic 214, 3) := by decide +kernel
theorem dX11_copy_11 : decode cX11_copy 11 = .ok (.ifCond .ne 6, 3) := by decide +kernel
theorem dX11_copy_14 : decode cX11_copy 14 = .ok (.bipush (-2), 2) := by decide +kernel
theorem dX11_copy_16 : decode cX11_copy 16 = .ok (.ireturn, 1) := by decide +kernel
theorem dX11_copy_17 : decode cX11_copy 17 = .ok (.aload_n 0, 1) := by decide +kernel
theorem dX11_copy_18 : decode cX11_copy 18 = .ok (.getfield 92, 3) := by decide +kernel
theorem dX11_copy_21 : decode cX11_copy 21 = .ok (.iload_n 1, 1) := by decide +kernel
theorem dX11_copy_22 : decode cX11_copy 22 = .ok (.aaload, 1) := by decide +kernel
theorem dX11_copy_23 : decode cX11_copy 23 = .ok (.astore 6, 2) := by decide +kernel
theorem dX11_copy_25 : decode cX11_copy 25 = .ok (.aload_n 0, 1) := by decide +kernel
theorem dX11_copy_26 : decode cX11_copy 26 = .ok (.getfield 92, 3) := by decide +kernel
theorem dX11_copy_29 : decode cX11_copy 29 = .ok (.iload_n 3, 1) := by decide +kernel
theorem dX11_copy_30 : decode cX11_copy 30 = .ok (.aaload, 1) := by decide +kernel
theorem dX11_copy_31 : decode cX11_copy 31 = .ok (.astore 7, 2) := by decide +kernel
theorem dX11_copy_33 : decode cX11_copy 33 = .ok (.aload 6, 2) := by decide +kernel
theorem dX11_copy_35 : decode cX11_copy 35 = .ok (.getfield 252, 3) := by decide +kernel
theorem dX11_copy_38 : decode cX11_copy 38 = .ok (.iconst (-1), 1) := by decide +kernel
theorem dX11_copy_39 : decode cX11_copy 39 = .ok (.if_icmp .eq 12, 3) := by decide +kernel
theorem dX11_copy_42 : decode cX11_copy 42 = .ok (.aload 7, 2) := by decide +kernel
theorem dX11_copy_44 : decode cX11_copy 44 = .ok (.getfield 252, 3) := by decide +kernel
theorem dX11_copy_47 : decode cX11_copy 47 = .ok (.iconst (-1), 1) := by decide +kernel
theorem dX11_copy_48 : decode cX11_copy 48 = .ok (.if_icmp .ne 6, 3) := by decide +kernel
theorem dX11_copy_51 : decode cX11_copy 51 = .ok (.bipush (-11), 2) := by decide +kernel
theorem dX11_copy_53 : decode cX11_copy 53 = .ok (.ireturn, 1) := by decide +kernel
theorem dX11_copy_54 : decode cX11_copy 54 = .ok (.aload 6, 2) := by decide +kernel
theorem dX11_copy_56 : decode cX11_copy 56 = .ok (.getfield 252, 3) := by decide +kernel
theorem dX11_copy_59 : decode cX11_copy 59 = .ok (.aload 7, 2) := by decide +kernel
theorem dX11_copy_61 : decode cX11_copy 61 = .ok (.getfield 252, 3) := by decide +kernel
theorem dX11_copy_64 : decode cX11_copy 64 = .ok (.if_icmp .eq 6, 3) := by decide +kernel
theorem dX11_copy_67 : decode cX11_copy 67 = .ok (.bipush (-13), 2) := by decide +kernel
theorem dX11_copy_69 : decode cX11_copy 69 = .ok (.ireturn, 1) := by decide +kernel
theorem dX11_copy_70 : decode cX11_copy 70 = .ok (.aload 6, 2) := by decide +kernel
theorem dX11_copy_72 : decode cX11_copy 72 = .ok (.iload_n 2, 1) := by decide +kernel
theorem dX11_copy_73 : decode cX11_copy 73 = .ok (.iload 5, 2) := by decide +kernel
theorem dX11_copy_75 : decode cX11_copy 75 = .ok (.invokevirtual 258, 3) := by decide +kernel
theorem dX11_copy_78 : decode cX11_copy 78 = .ok (.ifCond .eq 15, 3) := by decide +kernel
theorem dX11_copy_81 : decode cX11_copy 81 = .ok (.aload 7, 2) := by decide +kernel
theorem dX11_copy_83 : decode cX11_copy 83 = .ok (.iload 4, 2) := by decide +kernel
theorem dX11_copy_85 : decode cX11_copy 85 = .ok (.iload 5, 2) := by decide +kernel
theorem dX11_copy_87 : decode cX11_copy 87 = .ok (.invokevirtual 258, 3) := by decide +kernel
theorem dX11_copy_90 : decode cX11_copy 90 = .ok (.ifCond .ne 6, 3) := by decide +kernel
theorem dX11_copy_93 : decode cX11_copy 93 = .ok (.bipush (-12), 2) := by decide +kernel
theorem dX11_copy_95 : decode cX11_copy 95 = .ok (.ireturn, 1) := by decide +kernel
theorem dX11_copy_96 : decode cX11_copy 96 = .ok (.aload 6, 2) := by decide +kernel
theorem dX11_copy_98 : decode cX11_copy 98 = .ok (.getfield 261, 3) := by decide +kernel
theorem dX11_copy_101 : decode cX11_copy 101 = .ok (.iload_n 2, 1) := by decide +kernel
theorem dX11_copy_102 : decode cX11_copy 102 = .ok (.aload 7, 2) := by decide +kernel
theorem dX11_copy_104 : decode cX11_copy 104 = .ok (.getfield 261, 3) := by decide +kernel
theorem dX11_copy_107 : decode cX11_copy 107 = .ok (.iload 4, 2) := by decide +kernel
theorem dX11_copy_109 : decode cX11_copy 109 = .ok (.iload 5, 2) := by decide +kernel
theorem dX11_copy_111 : decode cX11_copy 111 = .ok (.invokestatic 264, 3) := by decide +kernel
theorem dX11_copy_114 : decode cX11_copy 114 = .ok (.iload 5, 2) := by decide +kernel
theorem dX11_copy_116 : decode cX11_copy 116 = .ok (.ireturn, 1) := by decide +kernel
theorem dX11_heights_0 : decode cX11_heights 0 = .ok (.iload_n 1, 1) := by decide +kernel
theorem dX11_heights_1 : decode cX11_heights 1 = .ok (.invokestatic 214, 3) := by decide +kernel
theorem dX11_heights_4 : decode cX11_heights 4 = .ok (.ifCond .eq 21, 3) := by decide +kernel
theorem dX11_heights_7 : decode cX11_heights 7 = .ok (.iload_n 2, 1) := by decide +kernel
theorem dX11_heights_8 : decode cX11_heights 8 = .ok (.iconst 3, 1) := by decide +kernel
theorem dX11_heights_9 : decode cX11_heights 9 = .ok (.invokestatic 97, 3) := by decide +kernel
theorem dX11_heights_12 : decode cX11_heights 12 = .ok (.ifCond .eq 13, 3) := by decide +kernel
theorem dX11_heights_15 : decode cX11_heights 15 = .ok (.iload 4, 2) := by decide +kernel
theorem dX11_heights_17 : decode cX11_heights 17 = .ok (.bipush 21, 2) := by decide +kernel
theorem dX11_heights_19 : decode cX11_heights 19 = .ok (.invokestatic 97, 3) := by decide +kernel
theorem dX11_heights_22 : decode cX11_heights 22 = .ok (.ifCond .ne 6, 3) := by decide +kernel
theorem dX11_heights_25 : decode cX11_heights 25 = .ok (.bipush (-2), 2) := by decide +kernel
theorem dX11_heights_27 : decode cX11_heights 27 = .ok (.ireturn, 1) := by decide +kernel
theorem dX11_heights_28 : decode cX11_heights 28 = .ok (.aload_n 0, 1) := by decide +kernel
theorem dX11_heights_29 : decode cX11_heights 29 = .ok (.getfield 92, 3) := by decide +kernel
theorem dX11_heights_32 : decode cX11_heights 32 = .ok (.iload_n 1, 1) := by decide +kernel
theorem dX11_heights_33 : decode cX11_heights 33 = .ok (.aaload, 1) := by decide +kernel
theorem dX11_heights_34 : decode cX11_heights 34 = .ok (.astore 5, 2) := by decide +kernel
theorem dX11_heights_36 : decode cX11_heights 36 = .ok (.aload 5, 2) := by decide +kernel
theorem dX11_heights_38 : decode cX11_heights 38 = .ok (.getfield 252, 3) := by decide +kernel
theorem dX11_heights_41 : decode cX11_heights 41 = .ok (.iconst (-1), 1) := by decide +kernel
theorem dX11_heights_42 : decode cX11_heights 42 = .ok (.if_icmp .eq 15, 3) := by decide +kernel
theorem dX11_heights_45 : decode cX11_heights 45 = .ok (.aload 5, 2) := by decide +kernel
theorem dX11_heights_47 : decode cX11_heights 47 = .ok (.getfield 252, 3) := by decide +kernel
theorem dX11_heights_50 : decode cX11_heights 50 = .ok (.iload_n 2, 1) := by decide +kernel
theorem dX11_heights_51 : decode cX11_heights 51 = .ok (.if_icmp .eq 6, 3) := by decide +kernel
theorem dX11_heights_54 : decode cX11_heights 54 = .ok (.bipush (-13), 2) := by decide +kernel
theorem dX11_heights_56 : decode cX11_heights 56 = .ok (.ireturn, 1) := by decide +kernel
theorem dX11_heights_57 : decode cX11_heights 57 = .ok (.aload 5, 2) := by decide +kernel
theorem dX11_heights_59 : decode cX11_heights 59 = .ok (.getfield 252, 3) := by decide +kernel
theorem dX11_heights_62 : decode cX11_heights 62 = .ok (.iconst (-1), 1) := by decide +kernel
theorem dX11_heights_63 : decode cX11_heights 63 = .ok (.if_icmp .ne 6, 3) := by decide +kernel
theorem dX11_heights_66 : decode cX11_heights 66 = .ok (.bipush (-11), 2) := by decide +kernel
theorem dX11_heights_68 : decode cX11_heights 68 = .ok (.ireturn, 1) := by decide +kernel
theorem dX11_heights_69 : decode cX11_heights 69 = .ok (.iconst 0, 1) := by decide +kernel
theorem dX11_heights_70 : decode cX11_heights 70 = .ok (.istore 6, 2) := by decide +kernel
theorem dX11_heights_72 : decode cX11_heights 72 = .ok (.iconst 0, 1) := by decide +kernel
theorem dX11_heights_73 : decode cX11_heights 73 = .ok (.istore 7, 2) := by decide +kernel
theorem dX11_heights_75 : decode cX11_heights 75 = .ok (.iload 7, 2) := by decide +kernel
theorem dX11_heights_77 : decode cX11_heights 77 = .ok (.iload 4, 2) := by decide +kernel
theorem dX11_heights_79 : decode cX11_heights 79 = .ok (.if_icmp .ge 94, 3) := by decide +kernel
theorem dX11_heights_82 : decode cX11_heights 82 = .ok (.iload_n 3, 1) := by decide +kernel
theorem dX11_heights_83 : decode cX11_heights 83 = .ok (.iconst 2, 1) := by decide +kernel
theorem dX11_heights_84 : decode cX11_heights 84 = .ok (.iload 7, 2) := by decide +kernel
theorem dX11_heights_86 : decode cX11_heights 86 = .ok (.imul, 1) := by decide +kernel
theorem dX11_heights_87 : decode cX11_heights 87 = .ok (.iadd, 1) := by decide +kernel
theorem dX11_heights_88 : decode cX11_heights 88 = .ok (.istore 8, 2) := by decide +kernel
theorem dX11_heights_90 : decode cX11_heights 90 = .ok (.aload 5, 2) := by decide +kernel
theorem dX11_heights_92 : decode cX11_heights 92 = .ok (.iload 8, 2) := by decide +kernel
theorem dX11_heights_94 : decode cX11_heights 94 = .ok (.iconst 2, 1) := by decide +kernel
theorem dX11_heights_95 : decode cX11_heights 95 = .ok (.invokevirtual 258, 3) := by decide +kernel
theorem dX11_heights_98 : decode cX11_heights 98 = .ok (.ifCond .ne 6, 3) := by decide +kernel
theorem dX11_heights_101 : decode cX11_heights 101 = .ok (.bipush (-12), 2) := by decide +kernel
theorem dX11_heights_103 : decode cX11_heights 103 = .ok (.ireturn, 1) := by decide +kernel
theorem dX11_heights_104 : decode cX11_heights 104 = .ok (.aload 5, 2) := by decide +kernel
theorem dX11_heights_106 : decode cX11_heights 106 = .ok (.getfield 261, 3) := by decide +kernel
theorem dX11_heights_109 : decode cX11_heights 109 = .ok (.iload 8, 2) := by decide +kernel
theorem dX11_heights_111 : decode cX11_heights 111 = .ok (.iaload, 1) := by decide +kernel
theorem dX11_heights_112 : decode cX11_heights 112 = .ok (.bipush 36, 2) := by decide +kernel
theorem dX11_heights_114 : decode cX11_heights 114 = .ok (.invokestatic 97, 3) := by decide +kernel
theorem dX11_heights_117 : decode cX11_heights 117 = .ok (.ifCond .eq 50, 3) := by decide +kernel
theorem dX11_heights_120 : decode cX11_heights 120 = .ok (.aload 5, 2) := by decide +kernel
theorem dX11_heights_122 : decode cX11_heights 122 = .ok (.getfield 261, 3) := by decide +kernel
theorem dX11_heights_125 : decode cX11_heights 125 = .ok (.iload 8, 2) := by decide +kernel
theorem dX11_heights_127 : decode cX11_heights 127 = .ok (.iconst 1, 1) := by decide +kernel
theorem dX11_heights_128 : decode cX11_heights 128 = .ok (.iadd, 1) := by decide +kernel
theorem dX11_heights_129 : decode cX11_heights 129 = .ok (.iaload, 1) := by decide +kernel
theorem dX11_heights_130 : decode cX11_heights 130 = .ok (.bipush 10, 2) := by decide +kernel
theorem dX11_heights_132 : decode cX11_heights 132 = .ok (.invokestatic 97, 3) := by decide +kernel
theorem dX11_heights_135 : decode cX11_heights 135 = .ok (.ifCond .eq 32, 3) := by decide +kernel
theorem dX11_heights_138 : decode cX11_heights 138 = .ok (.aload_n 0, 1) := by decide +kernel
theorem dX11_heights_139 : decode cX11_heights 139 = .ok (.getfield 10, 3) := by decide +kernel
theorem dX11_heights_142 : decode cX11_heights 142 = .ok (.getfield 101, 3) := by decide +kernel
theorem dX11_heights_145 : decode cX11_heights 145 = .ok (.aload 5, 2) := by decide +kernel
theorem dX11_heights_147 : decode cX11_heights 147 = .ok (.getfield 261, 3) := by decide +kernel
theorem dX11_heights_150 : decode cX11_heights 150 = .ok (.iload 8, 2) := by decide +kernel
theorem dX11_heights_152 : decode cX11_heights 152 = .ok (.iaload, 1) := by decide +kernel
theorem dX11_heights_153 : decode cX11_heights 153 = .ok (.aload 5, 2) := by decide +kernel
theorem dX11_heights_155 : decode cX11_heights 155 = .ok (.getfield 261, 3) := by decide +kernel
theorem dX11_heights_158 : decode cX11_heights 158 = .ok (.iload 8, 2) := by decide +kernel
theorem dX11_heights_160 : decode cX11_heights 160 = .ok (.iconst 1, 1) := by decide +kernel
theorem dX11_heights_161 : decode cX11_heights 161 = .ok (.iadd, 1) := by decide +kernel
theorem dX11_heights_162 : decode cX11_heights 162 = .ok (.iaload, 1) := by decide +kernel
theorem dX11_heights_163 : decode cX11_heights 163 = .ok (.iastore, 1) := by decide +kernel
theorem dX11_heights_164 : decode cX11_heights 164 = .ok (.iinc 6 1, 3) := by decide +kernel
theorem dX11_heights_167 : decode cX11_heights 167 = .ok (.iinc 7 1, 3) := by decide +kernel
theorem dX11_heights_170 : decode cX11_heights 170 = .ok (.goto (-95), 3) := by decide +kernel
theorem dX11_heights_173 : decode cX11_heights 173 = .ok (.iload 6, 2) := by decide +kernel
theorem dX11_heights_175 : decode cX11_heights 175 = .ok (.ireturn, 1) := by decide +kernel
theorem dX11_taken_0 : decode cX11_taken 0 = .ok (.iload_n 2, 1) := by decide +kernel
theorem dX11_taken_1 : decode cX11_taken 1 = .ok (.bipush 6, 2) := by decide +kernel
theorem dX11_taken_3 : decode cX11_taken 3 = .ok (.invokestatic 97, 3) := by decide +kernel
theorem dX11_taken_6 : decode cX11_taken 6 = .ok (.ifCond .ne 6, 3) := by decide +kernel
theorem dX11_taken_9 : decode cX11_taken 9 = .ok (.bipush (-2), 2) := by decide +kernel
theorem dX11_taken_11 : decode cX11_taken 11 = .ok (.ireturn, 1) := by decide +kernel
theorem dX11_taken_12 : decode cX11_taken 12 = .ok (.aload_n 0, 1) := by decide +kernel
theorem dX11_taken_13 : decode cX11_taken 13 = .ok (.iload_n 1, 1) := by decide +kernel
theorem dX11_taken_14 : decode cX11_taken 14 = .ok (.invokevirtual 147, 3) := by decide +kernel
theorem dX11_taken_17 : decode cX11_taken 17 = .ok (.ifCond .ne 6, 3) := by decide +kernel
theorem dX11_taken_20 : decode cX11_taken 20 = .ok (.bipush (-11), 2) := by decide +kernel
theorem dX11_taken_22 : decode cX11_taken 22 = .ok (.ireturn, 1) := by decide +kernel
theorem dX11_taken_23 : decode cX11_taken 23 = .ok (.aload_n 0, 1) := by decide +kernel
theorem dX11_taken_24 : decode cX11_taken 24 = .ok (.iload_n 1, 1) := by decide +kernel
theorem dX11_taken_25 : decode cX11_taken 25 = .ok (.invokevirtual 150, 3) := by decide +kernel
theorem dX11_taken_28 : decode cX11_taken 28 = .ok (.iload_n 2, 1) := by decide +kernel
theorem dX11_taken_29 : decode cX11_taken 29 = .ok (.invokestatic 270, 3) := by decide +kernel
theorem dX11_taken_32 : decode cX11_taken 32 = .ok (.ifCond .eq 15, 3) := by decide +kernel
theorem dX11_taken_35 : decode cX11_taken 35 = .ok (.aload_n 0, 1) := by decide +kernel
theorem dX11_taken_36 : decode cX11_taken 36 = .ok (.getfield 10, 3) := by decide +kernel
theorem dX11_taken_39 : decode cX11_taken 39 = .ok (.getfield 122, 3) := by decide +kernel
theorem dX11_taken_42 : decode cX11_taken 42 = .ok (.iload_n 1, 1) := by decide +kernel
theorem dX11_taken_43 : decode cX11_taken 43 = .ok (.iaload, 1) := by decide +kernel
theorem dX11_taken_44 : decode cX11_taken 44 = .ok (.goto 5, 3) := by decide +kernel
theorem dX11_taken_47 : decode cX11_taken 47 = .ok (.bipush (-13), 2) := by decide +kernel
theorem dX11_taken_49 : decode cX11_taken 49 = .ok (.ireturn, 1) := by decide +kernel
theorem dX11_isWithin_0 : decode cX11_isWithin 0 = .ok (.iload_n 0, 1) := by decide +kernel
theorem dX11_isWithin_1 : decode cX11_isWithin 1 = .ok (.ifCond .lt 12, 3) := by decide +kernel
theorem dX11_isWithin_4 : decode cX11_isWithin 4 = .ok (.iload_n 0, 1) := by decide +kernel
theorem dX11_isWithin_5 : decode cX11_isWithin 5 = .ok (.iload_n 1, 1) := by decide +kernel
theorem dX11_isWithin_6 : decode cX11_isWithin 6 = .ok (.if_icmp .ge 7, 3) := by decide +kernel
theorem dX11_isWithin_9 : decode cX11_isWithin 9 = .ok (.iconst 1, 1) := by decide +kernel
theorem dX11_isWithin_10 : decode cX11_isWithin 10 = .ok (.goto 4, 3) := by decide +kernel
theorem dX11_isWithin_13 : decode cX11_isWithin 13 = .ok (.iconst 0, 1) := by decide +kernel
theorem dX11_isWithin_14 : decode cX11_isWithin 14 = .ok (.ireturn, 1) := by decide +kernel
theorem dX11_fits_0 : decode cX11_fits 0 = .ok (.iload_n 1, 1) := by decide +kernel
theorem dX11_fits_1 : decode cX11_fits 1 = .ok (.ifCond .lt 16, 3) := by decide +kernel
theorem dX11_fits_4 : decode cX11_fits 4 = .ok (.iload_n 1, 1) := by decide +kernel
theorem dX11_fits_5 : decode cX11_fits 5 = .ok (.getstatic 274, 3) := by decide +kernel
theorem dX11_fits_8 : decode cX11_fits 8 = .ok (.iload_n 0, 1) := by decide +kernel
theorem dX11_fits_9 : decode cX11_fits 9 = .ok (.iaload, 1) := by decide +kernel
theorem dX11_fits_10 : decode cX11_fits 10 = .ok (.if_icmp .gt 7, 3) := by decide +kernel
theorem dX11_fits_13 : decode cX11_fits 13 = .ok (.iconst 1, 1) := by decide +kernel
theorem dX11_fits_14 : decode cX11_fits 14 = .ok (.goto 4, 3) := by decide +kernel
theorem dX11_fits_17 : decode cX11_fits 17 = .ok (.iconst 0, 1) := by decide +kernel
theorem dX11_fits_18 : decode cX11_fits 18 = .ok (.ireturn, 1) := by decide +kernel
theorem dX11_isThing_0 : decode cX11_isThing 0 = .ok (.iload_n 1, 1) := by decide +kernel
theorem dX11_isThing_1 : decode cX11_isThing 1 = .ok (.aload_n 0, 1) := by decide +kernel
theorem dX11_isThing_2 : decode cX11_isThing 2 = .ok (.getfield 10, 3) := by decide +kernel
theorem dX11_isThing_5 : decode cX11_isThing 5 = .ok (.getfield 111, 3) := by decide +kernel
theorem dX11_isThing_8 : decode cX11_isThing 8 = .ok (.invokestatic 97, 3) := by decide +kernel
theorem dX11_isThing_11 : decode cX11_isThing 11 = .ok (.ireturn, 1) := by decide +kernel
theorem dX11_isSleeper_0 : decode cX11_isSleeper 0 = .ok (.iload_n 1, 1) := by decide +kernel
theorem dX11_isSleeper_1 : decode cX11_isSleeper 1 = .ok (.aload_n 0, 1) := by decide +kernel
theorem dX11_isSleeper_2 : decode cX11_isSleeper 2 = .ok (.getfield 10, 3) := by decide +kernel
theorem dX11_isSleeper_5 : decode cX11_isSleeper 5 = .ok (.getfield 125, 3) := by decide +kernel
theorem dX11_isSleeper_8 : decode cX11_isSleeper 8 = .ok (.invokestatic 97, 3) := by decide +kernel
theorem dX11_isSleeper_11 : decode cX11_isSleeper 11 = .ok (.ireturn, 1) := by decide +kernel
theorem dX11_isSheet_0 : decode cX11_isSheet 0 = .ok (.iload_n 0, 1) := by decide +kernel
theorem dX11_isSheet_1 : decode cX11_isSheet 1 = .ok (.iconst 4, 1) := by decide +kernel
theorem dX11_isSheet_2 : decode cX11_isSheet 2 = .ok (.invokestatic 97, 3) := by decide +kernel
theorem dX11_isSheet_5 : decode cX11_isSheet 5 = .ok (.ireturn, 1) := by decide +kernel
theorem dX11_kindOf_0 : decode cX11_kindOf 0 = .ok (.aload_n 0, 1) := by decide +kernel
theorem dX11_kindOf_1 : decode cX11_kindOf 1 = .ok (.getfield 37, 3) := by decide +kernel
theorem dX11_kindOf_4 : decode cX11_kindOf 4 = .ok (.aload_n 0, 1) := by decide +kernel
theorem dX11_kindOf_5 : decode cX11_kindOf 5 = .ok (.getfield 10, 3) := by decide +kernel
theorem dX11_kindOf_8 : decode cX11_kindOf 8 = .ok (.getfield 114, 3) := by decide +kernel
theorem dX11_kindOf_11 : decode cX11_kindOf 11 = .ok (.iload_n 1, 1) := by decide +kernel
theorem dX11_kindOf_12 : decode cX11_kindOf 12 = .ok (.iaload, 1) := by decide +kernel
theorem dX11_kindOf_13 : decode cX11_kindOf 13 = .ok (.aaload, 1) := by decide +kernel
theorem dX11_kindOf_14 : decode cX11_kindOf 14 = .ok (.areturn, 1) := by decide +kernel
theorem dX11_isUnder_0 : decode cX11_isUnder 0 = .ok (.iload_n 1, 1) := by decide +kernel
theorem dX11_isUnder_1 : decode cX11_isUnder 1 = .ok (.tableswitch 60 1 5 #[35, 40, 45, 50, 55], 35) := by decide +kernel
theorem dX11_isUnder_36 : decode cX11_isUnder 36 = .ok (.aload_n 0, 1) := by decide +kernel
theorem dX11_isUnder_37 : decode cX11_isUnder 37 = .ok (.instanceof 22, 3) := by decide +kernel
theorem dX11_isUnder_40 : decode cX11_isUnder 40 = .ok (.ireturn, 1) := by decide +kernel
theorem dX11_isUnder_41 : decode cX11_isUnder 41 = .ok (.aload_n 0, 1) := by decide +kernel
theorem dX11_isUnder_42 : decode cX11_isUnder 42 = .ok (.instanceof 25, 3) := by decide +kernel
theorem dX11_isUnder_45 : decode cX11_isUnder 45 = .ok (.ireturn, 1) := by decide +kernel
theorem dX11_isUnder_46 : decode cX11_isUnder 46 = .ok (.aload_n 0, 1) := by decide +kernel
theorem dX11_isUnder_47 : decode cX11_isUnder 47 = .ok (.instanceof 28, 3) := by decide +kernel
theorem dX11_isUnder_50 : decode cX11_isUnder 50 = .ok (.ireturn, 1) := by decide +kernel
theorem dX11_isUnder_51 : decode cX11_isUnder 51 = .ok (.aload_n 0, 1) := by decide +kernel
theorem dX11_isUnder_52 : decode cX11_isUnder 52 = .ok (.instanceof 31, 3) := by decide +kernel
theorem dX11_isUnder_55 : decode cX11_isUnder 55 = .ok (.ireturn, 1) := by decide +kernel
theorem dX11_isUnder_56 : decode cX11_isUnder 56 = .ok (.aload_n 0, 1) := by decide +kernel
theorem dX11_isUnder_57 : decode cX11_isUnder 57 = .ok (.instanceof 34, 3) := by decide +kernel
theorem dX11_isUnder_60 : decode cX11_isUnder 60 = .ok (.ireturn, 1) := by decide +kernel
theorem dX11_isUnder_61 : decode cX11_isUnder 61 = .ok (.iconst 1, 1) := by decide +kernel
theorem dX11_isUnder_62 : decode cX11_isUnder 62 = .ok (.ireturn, 1) := by decide +kernel
theorem dX11_fogOf_0 : decode cX11_fogOf 0 = .ok (.iload_n 0, 1) := by decide +kernel
theorem dX11_fogOf_1 : decode cX11_fogOf 1 = .ok (.ldc_w 277, 3) := by decide +kernel
theorem dX11_fogOf_4 : decode cX11_fogOf 4 = .ok (.imul, 1) := by decide +kernel
theorem dX11_fogOf_5 : decode cX11_fogOf 5 = .ok (.sipush 12345, 3) := by decide +kernel
theorem dX11_fogOf_8 : decode cX11_fogOf 8 = .ok (.iadd, 1) := by decide +kernel
theorem dX11_fogOf_9 : decode cX11_fogOf 9 = .ok (.istore_n 1, 1) := by decide +kernel
theorem dX11_fogOf_10 : decode cX11_fogOf 10 = .ok (.iload_n 1, 1) := by decide +kernel
theorem dX11_fogOf_11 : decode cX11_fogOf 11 = .ok (.bipush 10, 2) := by decide +kernel
theorem dX11_fogOf_13 : decode cX11_fogOf 13 = .ok (.iushr, 1) := by decide +kernel
theorem dX11_fogOf_14 : decode cX11_fogOf 14 = .ok (.bipush 10, 2) := by decide +kernel
theorem dX11_fogOf_16 : decode cX11_fogOf 16 = .ok (.irem, 1) := by decide +kernel
theorem dX11_fogOf_17 : decode cX11_fogOf 17 = .ok (.ireturn, 1) := by decide +kernel
theorem dX11_commonDivisor_0 : decode cX11_commonDivisor 0 = .ok (.iload_n 1, 1) := by decide +kernel
theorem dX11_commonDivisor_1 : decode cX11_commonDivisor 1 = .ok (.istore_n 2, 1) := by decide +kernel
theorem dX11_commonDivisor_2 : decode cX11_commonDivisor 2 = .ok (.iload_n 2, 1) := by decide +kernel
theorem dX11_commonDivisor_3 : decode cX11_commonDivisor 3 = .ok (.iconst 1, 1) := by decide +kernel
theorem dX11_commonDivisor_4 : decode cX11_commonDivisor 4 = .ok (.if_icmp .le 23, 3) := by decide +kernel
theorem dX11_commonDivisor_7 : decode cX11_commonDivisor 7 = .ok (.iload_n 0, 1) := by decide +kernel
theorem dX11_commonDivisor_8 : decode cX11_commonDivisor 8 = .ok (.iload_n 2, 1) := by decide +kernel
theorem dX11_commonDivisor_9 : decode cX11_commonDivisor 9 = .ok (.irem, 1) := by decide +kernel
theorem dX11_commonDivisor_10 : decode cX11_commonDivisor 10 = .ok (.ifCond .ne 11, 3) := by decide +kernel
theorem dX11_commonDivisor_13 : decode cX11_commonDivisor 13 = .ok (.iload_n 1, 1) := by decide +kernel
theorem dX11_commonDivisor_14 : decode cX11_commonDivisor 14 = .ok (.iload_n 2, 1) := by decide +kernel
theorem dX11_commonDivisor_15 : decode cX11_commonDivisor 15 = .ok (.irem, 1) := by decide +kernel
theorem dX11_commonDivisor_16 : decode cX11_commonDivisor 16 = .ok (.ifCond .ne 5, 3) := by decide +kernel
theorem dX11_commonDivisor_19 : decode cX11_commonDivisor 19 = .ok (.iload_n 2, 1) := by decide +kernel
theorem dX11_commonDivisor_20 : decode cX11_commonDivisor 20 = .ok (.ireturn, 1) := by decide +kernel
theorem dX11_commonDivisor_21 : decode cX11_commonDivisor 21 = .ok (.iinc 2 (-1), 3) := by decide +kernel
theorem dX11_commonDivisor_24 : decode cX11_commonDivisor 24 = .ok (.goto (-22), 3) := by decide +kernel
theorem dX11_commonDivisor_27 : decode cX11_commonDivisor 27 = .ok (.iconst 1, 1) := by decide +kernel
theorem dX11_commonDivisor_28 : decode cX11_commonDivisor 28 = .ok (.ireturn, 1) := by decide +kernel
theorem dX11_findBest_0 : decode cX11_findBest 0 = .ok (.aload_n 0, 1) := by decide +kernel
theorem dX11_findBest_1 : decode cX11_findBest 1 = .ok (.getfield 10, 3) := by decide +kernel
theorem dX11_findBest_4 : decode cX11_findBest 4 = .ok (.getfield 131, 3) := by decide +kernel
theorem dX11_findBest_7 : decode cX11_findBest 7 = .ok (.iload_n 1, 1) := by decide +kernel
theorem dX11_findBest_8 : decode cX11_findBest 8 = .ok (.iaload, 1) := by decide +kernel
theorem dX11_findBest_9 : decode cX11_findBest 9 = .ok (.istore_n 3, 1) := by decide +kernel
theorem dX11_findBest_10 : decode cX11_findBest 10 = .ok (.aload_n 0, 1) := by decide +kernel
theorem dX11_findBest_11 : decode cX11_findBest 11 = .ok (.getfield 10, 3) := by decide +kernel
theorem dX11_findBest_14 : decode cX11_findBest 14 = .ok (.getfield 134, 3) := by decide +kernel
theorem dX11_findBest_17 : decode cX11_findBest 17 = .ok (.iload_n 1, 1) := by decide +kernel
theorem dX11_findBest_18 : decode cX11_findBest 18 = .ok (.iaload, 1) := by decide +kernel
theorem dX11_findBest_19 : decode cX11_findBest 19 = .ok (.istore 4, 2) := by decide +kernel
theorem dX11_findBest_21 : decode cX11_findBest 21 = .ok (.iload_n 2, 1) := by decide +kernel
theorem dX11_findBest_22 : decode cX11_findBest 22 = .ok (.iconst 1, 1) := by decide +kernel
theorem dX11_findBest_23 : decode cX11_findBest 23 = .ok (.if_icmp .ne 7, 3) := by decide +kernel
theorem dX11_findBest_26 : decode cX11_findBest 26 = .ok (.iload_n 3, 1) := by decide +kernel
theorem dX11_findBest_27 : decode cX11_findBest 27 = .ok (.goto 4, 3) := by decide +kernel
theorem dX11_findBest_30 : decode cX11_findBest 30 = .ok (.iconst 0, 1) := by decide +kernel
theorem dX11_findBest_31 : decode cX11_findBest 31 = .ok (.istore 5, 2) := by decide +kernel
theorem dX11_findBest_33 : decode cX11_findBest 33 = .ok (.iload_n 2, 1) := by decide +kernel
theorem dX11_findBest_34 : decode cX11_findBest 34 = .ok (.iconst 1, 1) := by decide +kernel
theorem dX11_findBest_35 : decode cX11_findBest 35 = .ok (.if_icmp .ne 7, 3) := by decide +kernel
theorem dX11_findBest_38 : decode cX11_findBest 38 = .ok (.iload_n 3, 1) := by decide +kernel
theorem dX11_findBest_39 : decode cX11_findBest 39 = .ok (.goto 5, 3) := by decide +kernel
theorem dX11_findBest_42 : decode cX11_findBest 42 = .ok (.bipush 23, 2) := by decide +kernel
theorem dX11_findBest_44 : decode cX11_findBest 44 = .ok (.istore 6, 2) := by decide +kernel
theorem dX11_findBest_46 : decode cX11_findBest 46 = .ok (.iload_n 2, 1) := by decide +kernel
theorem dX11_findBest_47 : decode cX11_findBest 47 = .ok (.ifCond .ne 8, 3) := by decide +kernel
theorem dX11_findBest_50 : decode cX11_findBest 50 = .ok (.iload 4, 2) := by decide +kernel
theorem dX11_findBest_52 : decode cX11_findBest 52 = .ok (.goto 4, 3) := by decide +kernel
theorem dX11_findBest_55 : decode cX11_findBest 55 = .ok (.iconst 0, 1) := by decide +kernel
theorem dX11_findBest_56 : decode cX11_findBest 56 = .ok (.istore 7, 2) := by decide +kernel
theorem dX11_findBest_58 : decode cX11_findBest 58 = .ok (.iload_n 2, 1) := by decide +kernel
theorem dX11_findBest_59 : decode cX11_findBest 59 = .ok (.ifCond .ne 8, 3) := by decide +kernel
theorem dX11_findBest_62 : decode cX11_findBest 62 = .ok (.iload 4, 2) := by decide +kernel
theorem dX11_findBest_64 : decode cX11_findBest 64 = .ok (.goto 4, 3) := by decide +kernel
theorem dX11_findBest_67 : decode cX11_findBest 67 = .ok (.iconst 3, 1) := by decide +kernel
theorem dX11_findBest_68 : decode cX11_findBest 68 = .ok (.istore 8, 2) := by decide +kernel
theorem dX11_findBest_70 : decode cX11_findBest 70 = .ok (.aload_n 0, 1) := by decide +kernel
theorem dX11_findBest_71 : decode cX11_findBest 71 = .ok (.ldc 181, 2) := by decide +kernel
theorem dX11_findBest_73 : decode cX11_findBest 73 = .ok (.putfield 199, 3) := by decide +kernel
theorem dX11_findBest_76 : decode cX11_findBest 76 = .ok (.aload_n 0, 1) := by decide +kernel
theorem dX11_findBest_77 : decode cX11_findBest 77 = .ok (.getfield 86, 3) := by decide +kernel
theorem dX11_findBest_80 : decode cX11_findBest 80 = .ok (.invokevirtual 220, 3) := by decide +kernel
theorem dX11_findBest_83 : decode cX11_findBest 83 = .ok (.iload 5, 2) := by decide +kernel
theorem dX11_findBest_85 : decode cX11_findBest 85 = .ok (.istore 9, 2) := by decide +kernel
theorem dX11_findBest_87 : decode cX11_findBest 87 = .ok (.iload 9, 2) := by decide +kernel
theorem dX11_findBest_89 : decode cX11_findBest 89 = .ok (.iload 6, 2) := by decide +kernel
theorem dX11_findBest_91 : decode cX11_findBest 91 = .ok (.if_icmp .gt 35, 3) := by decide +kernel
theorem dX11_findBest_94 : decode cX11_findBest 94 = .ok (.iload 7, 2) := by decide +kernel
theorem dX11_findBest_96 : decode cX11_findBest 96 = .ok (.istore 10, 2) := by decide +kernel
theorem dX11_findBest_98 : decode cX11_findBest 98 = .ok (.iload 10, 2) := by decide +kernel
theorem dX11_findBest_100 : decode cX11_findBest 100 = .ok (.iload 8, 2) := by decide +kernel
theorem dX11_findBest_102 : decode cX11_findBest 102 = .ok (.if_icmp .gt 18, 3) := by decide +kernel
theorem dX11_findBest_105 : decode cX11_findBest 105 = .ok (.aload_n 0, 1) := by decide +kernel
theorem dX11_findBest_106 : decode cX11_findBest 106 = .ok (.iload_n 1, 1) := by decide +kernel
theorem dX11_findBest_107 : decode cX11_findBest 107 = .ok (.iload 9, 2) := by decide +kernel
theorem dX11_findBest_109 : decode cX11_findBest 109 = .ok (.iload 10, 2) := by decide +kernel
theorem dX11_findBest_111 : decode cX11_findBest 111 = .ok (.invokevirtual 278, 3) := by decide +kernel
theorem dX11_findBest_114 : decode cX11_findBest 114 = .ok (.iinc 10 1, 3) := by decide +kernel
theorem dX11_findBest_117 : decode cX11_findBest 117 = .ok (.goto (-19), 3) := by decide +kernel
theorem dX11_findBest_120 : decode cX11_findBest 120 = .ok (.iinc 9 1, 3) := by decide +kernel
theorem dX11_findBest_123 : decode cX11_findBest 123 = .ok (.goto (-36), 3) := by decide +kernel
theorem dX11_findBest_126 : decode cX11_findBest 126 = .ok (.aload_n 0, 1) := by decide +kernel
theorem dX11_findBest_127 : decode cX11_findBest 127 = .ok (.getfield 10, 3) := by decide +kernel
theorem dX11_findBest_130 : decode cX11_findBest 130 = .ok (.getfield 131, 3) := by decide +kernel
theorem dX11_findBest_133 : decode cX11_findBest 133 = .ok (.iload_n 1, 1) := by decide +kernel
theorem dX11_findBest_134 : decode cX11_findBest 134 = .ok (.iload_n 3, 1) := by decide +kernel
theorem dX11_findBest_135 : decode cX11_findBest 135 = .ok (.iastore, 1) := by decide +kernel
theorem dX11_findBest_136 : decode cX11_findBest 136 = .ok (.aload_n 0, 1) := by decide +kernel
theorem dX11_findBest_137 : decode cX11_findBest 137 = .ok (.getfield 10, 3) := by decide +kernel
theorem dX11_findBest_140 : decode cX11_findBest 140 = .ok (.getfield 134, 3) := by decide +kernel
theorem dX11_findBest_143 : decode cX11_findBest 143 = .ok (.iload_n 1, 1) := by decide +kernel
theorem dX11_findBest_144 : decode cX11_findBest 144 = .ok (.iload 4, 2) := by decide +kernel
theorem dX11_findBest_146 : decode cX11_findBest 146 = .ok (.iastore, 1) := by decide +kernel
theorem dX11_findBest_147 : decode cX11_findBest 147 = .ok (.return_, 1) := by decide +kernel
theorem dX11_tryBest_0 : decode cX11_tryBest 0 = .ok (.aload_n 0, 1) := by decide +kernel
theorem dX11_tryBest_1 : decode cX11_tryBest 1 = .ok (.getfield 10, 3) := by decide +kernel
theorem dX11_tryBest_4 : decode cX11_tryBest 4 = .ok (.getfield 131, 3) := by decide +kernel
theorem dX11_tryBest_7 : decode cX11_tryBest 7 = .ok (.iload_n 1, 1) := by decide +kernel
theorem dX11_tryBest_8 : decode cX11_tryBest 8 = .ok (.iload_n 2, 1) := by decide +kernel
theorem dX11_tryBest_9 : decode cX11_tryBest 9 = .ok (.iastore, 1) := by decide +kernel
theorem dX11_tryBest_10 : decode cX11_tryBest 10 = .ok (.aload_n 0, 1) := by decide +kernel
theorem dX11_tryBest_11 : decode cX11_tryBest 11 = .ok (.getfield 10, 3) := by decide +kernel
theorem dX11_tryBest_14 : decode cX11_tryBest 14 = .ok (.getfield 134, 3) := by decide +kernel
theorem dX11_tryBest_17 : decode cX11_tryBest 17 = .ok (.iload_n 1, 1) := by decide +kernel
theorem dX11_tryBest_18 : decode cX11_tryBest 18 = .ok (.iload_n 3, 1) := by decide +kernel
theorem dX11_tryBest_19 : decode cX11_tryBest 19 = .ok (.iastore, 1) := by decide +kernel
theorem dX11_tryBest_20 : decode cX11_tryBest 20 = .ok (.aload_n 0, 1) := by decide +kernel
theorem dX11_tryBest_21 : decode cX11_tryBest 21 = .ok (.getfield 86, 3) := by decide +kernel
theorem dX11_tryBest_24 : decode cX11_tryBest 24 = .ok (.iload_n 1, 1) := by decide +kernel
theorem dX11_tryBest_25 : decode cX11_tryBest 25 = .ok (.invokevirtual 167, 3) := by decide +kernel
theorem dX11_tryBest_28 : decode cX11_tryBest 28 = .ok (.aload_n 0, 1) := by decide +kernel
theorem dX11_tryBest_29 : decode cX11_tryBest 29 = .ok (.getfield 86, 3) := by decide +kernel
theorem dX11_tryBest_32 : decode cX11_tryBest 32 = .ok (.invokevirtual 282, 3) := by decide +kernel
theorem dX11_tryBest_35 : decode cX11_tryBest 35 = .ok (.aload_n 0, 1) := by decide +kernel
theorem dX11_tryBest_36 : decode cX11_tryBest 36 = .ok (.getfield 86, 3) := by decide +kernel
theorem dX11_tryBest_39 : decode cX11_tryBest 39 = .ok (.iload_n 1, 1) := by decide +kernel
theorem dX11_tryBest_40 : decode cX11_tryBest 40 = .ok (.invokevirtual 185, 3) := by decide +kernel
theorem dX11_tryBest_43 : decode cX11_tryBest 43 = .ok (.istore 4, 2) := by decide +kernel
theorem dX11_tryBest_45 : decode cX11_tryBest 45 = .ok (.iload 4, 2) := by decide +kernel
theorem dX11_tryBest_47 : decode cX11_tryBest 47 = .ok (.aload_n 0, 1) := by decide +kernel
theorem dX11_tryBest_48 : decode cX11_tryBest 48 = .ok (.getfield 199, 3) := by decide +kernel
theorem dX11_tryBest_51 : decode cX11_tryBest 51 = .ok (.if_icmp .le 19, 3) := by decide +kernel
theorem dX11_tryBest_54 : decode cX11_tryBest 54 = .ok (.aload_n 0, 1) := by decide +kernel
theorem dX11_tryBest_55 : decode cX11_tryBest 55 = .ok (.iload 4, 2) := by decide +kernel
theorem dX11_tryBest_57 : decode cX11_tryBest 57 = .ok (.putfield 199, 3) := by decide +kernel
theorem dX11_tryBest_60 : decode cX11_tryBest 60 = .ok (.aload_n 0, 1) := by decide +kernel
theorem dX11_tryBest_61 : decode cX11_tryBest 61 = .ok (.iload_n 2, 1) := by decide +kernel
theorem dX11_tryBest_62 : decode cX11_tryBest 62 = .ok (.putfield 193, 3) := by decide +kernel
theorem dX11_tryBest_65 : decode cX11_tryBest 65 = .ok (.aload_n 0, 1) := by decide +kernel
theorem dX11_tryBest_66 : decode cX11_tryBest 66 = .ok (.iload_n 3, 1) := by decide +kernel
theorem dX11_tryBest_67 : decode cX11_tryBest 67 = .ok (.putfield 196, 3) := by decide +kernel
theorem dX11_tryBest_70 : decode cX11_tryBest 70 = .ok (.return_, 1) := by decide +kernel
theorem dX11_dawnWithHeight_0 : decode cX11_dawnWithHeight 0 = .ok (.aload_n 0, 1) := by decide +kernel
theorem dX11_dawnWithHeight_1 : decode cX11_dawnWithHeight 1 = .ok (.getfield 10, 3) := by decide +kernel
theorem dX11_dawnWithHeight_4 : decode cX11_dawnWithHeight 4 = .ok (.getfield 101, 3) := by decide +kernel
theorem dX11_dawnWithHeight_7 : decode cX11_dawnWithHeight 7 = .ok (.iload_n 1, 1) := by decide +kernel
theorem dX11_dawnWithHeight_8 : decode cX11_dawnWithHeight 8 = .ok (.iaload, 1) := by decide +kernel
theorem dX11_dawnWithHeight_9 : decode cX11_dawnWithHeight 9 = .ok (.istore_n 3, 1) := by decide +kernel
theorem dX11_dawnWithHeight_10 : decode cX11_dawnWithHeight 10 = .ok (.aload_n 0, 1) := by decide +kernel
theorem dX11_dawnWithHeight_11 : decode cX11_dawnWithHeight 11 = .ok (.getfield 10, 3) := by decide +kernel
theorem dX11_dawnWithHeight_14 : decode cX11_dawnWithHeight 14 = .ok (.getfield 101, 3) := by decide +kernel
theorem dX11_dawnWithHeight_17 : decode cX11_dawnWithHeight 17 = .ok (.iload_n 1, 1) := by decide +kernel
theorem dX11_dawnWithHeight_18 : decode cX11_dawnWithHeight 18 = .ok (.iload_n 2, 1) := by decide +kernel
theorem dX11_dawnWithHeight_19 : decode cX11_dawnWithHeight 19 = .ok (.iastore, 1) := by decide +kernel
theorem dX11_dawnWithHeight_20 : decode cX11_dawnWithHeight 20 = .ok (.aload_n 0, 1) := by decide +kernel
theorem dX11_dawnWithHeight_21 : decode cX11_dawnWithHeight 21 = .ok (.getfield 86, 3) := by decide +kernel
theorem dX11_dawnWithHeight_24 : decode cX11_dawnWithHeight 24 = .ok (.invokevirtual 175, 3) := by decide +kernel
theorem dX11_dawnWithHeight_27 : decode cX11_dawnWithHeight 27 = .ok (.aload_n 0, 1) := by decide +kernel
theorem dX11_dawnWithHeight_28 : decode cX11_dawnWithHeight 28 = .ok (.getfield 10, 3) := by decide +kernel
theorem dX11_dawnWithHeight_31 : decode cX11_dawnWithHeight 31 = .ok (.getfield 101, 3) := by decide +kernel
theorem dX11_dawnWithHeight_34 : decode cX11_dawnWithHeight 34 = .ok (.iload_n 1, 1) := by decide +kernel
theorem dX11_dawnWithHeight_35 : decode cX11_dawnWithHeight 35 = .ok (.iload_n 3, 1) := by decide +kernel
theorem dX11_dawnWithHeight_36 : decode cX11_dawnWithHeight 36 = .ok (.iastore, 1) := by decide +kernel
theorem dX11_dawnWithHeight_37 : decode cX11_dawnWithHeight 37 = .ok (.return_, 1) := by decide +kernel
theorem dX11_refusalOfTale_0 : decode cX11_refusalOfTale 0 = .ok (.aload_n 0, 1) := by decide +kernel
theorem dX11_refusalOfTale_1 : decode cX11_refusalOfTale 1 = .ok (.getfield 92, 3) := by decide +kernel
theorem dX11_refusalOfTale_4 : decode cX11_refusalOfTale 4 = .ok (.iload_n 1, 1) := by decide +kernel
theorem dX11_refusalOfTale_5 : decode cX11_refusalOfTale 5 = .ok (.aaload, 1) := by decide +kernel
theorem dX11_refusalOfTale_6 : decode cX11_refusalOfTale 6 = .ok (.getfield 252, 3) := by decide +kernel
theorem dX11_refusalOfTale_9 : decode cX11_refusalOfTale 9 = .ok (.iconst (-1), 1) := by decide +kernel
theorem dX11_refusalOfTale_10 : decode cX11_refusalOfTale 10 = .ok (.if_icmp .ne 6, 3) := by decide +kernel
theorem dX11_refusalOfTale_13 : decode cX11_refusalOfTale 13 = .ok (.bipush (-11), 2) := by decide +kernel
theorem dX11_refusalOfTale_15 : decode cX11_refusalOfTale 15 = .ok (.ireturn, 1) := by decide +kernel
theorem dX11_refusalOfTale_16 : decode cX11_refusalOfTale 16 = .ok (.aload_n 0, 1) := by decide +kernel
theorem dX11_refusalOfTale_17 : decode cX11_refusalOfTale 17 = .ok (.getfield 92, 3) := by decide +kernel
theorem dX11_refusalOfTale_20 : decode cX11_refusalOfTale 20 = .ok (.iload_n 1, 1) := by decide +kernel
theorem dX11_refusalOfTale_21 : decode cX11_refusalOfTale 21 = .ok (.aaload, 1) := by decide +kernel
theorem dX11_refusalOfTale_22 : decode cX11_refusalOfTale 22 = .ok (.getfield 255, 3) := by decide +kernel
theorem dX11_refusalOfTale_25 : decode cX11_refusalOfTale 25 = .ok (.aload_n 0, 1) := by decide +kernel
theorem dX11_refusalOfTale_26 : decode cX11_refusalOfTale 26 = .ok (.getfield 10, 3) := by decide +kernel
theorem dX11_refusalOfTale_29 : decode cX11_refusalOfTale 29 = .ok (.getfield 125, 3) := by decide +kernel
theorem dX11_refusalOfTale_32 : decode cX11_refusalOfTale 32 = .ok (.if_icmp .ne 7, 3) := by decide +kernel
theorem dX11_refusalOfTale_35 : decode cX11_refusalOfTale 35 = .ok (.iconst 0, 1) := by decide +kernel
theorem dX11_refusalOfTale_36 : decode cX11_refusalOfTale 36 = .ok (.goto 5, 3) := by decide +kernel
theorem dX11_refusalOfTale_39 : decode cX11_refusalOfTale 39 = .ok (.bipush (-2), 2) := by decide +kernel
theorem dX11_refusalOfTale_41 : decode cX11_refusalOfTale 41 = .ok (.ireturn, 1) := by decide +kernel
theorem dX11_firstOtherwise_0 : decode cX11_firstOtherwise 0 = .ok (.iconst 0, 1) := by decide +kernel
theorem dX11_firstOtherwise_1 : decode cX11_firstOtherwise 1 = .ok (.istore_n 2, 1) := by decide +kernel
theorem dX11_firstOtherwise_2 : decode cX11_firstOtherwise 2 = .ok (.iload_n 2, 1) := by decide +kernel
theorem dX11_firstOtherwise_3 : decode cX11_firstOtherwise 3 = .ok (.aload_n 0, 1) := by decide +kernel
theorem dX11_firstOtherwise_4 : decode cX11_firstOtherwise 4 = .ok (.getfield 10, 3) := by decide +kernel
theorem dX11_firstOtherwise_7 : decode cX11_firstOtherwise 7 = .ok (.getfield 125, 3) := by decide +kernel
theorem dX11_firstOtherwise_10 : decode cX11_firstOtherwise 10 = .ok (.if_icmp .ge 37, 3) := by decide +kernel
theorem dX11_firstOtherwise_13 : decode cX11_firstOtherwise 13 = .ok (.iload_n 2, 1) := by decide +kernel
theorem dX11_firstOtherwise_14 : decode cX11_firstOtherwise 14 = .ok (.aload_n 1, 1) := by decide +kernel
theorem dX11_firstOtherwise_15 : decode cX11_firstOtherwise 15 = .ok (.getfield 255, 3) := by decide +kernel
theorem dX11_firstOtherwise_18 : decode cX11_firstOtherwise 18 = .ok (.if_icmp .ge 29, 3) := by decide +kernel
theorem dX11_firstOtherwise_21 : decode cX11_firstOtherwise 21 = .ok (.aload_n 1, 1) := by decide +kernel
theorem dX11_firstOtherwise_22 : decode cX11_firstOtherwise 22 = .ok (.getfield 261, 3) := by decide +kernel
theorem dX11_firstOtherwise_25 : decode cX11_firstOtherwise 25 = .ok (.iload_n 2, 1) := by decide +kernel
theorem dX11_firstOtherwise_26 : decode cX11_firstOtherwise 26 = .ok (.iaload, 1) := by decide +kernel
theorem dX11_firstOtherwise_27 : decode cX11_firstOtherwise 27 = .ok (.aload_n 0, 1) := by decide +kernel
theorem dX11_firstOtherwise_28 : decode cX11_firstOtherwise 28 = .ok (.getfield 86, 3) := by decide +kernel
theorem dX11_firstOtherwise_31 : decode cX11_firstOtherwise 31 = .ok (.getfield 178, 3) := by decide +kernel
theorem dX11_firstOtherwise_34 : decode cX11_firstOtherwise 34 = .ok (.iload_n 2, 1) := by decide +kernel
theorem dX11_firstOtherwise_35 : decode cX11_firstOtherwise 35 = .ok (.iaload, 1) := by decide +kernel
theorem dX11_firstOtherwise_36 : decode cX11_firstOtherwise 36 = .ok (.if_icmp .eq 5, 3) := by decide +kernel
theorem dX11_firstOtherwise_39 : decode cX11_firstOtherwise 39 = .ok (.iload_n 2, 1) := by decide +kernel
theorem dX11_firstOtherwise_40 : decode cX11_firstOtherwise 40 = .ok (.ireturn, 1) := by decide +kernel
theorem dX11_firstOtherwise_41 : decode cX11_firstOtherwise 41 = .ok (.iinc 2 1, 3) := by decide +kernel
theorem dX11_firstOtherwise_44 : decode cX11_firstOtherwise 44 = .ok (.goto (-42), 3) := by decide +kernel
theorem dX11_firstOtherwise_47 : decode cX11_firstOtherwise 47 = .ok (.iconst (-1), 1) := by decide +kernel
theorem dX11_firstOtherwise_48 : decode cX11_firstOtherwise 48 = .ok (.ireturn, 1) := by decide +kernel
theorem dX11_isTold_0 : decode cX11_isTold 0 = .ok (.aload_n 0, 1) := by decide +kernel
theorem dX11_isTold_1 : decode cX11_isTold 1 = .ok (.getfield 10, 3) := by decide +kernel
theorem dX11_isTold_4 : decode cX11_isTold 4 = .ok (.getfield 131, 3) := by decide +kernel
theorem dX11_isTold_7 : decode cX11_isTold 7 = .ok (.iload_n 2, 1) := by decide +kernel
theorem dX11_isTold_8 : decode cX11_isTold 8 = .ok (.iaload, 1) := by decide +kernel
theorem dX11_isTold_9 : decode cX11_isTold 9 = .ok (.istore 5, 2) := by decide +kernel
theorem dX11_isTold_11 : decode cX11_isTold 11 = .ok (.aload_n 0, 1) := by decide +kernel
theorem dX11_isTold_12 : decode cX11_isTold 12 = .ok (.getfield 10, 3) := by decide +kernel
theorem dX11_isTold_15 : decode cX11_isTold 15 = .ok (.getfield 134, 3) := by decide +kernel
theorem dX11_isTold_18 : decode cX11_isTold 18 = .ok (.iload_n 2, 1) := by decide +kernel
theorem dX11_isTold_19 : decode cX11_isTold 19 = .ok (.iaload, 1) := by decide +kernel
theorem dX11_isTold_20 : decode cX11_isTold 20 = .ok (.istore 6, 2) := by decide +kernel
theorem dX11_isTold_22 : decode cX11_isTold 22 = .ok (.aload_n 0, 1) := by decide +kernel
theorem dX11_isTold_23 : decode cX11_isTold 23 = .ok (.getfield 10, 3) := by decide +kernel
theorem dX11_isTold_26 : decode cX11_isTold 26 = .ok (.getfield 131, 3) := by decide +kernel
theorem dX11_isTold_29 : decode cX11_isTold 29 = .ok (.iload_n 2, 1) := by decide +kernel
theorem dX11_isTold_30 : decode cX11_isTold 30 = .ok (.iload_n 3, 1) := by decide +kernel
theorem dX11_isTold_31 : decode cX11_isTold 31 = .ok (.iastore, 1) := by decide +kernel
theorem dX11_isTold_32 : decode cX11_isTold 32 = .ok (.aload_n 0, 1) := by decide +kernel
theorem dX11_isTold_33 : decode cX11_isTold 33 = .ok (.getfield 10, 3) := by decide +kernel
theorem dX11_isTold_36 : decode cX11_isTold 36 = .ok (.getfield 134, 3) := by decide +kernel
theorem dX11_isTold_39 : decode cX11_isTold 39 = .ok (.iload_n 2, 1) := by decide +kernel
theorem dX11_isTold_40 : decode cX11_isTold 40 = .ok (.iload 4, 2) := by decide +kernel
theorem dX11_isTold_42 : decode cX11_isTold 42 = .ok (.iastore, 1) := by decide +kernel
theorem dX11_isTold_43 : decode cX11_isTold 43 = .ok (.aload_n 0, 1) := by decide +kernel
theorem dX11_isTold_44 : decode cX11_isTold 44 = .ok (.getfield 86, 3) := by decide +kernel
theorem dX11_isTold_47 : decode cX11_isTold 47 = .ok (.iload_n 2, 1) := by decide +kernel
theorem dX11_isTold_48 : decode cX11_isTold 48 = .ok (.invokevirtual 167, 3) := by decide +kernel
theorem dX11_isTold_51 : decode cX11_isTold 51 = .ok (.aload_n 0, 1) := by decide +kernel
theorem dX11_isTold_52 : decode cX11_isTold 52 = .ok (.getfield 86, 3) := by decide +kernel
theorem dX11_isTold_55 : decode cX11_isTold 55 = .ok (.invokevirtual 282, 3) := by decide +kernel
theorem dX11_isTold_58 : decode cX11_isTold 58 = .ok (.aload_n 0, 1) := by decide +kernel
theorem dX11_isTold_59 : decode cX11_isTold 59 = .ok (.getfield 10, 3) := by decide +kernel
theorem dX11_isTold_62 : decode cX11_isTold 62 = .ok (.getfield 131, 3) := by decide +kernel
theorem dX11_isTold_65 : decode cX11_isTold 65 = .ok (.iload_n 2, 1) := by decide +kernel
theorem dX11_isTold_66 : decode cX11_isTold 66 = .ok (.iload 5, 2) := by decide +kernel
theorem dX11_isTold_68 : decode cX11_isTold 68 = .ok (.iastore, 1) := by decide +kernel
theorem dX11_isTold_69 : decode cX11_isTold 69 = .ok (.aload_n 0, 1) := by decide +kernel
theorem dX11_isTold_70 : decode cX11_isTold 70 = .ok (.getfield 10, 3) := by decide +kernel
theorem dX11_isTold_73 : decode cX11_isTold 73 = .ok (.getfield 134, 3) := by decide +kernel
theorem dX11_isTold_76 : decode cX11_isTold 76 = .ok (.iload_n 2, 1) := by decide +kernel
theorem dX11_isTold_77 : decode cX11_isTold 77 = .ok (.iload 6, 2) := by decide +kernel
theorem dX11_isTold_79 : decode cX11_isTold 79 = .ok (.iastore, 1) := by decide +kernel
theorem dX11_isTold_80 : decode cX11_isTold 80 = .ok (.aload_n 0, 1) := by decide +kernel
theorem dX11_isTold_81 : decode cX11_isTold 81 = .ok (.aload_n 0, 1) := by decide +kernel
theorem dX11_isTold_82 : decode cX11_isTold 82 = .ok (.getfield 92, 3) := by decide +kernel
theorem dX11_isTold_85 : decode cX11_isTold 85 = .ok (.iload_n 1, 1) := by decide +kernel
theorem dX11_isTold_86 : decode cX11_isTold 86 = .ok (.aaload, 1) := by decide +kernel
theorem dX11_isTold_87 : decode cX11_isTold 87 = .ok (.invokevirtual 227, 3) := by decide +kernel
theorem dX11_isTold_90 : decode cX11_isTold 90 = .ok (.iconst (-1), 1) := by decide +kernel
theorem dX11_isTold_91 : decode cX11_isTold 91 = .ok (.if_icmp .ne 7, 3) := by decide +kernel
theorem dX11_isTold_94 : decode cX11_isTold 94 = .ok (.iconst 1, 1) := by decide +kernel
theorem dX11_isTold_95 : decode cX11_isTold 95 = .ok (.goto 4, 3) := by decide +kernel
theorem dX11_isTold_98 : decode cX11_isTold 98 = .ok (.iconst 0, 1) := by decide +kernel
theorem dX11_isTold_99 : decode cX11_isTold 99 = .ok (.ireturn, 1) := by decide +kernel
